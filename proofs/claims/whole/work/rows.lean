section
-- ===== PART A: goes FIRST, ahead of the names: the tables' words, and 'selects' of the private methods out of them =====
/-- a private method of a class that the tables say can be made, by its rows of tables_1 -/
def lw_okq (q : MethodName × Nat) : Prop := (q.1.cls ≠ "java/lang/invoke/MethodHandle" ∧ q.1.cls ≠ "java/lang/invoke/VarHandle") ∧ Cond.instantiable q.1.cls q.2 ∈ tables_1 ∧ Cond.privateMethod q.1 ∈ tables_1 ∧ Cond.instanceMethod q.1 ∈ tables_1
theorem lw_p0 : lw_okq (⟨"MacroReader$Source", "addLine", "(II)V"⟩, 4) := ⟨⟨by decide +kernel, by decide +kernel⟩, List.mem_of_getElem? (i := 36) (by decide +kernel), List.mem_of_getElem? (i := 300) (by decide +kernel), List.mem_of_getElem? (i := 301) (by decide +kernel)⟩
theorem lw_p1 : lw_okq (⟨"MacroReader$Bytes", "holds", "(II)Z"⟩, 3) := ⟨⟨by decide +kernel, by decide +kernel⟩, List.mem_of_getElem? (i := 56) (by decide +kernel), List.mem_of_getElem? (i := 361) (by decide +kernel), List.mem_of_getElem? (i := 362) (by decide +kernel)⟩
theorem lw_p2 : lw_okq (⟨"MacroReader", "limit", "()I"⟩, 13) := ⟨⟨by decide +kernel, by decide +kernel⟩, List.mem_of_getElem? (i := 28) (by decide +kernel), List.mem_of_getElem? (i := 453) (by decide +kernel), List.mem_of_getElem? (i := 454) (by decide +kernel)⟩
theorem lw_p3 : lw_okq (⟨"MacroReader$Nest", "at", "(I)LMacroReader$Part;"⟩, 2) := ⟨⟨by decide +kernel, by decide +kernel⟩, List.mem_of_getElem? (i := 122) (by decide +kernel), List.mem_of_getElem? (i := 461) (by decide +kernel), List.mem_of_getElem? (i := 462) (by decide +kernel)⟩
theorem lw_p4 : lw_okq (⟨"MacroReader", "readLine", "()I"⟩, 13) := ⟨⟨by decide +kernel, by decide +kernel⟩, List.mem_of_getElem? (i := 28) (by decide +kernel), List.mem_of_getElem? (i := 469) (by decide +kernel), List.mem_of_getElem? (i := 470) (by decide +kernel)⟩
theorem lw_p5 : lw_okq (⟨"MacroReader", "fill", "(I)Z"⟩, 13) := ⟨⟨by decide +kernel, by decide +kernel⟩, List.mem_of_getElem? (i := 28) (by decide +kernel), List.mem_of_getElem? (i := 473) (by decide +kernel), List.mem_of_getElem? (i := 474) (by decide +kernel)⟩
theorem lw_p6 : lw_okq (⟨"MacroReader$Part", "writeAt", "(LMacroReader$Bytes;IILMacroReader$Bytes;)I"⟩, 11) := ⟨⟨by decide +kernel, by decide +kernel⟩, List.mem_of_getElem? (i := 129) (by decide +kernel), List.mem_of_getElem? (i := 506) (by decide +kernel), List.mem_of_getElem? (i := 507) (by decide +kernel)⟩
theorem lw_p7 : lw_okq (⟨"MacroReader", "tell", "(I)I"⟩, 13) := ⟨⟨by decide +kernel, by decide +kernel⟩, List.mem_of_getElem? (i := 28) (by decide +kernel), List.mem_of_getElem? (i := 533) (by decide +kernel), List.mem_of_getElem? (i := 534) (by decide +kernel)⟩
theorem lw_p8 : lw_okq (⟨"MacroReader$Tokens", "take", "(I)I"⟩, 7) := ⟨⟨by decide +kernel, by decide +kernel⟩, List.mem_of_getElem? (i := 92) (by decide +kernel), List.mem_of_getElem? (i := 545) (by decide +kernel), List.mem_of_getElem? (i := 546) (by decide +kernel)⟩
theorem lw_p9 : lw_okq (⟨"MacroReader$Tokens", "takeNumber", "(I)I"⟩, 7) := ⟨⟨by decide +kernel, by decide +kernel⟩, List.mem_of_getElem? (i := 92) (by decide +kernel), List.mem_of_getElem? (i := 550) (by decide +kernel), List.mem_of_getElem? (i := 551) (by decide +kernel)⟩
theorem lw_p10 : lw_okq (⟨"MacroReader$Tokens", "hasRoom", "(II)Z"⟩, 7) := ⟨⟨by decide +kernel, by decide +kernel⟩, List.mem_of_getElem? (i := 92) (by decide +kernel), List.mem_of_getElem? (i := 560) (by decide +kernel), List.mem_of_getElem? (i := 561) (by decide +kernel)⟩
theorem lw_p11 : lw_okq (⟨"MacroReader$Tokens", "takeCharacter", "(I)I"⟩, 7) := ⟨⟨by decide +kernel, by decide +kernel⟩, List.mem_of_getElem? (i := 92) (by decide +kernel), List.mem_of_getElem? (i := 567) (by decide +kernel), List.mem_of_getElem? (i := 568) (by decide +kernel)⟩
theorem lw_p12 : lw_okq (⟨"MacroReader$Tokens", "behindCharacter", "(II)I"⟩, 7) := ⟨⟨by decide +kernel, by decide +kernel⟩, List.mem_of_getElem? (i := 92) (by decide +kernel), List.mem_of_getElem? (i := 571) (by decide +kernel), List.mem_of_getElem? (i := 572) (by decide +kernel)⟩
theorem lw_p13 : lw_okq (⟨"MacroReader$Tokens", "takeText", "(I)I"⟩, 7) := ⟨⟨by decide +kernel, by decide +kernel⟩, List.mem_of_getElem? (i := 92) (by decide +kernel), List.mem_of_getElem? (i := 581) (by decide +kernel), List.mem_of_getElem? (i := 582) (by decide +kernel)⟩
theorem lw_p14 : lw_okq (⟨"MacroReader$Tokens", "takeSign", "(II)I"⟩, 7) := ⟨⟨by decide +kernel, by decide +kernel⟩, List.mem_of_getElem? (i := 92) (by decide +kernel), List.mem_of_getElem? (i := 585) (by decide +kernel), List.mem_of_getElem? (i := 586) (by decide +kernel)⟩
theorem lw_p15 : lw_okq (⟨"MacroReader", "obey", "(I)I"⟩, 13) := ⟨⟨by decide +kernel, by decide +kernel⟩, List.mem_of_getElem? (i := 28) (by decide +kernel), List.mem_of_getElem? (i := 605) (by decide +kernel), List.mem_of_getElem? (i := 606) (by decide +kernel)⟩
def lw_privs_1 : List (MethodName × Nat) := [(⟨"MacroReader$Source", "addLine", "(II)V"⟩, 4), (⟨"MacroReader$Bytes", "holds", "(II)Z"⟩, 3), (⟨"MacroReader", "limit", "()I"⟩, 13), (⟨"MacroReader$Nest", "at", "(I)LMacroReader$Part;"⟩, 2), (⟨"MacroReader", "readLine", "()I"⟩, 13), (⟨"MacroReader", "fill", "(I)Z"⟩, 13), (⟨"MacroReader$Part", "writeAt", "(LMacroReader$Bytes;IILMacroReader$Bytes;)I"⟩, 11), (⟨"MacroReader", "tell", "(I)I"⟩, 13), (⟨"MacroReader$Tokens", "take", "(I)I"⟩, 7), (⟨"MacroReader$Tokens", "takeNumber", "(I)I"⟩, 7), (⟨"MacroReader$Tokens", "hasRoom", "(II)Z"⟩, 7), (⟨"MacroReader$Tokens", "takeCharacter", "(I)I"⟩, 7), (⟨"MacroReader$Tokens", "behindCharacter", "(II)I"⟩, 7), (⟨"MacroReader$Tokens", "takeText", "(I)I"⟩, 7), (⟨"MacroReader$Tokens", "takeSign", "(II)I"⟩, 7), (⟨"MacroReader", "obey", "(I)I"⟩, 13)]
theorem lw_r1 : ∀ q ∈ lw_privs_1, lw_okq q := List.forall_mem_cons.mpr ⟨lw_p0, List.forall_mem_cons.mpr ⟨lw_p1, List.forall_mem_cons.mpr ⟨lw_p2, List.forall_mem_cons.mpr ⟨lw_p3, List.forall_mem_cons.mpr ⟨lw_p4, List.forall_mem_cons.mpr ⟨lw_p5, List.forall_mem_cons.mpr ⟨lw_p6, List.forall_mem_cons.mpr ⟨lw_p7, List.forall_mem_cons.mpr ⟨lw_p8, List.forall_mem_cons.mpr ⟨lw_p9, List.forall_mem_cons.mpr ⟨lw_p10, List.forall_mem_cons.mpr ⟨lw_p11, List.forall_mem_cons.mpr ⟨lw_p12, List.forall_mem_cons.mpr ⟨lw_p13, List.forall_mem_cons.mpr ⟨lw_p14, List.forall_mem_cons.mpr ⟨lw_p15, fun _ h => absurd h List.not_mem_nil⟩⟩⟩⟩⟩⟩⟩⟩⟩⟩⟩⟩⟩⟩⟩⟩
theorem lw_p16 : lw_okq (⟨"MacroReader", "readIf", "()I"⟩, 13) := ⟨⟨by decide +kernel, by decide +kernel⟩, List.mem_of_getElem? (i := 28) (by decide +kernel), List.mem_of_getElem? (i := 609) (by decide +kernel), List.mem_of_getElem? (i := 610) (by decide +kernel)⟩
theorem lw_p17 : lw_okq (⟨"MacroReader", "isEndMissing", "(I)Z"⟩, 13) := ⟨⟨by decide +kernel, by decide +kernel⟩, List.mem_of_getElem? (i := 28) (by decide +kernel), List.mem_of_getElem? (i := 624) (by decide +kernel), List.mem_of_getElem? (i := 625) (by decide +kernel)⟩
theorem lw_p18 : lw_okq (⟨"MacroReader", "isNumberAlone", "()Z"⟩, 13) := ⟨⟨by decide +kernel, by decide +kernel⟩, List.mem_of_getElem? (i := 28) (by decide +kernel), List.mem_of_getElem? (i := 628) (by decide +kernel), List.mem_of_getElem? (i := 629) (by decide +kernel)⟩
theorem lw_p19 : lw_okq (⟨"MacroReader", "tellUnended", "()I"⟩, 13) := ⟨⟨by decide +kernel, by decide +kernel⟩, List.mem_of_getElem? (i := 28) (by decide +kernel), List.mem_of_getElem? (i := 644) (by decide +kernel), List.mem_of_getElem? (i := 645) (by decide +kernel)⟩
theorem lw_p20 : lw_okq (⟨"MacroReader", "readElse", "()I"⟩, 13) := ⟨⟨by decide +kernel, by decide +kernel⟩, List.mem_of_getElem? (i := 28) (by decide +kernel), List.mem_of_getElem? (i := 652) (by decide +kernel), List.mem_of_getElem? (i := 653) (by decide +kernel)⟩
theorem lw_p21 : lw_okq (⟨"MacroReader", "readEndif", "()I"⟩, 13) := ⟨⟨by decide +kernel, by decide +kernel⟩, List.mem_of_getElem? (i := 28) (by decide +kernel), List.mem_of_getElem? (i := 668) (by decide +kernel), List.mem_of_getElem? (i := 669) (by decide +kernel)⟩
theorem lw_p22 : lw_okq (⟨"MacroReader", "readRept", "()I"⟩, 13) := ⟨⟨by decide +kernel, by decide +kernel⟩, List.mem_of_getElem? (i := 28) (by decide +kernel), List.mem_of_getElem? (i := 672) (by decide +kernel), List.mem_of_getElem? (i := 673) (by decide +kernel)⟩
theorem lw_p23 : lw_okq (⟨"MacroReader", "readMacro", "()I"⟩, 13) := ⟨⟨by decide +kernel, by decide +kernel⟩, List.mem_of_getElem? (i := 28) (by decide +kernel), List.mem_of_getElem? (i := 681) (by decide +kernel), List.mem_of_getElem? (i := 682) (by decide +kernel)⟩
theorem lw_p24 : lw_okq (⟨"MacroReader", "isTaken", "(I)Z"⟩, 13) := ⟨⟨by decide +kernel, by decide +kernel⟩, List.mem_of_getElem? (i := 28) (by decide +kernel), List.mem_of_getElem? (i := 685) (by decide +kernel), List.mem_of_getElem? (i := 686) (by decide +kernel)⟩
theorem lw_p25 : lw_okq (⟨"MacroReader", "macroNamed", "(I)LMacroReader$Macro;"⟩, 13) := ⟨⟨by decide +kernel, by decide +kernel⟩, List.mem_of_getElem? (i := 28) (by decide +kernel), List.mem_of_getElem? (i := 689) (by decide +kernel), List.mem_of_getElem? (i := 690) (by decide +kernel)⟩
theorem lw_p26 : lw_okq (⟨"MacroReader", "isHeading", "()Z"⟩, 13) := ⟨⟨by decide +kernel, by decide +kernel⟩, List.mem_of_getElem? (i := 28) (by decide +kernel), List.mem_of_getElem? (i := 711) (by decide +kernel), List.mem_of_getElem? (i := 712) (by decide +kernel)⟩
theorem lw_p27 : lw_okq (⟨"java/util/ArrayList", "add", "(Ljava/lang/Object;[Ljava/lang/Object;I)V"⟩, 3) := ⟨⟨by decide +kernel, by decide +kernel⟩, List.mem_of_getElem? (i := 187) (by decide +kernel), List.mem_of_getElem? (i := 753) (by decide +kernel), List.mem_of_getElem? (i := 754) (by decide +kernel)⟩
theorem lw_p28 : lw_okq (⟨"java/util/ArrayList", "grow", "()[Ljava/lang/Object;"⟩, 3) := ⟨⟨by decide +kernel, by decide +kernel⟩, List.mem_of_getElem? (i := 187) (by decide +kernel), List.mem_of_getElem? (i := 757) (by decide +kernel), List.mem_of_getElem? (i := 758) (by decide +kernel)⟩
theorem lw_p29 : lw_okq (⟨"java/util/ArrayList", "grow", "(I)[Ljava/lang/Object;"⟩, 3) := ⟨⟨by decide +kernel, by decide +kernel⟩, List.mem_of_getElem? (i := 187) (by decide +kernel), List.mem_of_getElem? (i := 761) (by decide +kernel), List.mem_of_getElem? (i := 762) (by decide +kernel)⟩
theorem lw_p30 : lw_okq (⟨"MacroReader", "readMacroLines", "(LMacroReader$Macro;)I"⟩, 13) := ⟨⟨by decide +kernel, by decide +kernel⟩, List.mem_of_getElem? (i := 28) (by decide +kernel), List.mem_of_getElem? (i := 799) (by decide +kernel), List.mem_of_getElem? (i := 800) (by decide +kernel)⟩
theorem lw_p31 : lw_okq (⟨"MacroReader$Part", "keep", "(LMacroReader$Tokens;II)V"⟩, 11) := ⟨⟨by decide +kernel, by decide +kernel⟩, List.mem_of_getElem? (i := 129) (by decide +kernel), List.mem_of_getElem? (i := 816) (by decide +kernel), List.mem_of_getElem? (i := 817) (by decide +kernel)⟩
def lw_privs_2 : List (MethodName × Nat) := [(⟨"MacroReader", "readIf", "()I"⟩, 13), (⟨"MacroReader", "isEndMissing", "(I)Z"⟩, 13), (⟨"MacroReader", "isNumberAlone", "()Z"⟩, 13), (⟨"MacroReader", "tellUnended", "()I"⟩, 13), (⟨"MacroReader", "readElse", "()I"⟩, 13), (⟨"MacroReader", "readEndif", "()I"⟩, 13), (⟨"MacroReader", "readRept", "()I"⟩, 13), (⟨"MacroReader", "readMacro", "()I"⟩, 13), (⟨"MacroReader", "isTaken", "(I)Z"⟩, 13), (⟨"MacroReader", "macroNamed", "(I)LMacroReader$Macro;"⟩, 13), (⟨"MacroReader", "isHeading", "()Z"⟩, 13), (⟨"java/util/ArrayList", "add", "(Ljava/lang/Object;[Ljava/lang/Object;I)V"⟩, 3), (⟨"java/util/ArrayList", "grow", "()[Ljava/lang/Object;"⟩, 3), (⟨"java/util/ArrayList", "grow", "(I)[Ljava/lang/Object;"⟩, 3), (⟨"MacroReader", "readMacroLines", "(LMacroReader$Macro;)I"⟩, 13), (⟨"MacroReader$Part", "keep", "(LMacroReader$Tokens;II)V"⟩, 11)]
theorem lw_r2 : ∀ q ∈ lw_privs_2, lw_okq q := List.forall_mem_cons.mpr ⟨lw_p16, List.forall_mem_cons.mpr ⟨lw_p17, List.forall_mem_cons.mpr ⟨lw_p18, List.forall_mem_cons.mpr ⟨lw_p19, List.forall_mem_cons.mpr ⟨lw_p20, List.forall_mem_cons.mpr ⟨lw_p21, List.forall_mem_cons.mpr ⟨lw_p22, List.forall_mem_cons.mpr ⟨lw_p23, List.forall_mem_cons.mpr ⟨lw_p24, List.forall_mem_cons.mpr ⟨lw_p25, List.forall_mem_cons.mpr ⟨lw_p26, List.forall_mem_cons.mpr ⟨lw_p27, List.forall_mem_cons.mpr ⟨lw_p28, List.forall_mem_cons.mpr ⟨lw_p29, List.forall_mem_cons.mpr ⟨lw_p30, List.forall_mem_cons.mpr ⟨lw_p31, fun _ h => absurd h List.not_mem_nil⟩⟩⟩⟩⟩⟩⟩⟩⟩⟩⟩⟩⟩⟩⟩⟩
theorem lw_p32 : lw_okq (⟨"MacroReader", "endLines", "()I"⟩, 13) := ⟨⟨by decide +kernel, by decide +kernel⟩, List.mem_of_getElem? (i := 28) (by decide +kernel), List.mem_of_getElem? (i := 828) (by decide +kernel), List.mem_of_getElem? (i := 829) (by decide +kernel)⟩
theorem lw_p33 : lw_okq (⟨"java/lang/Throwable", "fillInStackTrace", "(I)Ljava/lang/Throwable;"⟩, 6) := ⟨⟨by decide +kernel, by decide +kernel⟩, List.mem_of_getElem? (i := 870) (by decide +kernel), List.mem_of_getElem? (i := 868) (by decide +kernel), List.mem_of_getElem? (i := 869) (by decide +kernel)⟩
theorem lw_p34 : lw_okq (⟨"MacroReaderModel", "linesOfSource", "()I"⟩, 50) := ⟨⟨by decide +kernel, by decide +kernel⟩, List.mem_of_getElem? (i := 899) (by decide +kernel), List.mem_of_getElem? (i := 1075) (by decide +kernel), List.mem_of_getElem? (i := 1076) (by decide +kernel)⟩
theorem lw_p35 : lw_okq (⟨"MacroReaderModel", "endOfLine", "(I)I"⟩, 50) := ⟨⟨by decide +kernel, by decide +kernel⟩, List.mem_of_getElem? (i := 899) (by decide +kernel), List.mem_of_getElem? (i := 1079) (by decide +kernel), List.mem_of_getElem? (i := 1080) (by decide +kernel)⟩
theorem lw_p36 : lw_okq (⟨"MacroReaderModel", "nextLine", "()Z"⟩, 50) := ⟨⟨by decide +kernel, by decide +kernel⟩, List.mem_of_getElem? (i := 899) (by decide +kernel), List.mem_of_getElem? (i := 1087) (by decide +kernel), List.mem_of_getElem? (i := 1088) (by decide +kernel)⟩
theorem lw_p37 : lw_okq (⟨"MacroReaderModel", "reader", "()I"⟩, 50) := ⟨⟨by decide +kernel, by decide +kernel⟩, List.mem_of_getElem? (i := 899) (by decide +kernel), List.mem_of_getElem? (i := 1091) (by decide +kernel), List.mem_of_getElem? (i := 1092) (by decide +kernel)⟩
theorem lw_p38 : lw_okq (⟨"MacroReaderModel", "fail", "(I)V"⟩, 50) := ⟨⟨by decide +kernel, by decide +kernel⟩, List.mem_of_getElem? (i := 899) (by decide +kernel), List.mem_of_getElem? (i := 1095) (by decide +kernel), List.mem_of_getElem? (i := 1096) (by decide +kernel)⟩
theorem lw_p39 : lw_okq (⟨"MacroReaderModel", "ownLine", "()I"⟩, 50) := ⟨⟨by decide +kernel, by decide +kernel⟩, List.mem_of_getElem? (i := 899) (by decide +kernel), List.mem_of_getElem? (i := 1099) (by decide +kernel), List.mem_of_getElem? (i := 1100) (by decide +kernel)⟩
theorem lw_p40 : lw_okq (⟨"MacroReaderModel", "readLine", "()Z"⟩, 50) := ⟨⟨by decide +kernel, by decide +kernel⟩, List.mem_of_getElem? (i := 899) (by decide +kernel), List.mem_of_getElem? (i := 1103) (by decide +kernel), List.mem_of_getElem? (i := 1104) (by decide +kernel)⟩
theorem lw_p41 : lw_okq (⟨"MacroReaderModel", "expand", "()V"⟩, 50) := ⟨⟨by decide +kernel, by decide +kernel⟩, List.mem_of_getElem? (i := 899) (by decide +kernel), List.mem_of_getElem? (i := 1107) (by decide +kernel), List.mem_of_getElem? (i := 1108) (by decide +kernel)⟩
theorem lw_p42 : lw_okq (⟨"MacroReaderModel", "macroFrame", "()I"⟩, 50) := ⟨⟨by decide +kernel, by decide +kernel⟩, List.mem_of_getElem? (i := 899) (by decide +kernel), List.mem_of_getElem? (i := 1111) (by decide +kernel), List.mem_of_getElem? (i := 1112) (by decide +kernel)⟩
theorem lw_p43 : lw_okq (⟨"MacroReaderModel", "parameterAt", "(III)I"⟩, 50) := ⟨⟨by decide +kernel, by decide +kernel⟩, List.mem_of_getElem? (i := 899) (by decide +kernel), List.mem_of_getElem? (i := 1115) (by decide +kernel), List.mem_of_getElem? (i := 1116) (by decide +kernel)⟩
theorem lw_p44 : lw_okq (⟨"MacroReaderModel", "append", "(I)V"⟩, 50) := ⟨⟨by decide +kernel, by decide +kernel⟩, List.mem_of_getElem? (i := 899) (by decide +kernel), List.mem_of_getElem? (i := 1128) (by decide +kernel), List.mem_of_getElem? (i := 1129) (by decide +kernel)⟩
theorem lw_p45 : lw_okq (⟨"MacroReaderModel", "appendNumber", "(I)V"⟩, 50) := ⟨⟨by decide +kernel, by decide +kernel⟩, List.mem_of_getElem? (i := 899) (by decide +kernel), List.mem_of_getElem? (i := 1132) (by decide +kernel), List.mem_of_getElem? (i := 1133) (by decide +kernel)⟩
theorem lw_p46 : lw_okq (⟨"MacroReaderModel", "readTokens", "()V"⟩, 50) := ⟨⟨by decide +kernel, by decide +kernel⟩, List.mem_of_getElem? (i := 899) (by decide +kernel), List.mem_of_getElem? (i := 1136) (by decide +kernel), List.mem_of_getElem? (i := 1137) (by decide +kernel)⟩
theorem lw_p47 : lw_okq (⟨"MacroReaderModel", "readToken", "(I)I"⟩, 50) := ⟨⟨by decide +kernel, by decide +kernel⟩, List.mem_of_getElem? (i := 899) (by decide +kernel), List.mem_of_getElem? (i := 1140) (by decide +kernel), List.mem_of_getElem? (i := 1141) (by decide +kernel)⟩
def lw_privs_3 : List (MethodName × Nat) := [(⟨"MacroReader", "endLines", "()I"⟩, 13), (⟨"java/lang/Throwable", "fillInStackTrace", "(I)Ljava/lang/Throwable;"⟩, 6), (⟨"MacroReaderModel", "linesOfSource", "()I"⟩, 50), (⟨"MacroReaderModel", "endOfLine", "(I)I"⟩, 50), (⟨"MacroReaderModel", "nextLine", "()Z"⟩, 50), (⟨"MacroReaderModel", "reader", "()I"⟩, 50), (⟨"MacroReaderModel", "fail", "(I)V"⟩, 50), (⟨"MacroReaderModel", "ownLine", "()I"⟩, 50), (⟨"MacroReaderModel", "readLine", "()Z"⟩, 50), (⟨"MacroReaderModel", "expand", "()V"⟩, 50), (⟨"MacroReaderModel", "macroFrame", "()I"⟩, 50), (⟨"MacroReaderModel", "parameterAt", "(III)I"⟩, 50), (⟨"MacroReaderModel", "append", "(I)V"⟩, 50), (⟨"MacroReaderModel", "appendNumber", "(I)V"⟩, 50), (⟨"MacroReaderModel", "readTokens", "()V"⟩, 50), (⟨"MacroReaderModel", "readToken", "(I)I"⟩, 50)]
theorem lw_r3 : ∀ q ∈ lw_privs_3, lw_okq q := List.forall_mem_cons.mpr ⟨lw_p32, List.forall_mem_cons.mpr ⟨lw_p33, List.forall_mem_cons.mpr ⟨lw_p34, List.forall_mem_cons.mpr ⟨lw_p35, List.forall_mem_cons.mpr ⟨lw_p36, List.forall_mem_cons.mpr ⟨lw_p37, List.forall_mem_cons.mpr ⟨lw_p38, List.forall_mem_cons.mpr ⟨lw_p39, List.forall_mem_cons.mpr ⟨lw_p40, List.forall_mem_cons.mpr ⟨lw_p41, List.forall_mem_cons.mpr ⟨lw_p42, List.forall_mem_cons.mpr ⟨lw_p43, List.forall_mem_cons.mpr ⟨lw_p44, List.forall_mem_cons.mpr ⟨lw_p45, List.forall_mem_cons.mpr ⟨lw_p46, List.forall_mem_cons.mpr ⟨lw_p47, fun _ h => absurd h List.not_mem_nil⟩⟩⟩⟩⟩⟩⟩⟩⟩⟩⟩⟩⟩⟩⟩⟩
theorem lw_p48 : lw_okq (⟨"MacroReaderModel", "numberToken", "(I)I"⟩, 50) := ⟨⟨by decide +kernel, by decide +kernel⟩, List.mem_of_getElem? (i := 899) (by decide +kernel), List.mem_of_getElem? (i := 1144) (by decide +kernel), List.mem_of_getElem? (i := 1145) (by decide +kernel)⟩
theorem lw_p49 : lw_okq (⟨"MacroReaderModel", "token", "(IIIJ)V"⟩, 50) := ⟨⟨by decide +kernel, by decide +kernel⟩, List.mem_of_getElem? (i := 899) (by decide +kernel), List.mem_of_getElem? (i := 1159) (by decide +kernel), List.mem_of_getElem? (i := 1160) (by decide +kernel)⟩
theorem lw_p50 : lw_okq (⟨"MacroReaderModel", "character", "(II)I"⟩, 50) := ⟨⟨by decide +kernel, by decide +kernel⟩, List.mem_of_getElem? (i := 899) (by decide +kernel), List.mem_of_getElem? (i := 1167) (by decide +kernel), List.mem_of_getElem? (i := 1168) (by decide +kernel)⟩
theorem lw_p51 : lw_okq (⟨"MacroReaderModel", "isName", "(I)Z"⟩, 50) := ⟨⟨by decide +kernel, by decide +kernel⟩, List.mem_of_getElem? (i := 899) (by decide +kernel), List.mem_of_getElem? (i := 1173) (by decide +kernel), List.mem_of_getElem? (i := 1174) (by decide +kernel)⟩
theorem lw_p52 : lw_okq (⟨"MacroReaderModel", "macroNamed", "(I)I"⟩, 50) := ⟨⟨by decide +kernel, by decide +kernel⟩, List.mem_of_getElem? (i := 899) (by decide +kernel), List.mem_of_getElem? (i := 1187) (by decide +kernel), List.mem_of_getElem? (i := 1188) (by decide +kernel)⟩
theorem lw_p53 : lw_okq (⟨"MacroReaderModel", "nesting", "(II)V"⟩, 50) := ⟨⟨by decide +kernel, by decide +kernel⟩, List.mem_of_getElem? (i := 899) (by decide +kernel), List.mem_of_getElem? (i := 1191) (by decide +kernel), List.mem_of_getElem? (i := 1192) (by decide +kernel)⟩
theorem lw_p54 : lw_okq (⟨"MacroReaderModel", "findEnd", "(IIIIIZ)Z"⟩, 50) := ⟨⟨by decide +kernel, by decide +kernel⟩, List.mem_of_getElem? (i := 899) (by decide +kernel), List.mem_of_getElem? (i := 1195) (by decide +kernel), List.mem_of_getElem? (i := 1196) (by decide +kernel)⟩
theorem lw_p55 : lw_okq (⟨"MacroReaderModel", "firstWord", "(II)I"⟩, 50) := ⟨⟨by decide +kernel, by decide +kernel⟩, List.mem_of_getElem? (i := 899) (by decide +kernel), List.mem_of_getElem? (i := 1199) (by decide +kernel), List.mem_of_getElem? (i := 1200) (by decide +kernel)⟩
theorem lw_p56 : lw_okq (⟨"MacroReaderModel", "split", "()V"⟩, 50) := ⟨⟨by decide +kernel, by decide +kernel⟩, List.mem_of_getElem? (i := 899) (by decide +kernel), List.mem_of_getElem? (i := 1203) (by decide +kernel), List.mem_of_getElem? (i := 1204) (by decide +kernel)⟩
theorem lw_p57 : lw_okq (⟨"MacroReaderModel", "isSign", "(II)Z"⟩, 50) := ⟨⟨by decide +kernel, by decide +kernel⟩, List.mem_of_getElem? (i := 899) (by decide +kernel), List.mem_of_getElem? (i := 1207) (by decide +kernel), List.mem_of_getElem? (i := 1208) (by decide +kernel)⟩
theorem lw_p58 : lw_okq (⟨"MacroReaderModel", "parametersOf", "(I)I"⟩, 50) := ⟨⟨by decide +kernel, by decide +kernel⟩, List.mem_of_getElem? (i := 899) (by decide +kernel), List.mem_of_getElem? (i := 1211) (by decide +kernel), List.mem_of_getElem? (i := 1212) (by decide +kernel)⟩
theorem lw_p59 : lw_okq (⟨"MacroReaderModel", "call", "(I)V"⟩, 50) := ⟨⟨by decide +kernel, by decide +kernel⟩, List.mem_of_getElem? (i := 899) (by decide +kernel), List.mem_of_getElem? (i := 1215) (by decide +kernel), List.mem_of_getElem? (i := 1216) (by decide +kernel)⟩
theorem lw_p60 : lw_okq (⟨"MacroReaderModel", "enter", "(III)V"⟩, 50) := ⟨⟨by decide +kernel, by decide +kernel⟩, List.mem_of_getElem? (i := 899) (by decide +kernel), List.mem_of_getElem? (i := 1219) (by decide +kernel), List.mem_of_getElem? (i := 1220) (by decide +kernel)⟩
theorem lw_p61 : lw_okq (⟨"MacroReaderModel", "structure", "(I)V"⟩, 50) := ⟨⟨by decide +kernel, by decide +kernel⟩, List.mem_of_getElem? (i := 899) (by decide +kernel), List.mem_of_getElem? (i := 1223) (by decide +kernel), List.mem_of_getElem? (i := 1224) (by decide +kernel)⟩
theorem lw_p62 : lw_okq (⟨"MacroReaderModel", "macro", "()V"⟩, 50) := ⟨⟨by decide +kernel, by decide +kernel⟩, List.mem_of_getElem? (i := 899) (by decide +kernel), List.mem_of_getElem? (i := 1227) (by decide +kernel), List.mem_of_getElem? (i := 1228) (by decide +kernel)⟩
theorem lw_p63 : lw_okq (⟨"MacroReaderModel", "goBehind", "()V"⟩, 50) := ⟨⟨by decide +kernel, by decide +kernel⟩, List.mem_of_getElem? (i := 899) (by decide +kernel), List.mem_of_getElem? (i := 1231) (by decide +kernel), List.mem_of_getElem? (i := 1232) (by decide +kernel)⟩
def lw_privs_4 : List (MethodName × Nat) := [(⟨"MacroReaderModel", "numberToken", "(I)I"⟩, 50), (⟨"MacroReaderModel", "token", "(IIIJ)V"⟩, 50), (⟨"MacroReaderModel", "character", "(II)I"⟩, 50), (⟨"MacroReaderModel", "isName", "(I)Z"⟩, 50), (⟨"MacroReaderModel", "macroNamed", "(I)I"⟩, 50), (⟨"MacroReaderModel", "nesting", "(II)V"⟩, 50), (⟨"MacroReaderModel", "findEnd", "(IIIIIZ)Z"⟩, 50), (⟨"MacroReaderModel", "firstWord", "(II)I"⟩, 50), (⟨"MacroReaderModel", "split", "()V"⟩, 50), (⟨"MacroReaderModel", "isSign", "(II)Z"⟩, 50), (⟨"MacroReaderModel", "parametersOf", "(I)I"⟩, 50), (⟨"MacroReaderModel", "call", "(I)V"⟩, 50), (⟨"MacroReaderModel", "enter", "(III)V"⟩, 50), (⟨"MacroReaderModel", "structure", "(I)V"⟩, 50), (⟨"MacroReaderModel", "macro", "()V"⟩, 50), (⟨"MacroReaderModel", "goBehind", "()V"⟩, 50)]
theorem lw_r4 : ∀ q ∈ lw_privs_4, lw_okq q := List.forall_mem_cons.mpr ⟨lw_p48, List.forall_mem_cons.mpr ⟨lw_p49, List.forall_mem_cons.mpr ⟨lw_p50, List.forall_mem_cons.mpr ⟨lw_p51, List.forall_mem_cons.mpr ⟨lw_p52, List.forall_mem_cons.mpr ⟨lw_p53, List.forall_mem_cons.mpr ⟨lw_p54, List.forall_mem_cons.mpr ⟨lw_p55, List.forall_mem_cons.mpr ⟨lw_p56, List.forall_mem_cons.mpr ⟨lw_p57, List.forall_mem_cons.mpr ⟨lw_p58, List.forall_mem_cons.mpr ⟨lw_p59, List.forall_mem_cons.mpr ⟨lw_p60, List.forall_mem_cons.mpr ⟨lw_p61, List.forall_mem_cons.mpr ⟨lw_p62, List.forall_mem_cons.mpr ⟨lw_p63, fun _ h => absurd h List.not_mem_nil⟩⟩⟩⟩⟩⟩⟩⟩⟩⟩⟩⟩⟩⟩⟩⟩
def lw_privs : List (MethodName × Nat) := lw_privs_1 ++ (lw_privs_2 ++ (lw_privs_3 ++ (lw_privs_4)))
def lw_tbl : List Cond := k2_sels lw_privs ++ tables_1
theorem lw_privs_ok : ∀ q ∈ lw_privs, lw_okq q := by
  show ∀ q ∈ lw_privs_1 ++ (lw_privs_2 ++ (lw_privs_3 ++ (lw_privs_4))), lw_okq q
  exact List.forall_mem_append.mpr ⟨lw_r1, List.forall_mem_append.mpr ⟨lw_r2, List.forall_mem_append.mpr ⟨lw_r3, lw_r4⟩⟩⟩
-- ===== end of PART A; then your names; then what follows =====
/-! ===== BEGIN words of one list among another's, by their places ===== -/
theorem goodIn_r {big : List Cond} (ws : List Cond) (ps : List Nat) (hp : ws = ps.filterMap (fun i => big[i]?)) (h : ws.all goodWord = true) : GoodIn big ws := by
  intro w hw
  have h1 := List.all_eq_true.mp h w hw
  rw [hp] at hw
  obtain ⟨i, -, hi⟩ := List.mem_filterMap.mp hw
  have hm : w ∈ big := by first | exact List.mem_of_getElem? hi | exact List.getElem?_mem hi
  exact ⟨hm, good_of_word h1⟩
theorem goodIn_app {big a b : List Cond} (ha : GoodIn big a) (hb : GoodIn big b) : GoodIn big (a ++ b) := fun w h => (List.mem_append.mp h).elim (ha w) (hb w)
theorem goodIn_ca {big a b : List Cond} {c : Cond} (ha : GoodIn big (c :: a)) (hb : GoodIn big b) : GoodIn big (c :: (a ++ b)) := fun w h => (List.mem_cons.mp h).elim (fun e => ha w (List.mem_cons.mpr (Or.inl e))) (fun h => (List.mem_append.mp h).elim (fun h => ha w (List.mem_cons.mpr (Or.inr h))) (hb w))
theorem goodIn_sub {big ws : List Cond} (hm : ∀ w ∈ ws, w ∈ big) (h : ws.all goodWord = true) : GoodIn big ws := fun w hw => ⟨hm w hw, good_of_word (List.all_eq_true.mp h w hw)⟩
/-! ===== END ===== -/
end
section
/-! ===== BEGIN printed: names, fields, word lists, decode rows ===== -/
def RX0 : String := "MacroReader$Bytes"
def TX0 : u_T := fun k => match k with
  | 0 => ("MacroReader$Bytes", "limit", "I", true)
  | 1 => ("MacroReader$Bytes", "row", "[B", false)
  | _ => ("MacroReader$Bytes", "size", "I", false)
def tyX0 : Nat → FieldType := fun k => match k with
  | 0 => .int
  | 1 => .array .byte
  | _ => .int
abbrev wsX00 : List Cond := u_ws RX0 TX0 3
theorem nmX0 : ∀ a, a < 3 → ∀ b, b < 3 → a ≠ b → (TX0 a).2.1 ≠ (TX0 b).2.1 := by decide +kernel
theorem tyX0_ok : ∀ k, k < 3 → parseFieldDescriptor (TX0 k).2.2.1 = some (tyX0 k) := by decide +kernel
abbrev cX0_init : ByteArray := prog_2_method_1_code
def yX0_init : MethodName := ⟨RX0, "<init>", "(II)V"⟩
abbrev cX0_size : ByteArray := prog_2_method_2_code
def yX0_size : MethodName := ⟨RX0, "size", "()I"⟩
abbrev cX0_clear : ByteArray := prog_2_method_3_code
def yX0_clear : MethodName := ⟨RX0, "clear", "()V"⟩
abbrev cX0_at : ByteArray := prog_2_method_4_code
def yX0_at : MethodName := ⟨RX0, "at", "(I)I"⟩
abbrev cX0_holds : ByteArray := prog_2_method_5_code
def yX0_holds : MethodName := ⟨RX0, "holds", "(II)Z"⟩
abbrev cX0_append : ByteArray := prog_2_method_6_code
def yX0_append : MethodName := ⟨RX0, "append", "(I)Z"⟩
abbrev cX0_appendPart : ByteArray := prog_2_method_7_code
def yX0_appendPart : MethodName := ⟨RX0, "appendPart", "(LMacroReader$Bytes;II)Z"⟩
abbrev cX0_appendDecimal : ByteArray := prog_2_method_8_code
def yX0_appendDecimal : MethodName := ⟨RX0, "appendDecimal", "(I)Z"⟩
abbrev cX0_behindBlanks : ByteArray := prog_2_method_9_code
def yX0_behindBlanks : MethodName := ⟨RX0, "behindBlanks", "(I)I"⟩
abbrev cX0_behindNameBytes : ByteArray := prog_2_method_10_code
def yX0_behindNameBytes : MethodName := ⟨RX0, "behindNameBytes", "(I)I"⟩
abbrev cX0_spells : ByteArray := prog_2_method_11_code
def yX0_spells : MethodName := ⟨RX0, "spells", "(Ljava/lang/String;II)Z"⟩
abbrev cX0_isSame : ByteArray := prog_2_method_12_code
def yX0_isSame : MethodName := ⟨RX0, "isSame", "(IILMacroReader$Bytes;I)Z"⟩
def RX1 : String := "MacroReader$Ints"
def TX1 : u_T := fun k => match k with
  | 0 => ("MacroReader$Ints", "row", "[I", false)
  | _ => ("MacroReader$Ints", "size", "I", false)
def tyX1 : Nat → FieldType := fun k => match k with
  | 0 => .array .int
  | _ => .int
abbrev wsX10 : List Cond := u_ws RX1 TX1 2
theorem nmX1 : ∀ a, a < 2 → ∀ b, b < 2 → a ≠ b → (TX1 a).2.1 ≠ (TX1 b).2.1 := by decide +kernel
theorem tyX1_ok : ∀ k, k < 2 → parseFieldDescriptor (TX1 k).2.2.1 = some (tyX1 k) := by decide +kernel
abbrev cX1_init : ByteArray := prog_3_method_1_code
def yX1_init : MethodName := ⟨RX1, "<init>", "()V"⟩
abbrev cX1_size : ByteArray := prog_3_method_2_code
def yX1_size : MethodName := ⟨RX1, "size", "()I"⟩
abbrev cX1_clear : ByteArray := prog_3_method_3_code
def yX1_clear : MethodName := ⟨RX1, "clear", "()V"⟩
abbrev cX1_at : ByteArray := prog_3_method_4_code
def yX1_at : MethodName := ⟨RX1, "at", "(I)I"⟩
abbrev cX1_add : ByteArray := prog_3_method_5_code
def yX1_add : MethodName := ⟨RX1, "add", "(I)V"⟩
def RX2 : String := "MacroReader$Macro"
def TX2 : u_T := fun k => match k with
  | 0 => ("MacroReader$Macro", "nameStart", "I", true)
  | 1 => ("MacroReader$Macro", "nameLength", "I", true)
  | 2 => ("MacroReader$Macro", "from", "I", true)
  | 3 => ("MacroReader$Macro", "to", "I", true)
  | 4 => ("MacroReader$Macro", "starts", "LMacroReader$Ints;", true)
  | _ => ("MacroReader$Macro", "lengths", "LMacroReader$Ints;", true)
def tyX2 : Nat → FieldType := fun k => match k with
  | 0 => .int
  | 1 => .int
  | 2 => .int
  | 3 => .int
  | 4 => .object "MacroReader$Ints"
  | _ => .object "MacroReader$Ints"
abbrev wsX20 : List Cond := u_ws RX2 TX2 6
theorem nmX2 : ∀ a, a < 6 → ∀ b, b < 6 → a ≠ b → (TX2 a).2.1 ≠ (TX2 b).2.1 := by decide +kernel
theorem tyX2_ok : ∀ k, k < 6 → parseFieldDescriptor (TX2 k).2.2.1 = some (tyX2 k) := by decide +kernel
abbrev cX2_init : ByteArray := prog_4_method_1_code
def yX2_init : MethodName := ⟨RX2, "<init>", "(LMacroReader$Tokens;III)V"⟩
abbrev cX2_places : ByteArray := prog_4_method_2_code
def yX2_places : MethodName := ⟨RX2, "places", "()I"⟩
abbrev cX2_placeLength : ByteArray := prog_4_method_3_code
def yX2_placeLength : MethodName := ⟨RX2, "placeLength", "(I)I"⟩
abbrev cX2_placeAt : ByteArray := prog_4_method_4_code
def yX2_placeAt : MethodName := ⟨RX2, "placeAt", "(LMacroReader$Bytes;II)I"⟩
def RX3 : String := "MacroReader$Nest"
def TX3 : u_T := fun k => match k with
  | 0 => ("MacroReader$Nest", "parts", "[LMacroReader$Part;", true)
  | _ => ("MacroReader$Nest", "size", "I", false)
def tyX3 : Nat → FieldType := fun k => match k with
  | 0 => .array (.object "MacroReader$Part")
  | _ => .int
abbrev wsX30 : List Cond := u_ws RX3 TX3 2
theorem nmX3 : ∀ a, a < 2 → ∀ b, b < 2 → a ≠ b → (TX3 a).2.1 ≠ (TX3 b).2.1 := by decide +kernel
theorem tyX3_ok : ∀ k, k < 2 → parseFieldDescriptor (TX3 k).2.2.1 = some (tyX3 k) := by decide +kernel
abbrev cX3_init : ByteArray := prog_5_method_1_code
def yX3_init : MethodName := ⟨RX3, "<init>", "()V"⟩
abbrev cX3_size : ByteArray := prog_5_method_2_code
def yX3_size : MethodName := ⟨RX3, "size", "()I"⟩
abbrev cX3_clear : ByteArray := prog_5_method_3_code
def yX3_clear : MethodName := ⟨RX3, "clear", "()V"⟩
abbrev cX3_isFull : ByteArray := prog_5_method_4_code
def yX3_isFull : MethodName := ⟨RX3, "isFull", "()Z"⟩
abbrev cX3_at : ByteArray := prog_5_method_5_code
def yX3_at : MethodName := ⟨RX3, "at", "(I)LMacroReader$Part;"⟩
abbrev cX3_spare : ByteArray := prog_5_method_6_code
def yX3_spare : MethodName := ⟨RX3, "spare", "()LMacroReader$Part;"⟩
abbrev cX3_open : ByteArray := prog_5_method_7_code
def yX3_open : MethodName := ⟨RX3, "open", "(I)LMacroReader$Part;"⟩
abbrev cX3_close : ByteArray := prog_5_method_8_code
def yX3_close : MethodName := ⟨RX3, "close", "()V"⟩
abbrev cX3_top : ByteArray := prog_5_method_9_code
def yX3_top : MethodName := ⟨RX3, "top", "()LMacroReader$Part;"⟩
abbrev cX3_topKind : ByteArray := prog_5_method_10_code
def yX3_topKind : MethodName := ⟨RX3, "topKind", "()I"⟩
abbrev cX3_innermostLines : ByteArray := prog_5_method_11_code
def yX3_innermostLines : MethodName := ⟨RX3, "innermostLines", "()LMacroReader$Part;"⟩
abbrev cX3_innermostMacro : ByteArray := prog_5_method_12_code
def yX3_innermostMacro : MethodName := ⟨RX3, "innermostMacro", "()LMacroReader$Part;"⟩
def RX4 : String := "MacroReader$Part"
def TX4 : u_T := fun k => match k with
  | 0 => ("MacroReader$Part", "kind", "I", false)
  | 1 => ("MacroReader$Part", "from", "I", false)
  | 2 => ("MacroReader$Part", "to", "I", false)
  | 3 => ("MacroReader$Part", "back", "I", false)
  | 4 => ("MacroReader$Part", "line", "I", false)
  | 5 => ("MacroReader$Part", "turnsLeft", "I", false)
  | 6 => ("MacroReader$Part", "serial", "I", false)
  | 7 => ("MacroReader$Part", "macro", "LMacroReader$Macro;", false)
  | 8 => ("MacroReader$Part", "given", "LMacroReader$Bytes;", true)
  | 9 => ("MacroReader$Part", "starts", "LMacroReader$Ints;", true)
  | _ => ("MacroReader$Part", "ends", "LMacroReader$Ints;", true)
def tyX4 : Nat → FieldType := fun k => match k with
  | 0 => .int
  | 1 => .int
  | 2 => .int
  | 3 => .int
  | 4 => .int
  | 5 => .int
  | 6 => .int
  | 7 => .object "MacroReader$Macro"
  | 8 => .object "MacroReader$Bytes"
  | 9 => .object "MacroReader$Ints"
  | _ => .object "MacroReader$Ints"
abbrev wsX40 : List Cond := u_ws RX4 TX4 11
theorem nmX4 : ∀ a, a < 11 → ∀ b, b < 11 → a ≠ b → (TX4 a).2.1 ≠ (TX4 b).2.1 := by decide +kernel
theorem tyX4_ok : ∀ k, k < 11 → parseFieldDescriptor (TX4 k).2.2.1 = some (tyX4 k) := by decide +kernel
abbrev cX4_init : ByteArray := prog_6_method_1_code
def yX4_init : MethodName := ⟨RX4, "<init>", "()V"⟩
abbrev cX4_hasLines : ByteArray := prog_6_method_2_code
def yX4_hasLines : MethodName := ⟨RX4, "hasLines", "()Z"⟩
abbrev cX4_lay : ByteArray := prog_6_method_3_code
def yX4_lay : MethodName := ⟨RX4, "lay", "(IIII)V"⟩
abbrev cX4_gather : ByteArray := prog_6_method_4_code
def yX4_gather : MethodName := ⟨RX4, "gather", "(LMacroReader$Bytes;LMacroReader$Tokens;LMacroReader$Macro;)Z"⟩
abbrev cX4_keep : ByteArray := prog_6_method_5_code
def yX4_keep : MethodName := ⟨RX4, "keep", "(LMacroReader$Tokens;II)V"⟩
abbrev cX4_write : ByteArray := prog_6_method_6_code
def yX4_write : MethodName := ⟨RX4, "write", "(LMacroReader$Bytes;IILMacroReader$Bytes;)Z"⟩
abbrev cX4_writeAt : ByteArray := prog_6_method_7_code
def yX4_writeAt : MethodName := ⟨RX4, "writeAt", "(LMacroReader$Bytes;IILMacroReader$Bytes;)I"⟩
def RX5 : String := "MacroReader$Source"
def TX5 : u_T := fun k => match k with
  | 0 => ("MacroReader$Source", "starts", "LMacroReader$Ints;", true)
  | 1 => ("MacroReader$Source", "ends", "LMacroReader$Ints;", true)
  | 2 => ("MacroReader$Source", "words", "LMacroReader$Ints;", true)
  | _ => ("MacroReader$Source", "bytes", "LMacroReader$Bytes;", false)
def tyX5 : Nat → FieldType := fun k => match k with
  | 0 => .object "MacroReader$Ints"
  | 1 => .object "MacroReader$Ints"
  | 2 => .object "MacroReader$Ints"
  | _ => .object "MacroReader$Bytes"
abbrev wsX50 : List Cond := u_ws RX5 TX5 4
theorem nmX5 : ∀ a, a < 4 → ∀ b, b < 4 → a ≠ b → (TX5 a).2.1 ≠ (TX5 b).2.1 := by decide +kernel
theorem tyX5_ok : ∀ k, k < 4 → parseFieldDescriptor (TX5 k).2.2.1 = some (tyX5 k) := by decide +kernel
abbrev cX5_init : ByteArray := prog_7_method_1_code
def yX5_init : MethodName := ⟨RX5, "<init>", "()V"⟩
abbrev cX5_exchange : ByteArray := prog_7_method_2_code
def yX5_exchange : MethodName := ⟨RX5, "exchange", "(LMacroReader$Bytes;)LMacroReader$Bytes;"⟩
abbrev cX5_addLine : ByteArray := prog_7_method_3_code
def yX5_addLine : MethodName := ⟨RX5, "addLine", "(II)V"⟩
abbrev cX5_bytes : ByteArray := prog_7_method_4_code
def yX5_bytes : MethodName := ⟨RX5, "bytes", "()LMacroReader$Bytes;"⟩
abbrev cX5_count : ByteArray := prog_7_method_5_code
def yX5_count : MethodName := ⟨RX5, "count", "()I"⟩
abbrev cX5_start : ByteArray := prog_7_method_6_code
def yX5_start : MethodName := ⟨RX5, "start", "(I)I"⟩
abbrev cX5_end : ByteArray := prog_7_method_7_code
def yX5_end : MethodName := ⟨RX5, "end", "(I)I"⟩
abbrev cX5_word : ByteArray := prog_7_method_8_code
def yX5_word : MethodName := ⟨RX5, "word", "(I)I"⟩
abbrev cX5_find : ByteArray := prog_7_method_9_code
def yX5_find : MethodName := ⟨RX5, "find", "(IIIZ)I"⟩
def RX6 : String := "MacroReader$Tokens"
def TX6 : u_T := fun k => match k with
  | 0 => ("MacroReader$Tokens", "bytes", "LMacroReader$Bytes;", true)
  | 1 => ("MacroReader$Tokens", "kinds", "LMacroReader$Ints;", true)
  | 2 => ("MacroReader$Tokens", "starts", "LMacroReader$Ints;", true)
  | 3 => ("MacroReader$Tokens", "ends", "LMacroReader$Ints;", true)
  | 4 => ("MacroReader$Tokens", "stop", "I", false)
  | 5 => ("MacroReader$Tokens", "value", "J", false)
  | _ => ("MacroReader$Tokens", "second", "J", false)
def tyX6 : Nat → FieldType := fun k => match k with
  | 0 => .object "MacroReader$Bytes"
  | 1 => .object "MacroReader$Ints"
  | 2 => .object "MacroReader$Ints"
  | 3 => .object "MacroReader$Ints"
  | 4 => .int
  | 5 => .long
  | _ => .long
abbrev wsX60 : List Cond := u_ws RX6 TX6 7
theorem nmX6 : ∀ a, a < 7 → ∀ b, b < 7 → a ≠ b → (TX6 a).2.1 ≠ (TX6 b).2.1 := by decide +kernel
theorem tyX6_ok : ∀ k, k < 7 → parseFieldDescriptor (TX6 k).2.2.1 = some (tyX6 k) := by decide +kernel
abbrev cX6_init : ByteArray := prog_8_method_1_code
def yX6_init : MethodName := ⟨RX6, "<init>", "(LMacroReader$Bytes;)V"⟩
abbrev cX6_count : ByteArray := prog_8_method_2_code
def yX6_count : MethodName := ⟨RX6, "count", "()I"⟩
abbrev cX6_kind : ByteArray := prog_8_method_3_code
def yX6_kind : MethodName := ⟨RX6, "kind", "(I)I"⟩
abbrev cX6_start : ByteArray := prog_8_method_4_code
def yX6_start : MethodName := ⟨RX6, "start", "(I)I"⟩
abbrev cX6_end : ByteArray := prog_8_method_5_code
def yX6_end : MethodName := ⟨RX6, "end", "(I)I"⟩
abbrev cX6_second : ByteArray := prog_8_method_6_code
def yX6_second : MethodName := ⟨RX6, "second", "()J"⟩
abbrev cX6_takeAll : ByteArray := prog_8_method_7_code
def yX6_takeAll : MethodName := ⟨RX6, "takeAll", "()Z"⟩
abbrev cX6_take : ByteArray := prog_8_method_8_code
def yX6_take : MethodName := ⟨RX6, "take", "(I)I"⟩
abbrev cX6_takeNumber : ByteArray := prog_8_method_9_code
def yX6_takeNumber : MethodName := ⟨RX6, "takeNumber", "(I)I"⟩
abbrev cX6_baseMarked : ByteArray := prog_8_method_10_code
def yX6_baseMarked : MethodName := ⟨RX6, "baseMarked", "(I)I"⟩
abbrev cX6_hasRoom : ByteArray := prog_8_method_11_code
def yX6_hasRoom : MethodName := ⟨RX6, "hasRoom", "(II)Z"⟩
abbrev cX6_takeCharacter : ByteArray := prog_8_method_12_code
def yX6_takeCharacter : MethodName := ⟨RX6, "takeCharacter", "(I)I"⟩
abbrev cX6_takeText : ByteArray := prog_8_method_13_code
def yX6_takeText : MethodName := ⟨RX6, "takeText", "(I)I"⟩
abbrev cX6_behindCharacter : ByteArray := prog_8_method_14_code
def yX6_behindCharacter : MethodName := ⟨RX6, "behindCharacter", "(II)I"⟩
abbrev cX6_worthOfEscape : ByteArray := prog_8_method_15_code
def yX6_worthOfEscape : MethodName := ⟨RX6, "worthOfEscape", "(I)I"⟩
abbrev cX6_takeSign : ByteArray := prog_8_method_16_code
def yX6_takeSign : MethodName := ⟨RX6, "takeSign", "(II)I"⟩
def RX7 : String := "MacroReader"
def TX7 : u_T := fun k => match k with
  | 0 => ("MacroReader", "source", "LMacroReader$Source;", true)
  | 1 => ("MacroReader", "read", "LMacroReader$Bytes;", true)
  | 2 => ("MacroReader", "tokens", "LMacroReader$Tokens;", true)
  | 3 => ("MacroReader", "nest", "LMacroReader$Nest;", true)
  | 4 => ("MacroReader", "macros", "Ljava/util/ArrayList;", true)
  | 5 => ("MacroReader", "text", "LMacroReader$Bytes;", false)
  | 6 => ("MacroReader", "position", "I", false)
  | 7 => ("MacroReader", "linesRead", "I", false)
  | 8 => ("MacroReader", "macrosRead", "I", false)
  | 9 => ("MacroReader", "toldLine", "I", false)
  | 10 => ("MacroReader", "faultKind", "I", false)
  | 11 => ("MacroReader", "reading", "Z", false)
  | _ => ("MacroReader", "plain", "Z", false)
def tyX7 : Nat → FieldType := fun k => match k with
  | 0 => .object "MacroReader$Source"
  | 1 => .object "MacroReader$Bytes"
  | 2 => .object "MacroReader$Tokens"
  | 3 => .object "MacroReader$Nest"
  | 4 => .object "java/util/ArrayList"
  | 5 => .object "MacroReader$Bytes"
  | 6 => .int
  | 7 => .int
  | 8 => .int
  | 9 => .int
  | 10 => .int
  | 11 => .boolean
  | _ => .boolean
abbrev wsX70 : List Cond := u_ws RX7 TX7 13
theorem nmX7 : ∀ a, a < 13 → ∀ b, b < 13 → a ≠ b → (TX7 a).2.1 ≠ (TX7 b).2.1 := by decide +kernel
theorem tyX7_ok : ∀ k, k < 13 → parseFieldDescriptor (TX7 k).2.2.1 = some (tyX7 k) := by decide +kernel
abbrev cX7_init : ByteArray := prog_1_method_1_code
def yX7_init : MethodName := ⟨RX7, "<init>", "()V"⟩
abbrev cX7_type : ByteArray := prog_1_method_2_code
def yX7_type : MethodName := ⟨RX7, "type", "(JI)Z"⟩
abbrev cX7_begin : ByteArray := prog_1_method_3_code
def yX7_begin : MethodName := ⟨RX7, "begin", "()I"⟩
abbrev cX7_next : ByteArray := prog_1_method_4_code
def yX7_next : MethodName := ⟨RX7, "next", "()I"⟩
abbrev cX7_octet : ByteArray := prog_1_method_5_code
def yX7_octet : MethodName := ⟨RX7, "octet", "(I)I"⟩
abbrev cX7_line : ByteArray := prog_1_method_6_code
def yX7_line : MethodName := ⟨RX7, "line", "()I"⟩
abbrev cX7_fault : ByteArray := prog_1_method_7_code
def yX7_fault : MethodName := ⟨RX7, "fault", "()I"⟩
abbrev cX7_depth : ByteArray := prog_1_method_8_code
def yX7_depth : MethodName := ⟨RX7, "depth", "()I"⟩
abbrev cX7_limit : ByteArray := prog_1_method_9_code
def yX7_limit : MethodName := ⟨RX7, "limit", "()I"⟩
abbrev cX7_readLine : ByteArray := prog_1_method_10_code
def yX7_readLine : MethodName := ⟨RX7, "readLine", "()I"⟩
abbrev cX7_fill : ByteArray := prog_1_method_11_code
def yX7_fill : MethodName := ⟨RX7, "fill", "(I)Z"⟩
abbrev cX7_obey : ByteArray := prog_1_method_12_code
def yX7_obey : MethodName := ⟨RX7, "obey", "(I)I"⟩
abbrev cX7_readIf : ByteArray := prog_1_method_13_code
def yX7_readIf : MethodName := ⟨RX7, "readIf", "()I"⟩
abbrev cX7_readElse : ByteArray := prog_1_method_14_code
def yX7_readElse : MethodName := ⟨RX7, "readElse", "()I"⟩
abbrev cX7_readEndif : ByteArray := prog_1_method_15_code
def yX7_readEndif : MethodName := ⟨RX7, "readEndif", "()I"⟩
abbrev cX7_readRept : ByteArray := prog_1_method_16_code
def yX7_readRept : MethodName := ⟨RX7, "readRept", "()I"⟩
abbrev cX7_readMacro : ByteArray := prog_1_method_17_code
def yX7_readMacro : MethodName := ⟨RX7, "readMacro", "()I"⟩
abbrev cX7_readMacroLines : ByteArray := prog_1_method_18_code
def yX7_readMacroLines : MethodName := ⟨RX7, "readMacroLines", "(LMacroReader$Macro;)I"⟩
abbrev cX7_endLines : ByteArray := prog_1_method_19_code
def yX7_endLines : MethodName := ⟨RX7, "endLines", "()I"⟩
abbrev cX7_tell : ByteArray := prog_1_method_20_code
def yX7_tell : MethodName := ⟨RX7, "tell", "(I)I"⟩
abbrev cX7_tellUnended : ByteArray := prog_1_method_21_code
def yX7_tellUnended : MethodName := ⟨RX7, "tellUnended", "()I"⟩
abbrev cX7_isEndMissing : ByteArray := prog_1_method_22_code
def yX7_isEndMissing : MethodName := ⟨RX7, "isEndMissing", "(I)Z"⟩
abbrev cX7_isNumberAlone : ByteArray := prog_1_method_23_code
def yX7_isNumberAlone : MethodName := ⟨RX7, "isNumberAlone", "()Z"⟩
abbrev cX7_isHeading : ByteArray := prog_1_method_24_code
def yX7_isHeading : MethodName := ⟨RX7, "isHeading", "()Z"⟩
abbrev cX7_isTaken : ByteArray := prog_1_method_25_code
def yX7_isTaken : MethodName := ⟨RX7, "isTaken", "(I)Z"⟩
abbrev cX7_macroNamed : ByteArray := prog_1_method_26_code
def yX7_macroNamed : MethodName := ⟨RX7, "macroNamed", "(I)LMacroReader$Macro;"⟩
abbrev cX7_wordIn : ByteArray := prog_1_method_27_code
def yX7_wordIn : MethodName := ⟨RX7, "wordIn", "(LMacroReader$Bytes;II)I"⟩
abbrev cX7_spelling : ByteArray := prog_1_method_28_code
def yX7_spelling : MethodName := ⟨RX7, "spelling", "(I)Ljava/lang/String;"⟩
abbrev cX7_endWord : ByteArray := prog_1_method_29_code
def yX7_endWord : MethodName := ⟨RX7, "endWord", "(I)I"⟩
abbrev cX7_isBlank : ByteArray := prog_1_method_30_code
def yX7_isBlank : MethodName := ⟨RX7, "isBlank", "(I)Z"⟩
abbrev cX7_isDigit : ByteArray := prog_1_method_31_code
def yX7_isDigit : MethodName := ⟨RX7, "isDigit", "(I)Z"⟩
abbrev cX7_isNameByte : ByteArray := prog_1_method_32_code
def yX7_isNameByte : MethodName := ⟨RX7, "isNameByte", "(I)Z"⟩
abbrev cX7_isPrintable : ByteArray := prog_1_method_33_code
def yX7_isPrintable : MethodName := ⟨RX7, "isPrintable", "(I)Z"⟩
abbrev cX7_digitIn : ByteArray := prog_1_method_34_code
def yX7_digitIn : MethodName := ⟨RX7, "digitIn", "(II)I"⟩
def RX8 : String := "MacroReaderModel"
def TX8 : u_T := fun k => match k with
  | 0 => ("MacroReaderModel", "thrown", "I", false)
  | 1 => ("MacroReaderModel", "text", "[B", true)
  | 2 => ("MacroReaderModel", "tape", "[B", true)
  | 3 => ("MacroReaderModel", "typed", "I", false)
  | 4 => ("MacroReaderModel", "sourceEnd", "I", false)
  | 5 => ("MacroReaderModel", "at", "I", false)
  | 6 => ("MacroReaderModel", "lineNumber", "I", false)
  | 7 => ("MacroReaderModel", "lineStart", "I", false)
  | 8 => ("MacroReaderModel", "lineEnd", "I", false)
  | 9 => ("MacroReaderModel", "linesRead", "I", false)
  | 10 => ("MacroReaderModel", "macrosRead", "I", false)
  | 11 => ("MacroReaderModel", "bad", "I", false)
  | 12 => ("MacroReaderModel", "badLine", "I", false)
  | 13 => ("MacroReaderModel", "told", "I", false)
  | 14 => ("MacroReaderModel", "notEnded", "Z", false)
  | 15 => ("MacroReaderModel", "ends", "Z", false)
  | 16 => ("MacroReaderModel", "hasLine", "Z", false)
  | 17 => ("MacroReaderModel", "line", "[B", true)
  | 18 => ("MacroReaderModel", "lineLength", "I", false)
  | 19 => ("MacroReaderModel", "frames", "I", false)
  | 20 => ("MacroReaderModel", "frameKind", "[I", true)
  | 21 => ("MacroReaderModel", "frameStop", "[I", true)
  | 22 => ("MacroReaderModel", "frameStopLine", "[I", true)
  | 23 => ("MacroReaderModel", "frameBody", "[I", true)
  | 24 => ("MacroReaderModel", "frameBodyLine", "[I", true)
  | 25 => ("MacroReaderModel", "frameLeft", "[I", true)
  | 26 => ("MacroReaderModel", "frameOwn", "[I", true)
  | 27 => ("MacroReaderModel", "frameMacro", "[I", true)
  | 28 => ("MacroReaderModel", "frameNumber", "[I", true)
  | 29 => ("MacroReaderModel", "frameElse", "[Z", true)
  | 30 => ("MacroReaderModel", "argument", "[[B", true)
  | 31 => ("MacroReaderModel", "argumentAt", "[[I", true)
  | 32 => ("MacroReaderModel", "arguments", "[I", true)
  | 33 => ("MacroReaderModel", "macros", "I", false)
  | 34 => ("MacroReaderModel", "macroName", "[I", true)
  | 35 => ("MacroReaderModel", "macroLength", "[I", true)
  | 36 => ("MacroReaderModel", "macroParameters", "[I", true)
  | 37 => ("MacroReaderModel", "macroBody", "[I", true)
  | 38 => ("MacroReaderModel", "macroBodyLine", "[I", true)
  | 39 => ("MacroReaderModel", "macroEnd", "[I", true)
  | 40 => ("MacroReaderModel", "macroEndLine", "[I", true)
  | 41 => ("MacroReaderModel", "tokens", "I", false)
  | 42 => ("MacroReaderModel", "token", "[I", true)
  | 43 => ("MacroReaderModel", "tokenStart", "[I", true)
  | 44 => ("MacroReaderModel", "tokenLength", "[I", true)
  | 45 => ("MacroReaderModel", "tokenValue", "[J", true)
  | 46 => ("MacroReaderModel", "foundAt", "I", false)
  | 47 => ("MacroReaderModel", "foundLine", "I", false)
  | 48 => ("MacroReaderModel", "foundWord", "I", false)
  | _ => ("MacroReaderModel", "foundBehind", "I", false)
def tyX8 : Nat → FieldType := fun k => match k with
  | 0 => .int
  | 1 => .array .byte
  | 2 => .array .byte
  | 3 => .int
  | 4 => .int
  | 5 => .int
  | 6 => .int
  | 7 => .int
  | 8 => .int
  | 9 => .int
  | 10 => .int
  | 11 => .int
  | 12 => .int
  | 13 => .int
  | 14 => .boolean
  | 15 => .boolean
  | 16 => .boolean
  | 17 => .array .byte
  | 18 => .int
  | 19 => .int
  | 20 => .array .int
  | 21 => .array .int
  | 22 => .array .int
  | 23 => .array .int
  | 24 => .array .int
  | 25 => .array .int
  | 26 => .array .int
  | 27 => .array .int
  | 28 => .array .int
  | 29 => .array .boolean
  | 30 => .array (.array .byte)
  | 31 => .array (.array .int)
  | 32 => .array .int
  | 33 => .int
  | 34 => .array .int
  | 35 => .array .int
  | 36 => .array .int
  | 37 => .array .int
  | 38 => .array .int
  | 39 => .array .int
  | 40 => .array .int
  | 41 => .int
  | 42 => .array .int
  | 43 => .array .int
  | 44 => .array .int
  | 45 => .array .long
  | 46 => .int
  | 47 => .int
  | 48 => .int
  | _ => .int
abbrev wsX80 : List Cond := u_ws RX8 TX8 50
theorem nmX8 : ∀ a, a < 50 → ∀ b, b < 50 → a ≠ b → (TX8 a).2.1 ≠ (TX8 b).2.1 := by decide +kernel
theorem tyX8_ok : ∀ k, k < 50 → parseFieldDescriptor (TX8 k).2.2.1 = some (tyX8 k) := by decide +kernel
abbrev cX8_init : ByteArray := prog_10_method_1_code
def yX8_init : MethodName := ⟨RX8, "<init>", "()V"⟩
abbrev cX8_thrown : ByteArray := prog_10_method_2_code
def yX8_thrown : MethodName := ⟨RX8, "thrown", "()I"⟩
abbrev cX8_type : ByteArray := prog_10_method_3_code
def yX8_type : MethodName := ⟨RX8, "type", "(JI)Z"⟩
abbrev cX8_isLetter : ByteArray := prog_10_method_4_code
def yX8_isLetter : MethodName := ⟨RX8, "isLetter", "(I)Z"⟩
abbrev cX8_isDigit : ByteArray := prog_10_method_5_code
def yX8_isDigit : MethodName := ⟨RX8, "isDigit", "(I)Z"⟩
abbrev cX8_isNamed : ByteArray := prog_10_method_6_code
def yX8_isNamed : MethodName := ⟨RX8, "isNamed", "(I)Z"⟩
abbrev cX8_digitOf : ByteArray := prog_10_method_7_code
def yX8_digitOf : MethodName := ⟨RX8, "digitOf", "(I)I"⟩
abbrev cX8_packed : ByteArray := prog_10_method_8_code
def yX8_packed : MethodName := ⟨RX8, "packed", "([BII)J"⟩
abbrev cX8_wordOf : ByteArray := prog_10_method_9_code
def yX8_wordOf : MethodName := ⟨RX8, "wordOf", "(J)I"⟩
abbrev cX8_ownLine : ByteArray := prog_10_method_10_code
def yX8_ownLine : MethodName := ⟨RX8, "ownLine", "()I"⟩
abbrev cX8_fail : ByteArray := prog_10_method_11_code
def yX8_fail : MethodName := ⟨RX8, "fail", "(I)V"⟩
abbrev cX8_firstWord : ByteArray := prog_10_method_12_code
def yX8_firstWord : MethodName := ⟨RX8, "firstWord", "(II)I"⟩
abbrev cX8_endOfLine : ByteArray := prog_10_method_13_code
def yX8_endOfLine : MethodName := ⟨RX8, "endOfLine", "(I)I"⟩
abbrev cX8_findEnd : ByteArray := prog_10_method_14_code
def yX8_findEnd : MethodName := ⟨RX8, "findEnd", "(IIIIIZ)Z"⟩
abbrev cX8_reader : ByteArray := prog_10_method_15_code
def yX8_reader : MethodName := ⟨RX8, "reader", "()I"⟩
abbrev cX8_macroFrame : ByteArray := prog_10_method_16_code
def yX8_macroFrame : MethodName := ⟨RX8, "macroFrame", "()I"⟩
abbrev cX8_nextLine : ByteArray := prog_10_method_17_code
def yX8_nextLine : MethodName := ⟨RX8, "nextLine", "()Z"⟩
abbrev cX8_append : ByteArray := prog_10_method_18_code
def yX8_append : MethodName := ⟨RX8, "append", "(I)V"⟩
abbrev cX8_parameterAt : ByteArray := prog_10_method_19_code
def yX8_parameterAt : MethodName := ⟨RX8, "parameterAt", "(III)I"⟩
abbrev cX8_appendNumber : ByteArray := prog_10_method_20_code
def yX8_appendNumber : MethodName := ⟨RX8, "appendNumber", "(I)V"⟩
abbrev cX8_expand : ByteArray := prog_10_method_21_code
def yX8_expand : MethodName := ⟨RX8, "expand", "()V"⟩
abbrev cX8_token : ByteArray := prog_10_method_22_code
def yX8_token : MethodName := ⟨RX8, "token", "(IIIJ)V"⟩
abbrev cX8_character : ByteArray := prog_10_method_23_code
def yX8_character : MethodName := ⟨RX8, "character", "(II)I"⟩
abbrev cX8_numberToken : ByteArray := prog_10_method_24_code
def yX8_numberToken : MethodName := ⟨RX8, "numberToken", "(I)I"⟩
abbrev cX8_readToken : ByteArray := prog_10_method_25_code
def yX8_readToken : MethodName := ⟨RX8, "readToken", "(I)I"⟩
abbrev cX8_readTokens : ByteArray := prog_10_method_26_code
def yX8_readTokens : MethodName := ⟨RX8, "readTokens", "()V"⟩
abbrev cX8_isSign : ByteArray := prog_10_method_27_code
def yX8_isSign : MethodName := ⟨RX8, "isSign", "(II)Z"⟩
abbrev cX8_isName : ByteArray := prog_10_method_28_code
def yX8_isName : MethodName := ⟨RX8, "isName", "(I)Z"⟩
abbrev cX8_macroNamed : ByteArray := prog_10_method_29_code
def yX8_macroNamed : MethodName := ⟨RX8, "macroNamed", "(I)I"⟩
abbrev cX8_nesting : ByteArray := prog_10_method_30_code
def yX8_nesting : MethodName := ⟨RX8, "nesting", "(II)V"⟩
abbrev cX8_parametersOf : ByteArray := prog_10_method_31_code
def yX8_parametersOf : MethodName := ⟨RX8, "parametersOf", "(I)I"⟩
abbrev cX8_split : ByteArray := prog_10_method_32_code
def yX8_split : MethodName := ⟨RX8, "split", "()V"⟩
abbrev cX8_enter : ByteArray := prog_10_method_33_code
def yX8_enter : MethodName := ⟨RX8, "enter", "(III)V"⟩
abbrev cX8_goBehind : ByteArray := prog_10_method_34_code
def yX8_goBehind : MethodName := ⟨RX8, "goBehind", "()V"⟩
abbrev cX8_call : ByteArray := prog_10_method_35_code
def yX8_call : MethodName := ⟨RX8, "call", "(I)V"⟩
abbrev cX8_structure : ByteArray := prog_10_method_36_code
def yX8_structure : MethodName := ⟨RX8, "structure", "(I)V"⟩
abbrev cX8_macro : ByteArray := prog_10_method_37_code
def yX8_macro : MethodName := ⟨RX8, "macro", "()V"⟩
abbrev cX8_readLine : ByteArray := prog_10_method_38_code
def yX8_readLine : MethodName := ⟨RX8, "readLine", "()Z"⟩
abbrev cX8_linesOfSource : ByteArray := prog_10_method_39_code
def yX8_linesOfSource : MethodName := ⟨RX8, "linesOfSource", "()I"⟩
abbrev cX8_begin : ByteArray := prog_10_method_40_code
def yX8_begin : MethodName := ⟨RX8, "begin", "()I"⟩
abbrev cX8_next : ByteArray := prog_10_method_41_code
def yX8_next : MethodName := ⟨RX8, "next", "()I"⟩
abbrev cX8_octet : ByteArray := prog_10_method_42_code
def yX8_octet : MethodName := ⟨RX8, "octet", "(I)I"⟩
abbrev cX8_line : ByteArray := prog_10_method_43_code
def yX8_line : MethodName := ⟨RX8, "line", "()I"⟩
abbrev cX8_fault : ByteArray := prog_10_method_44_code
def yX8_fault : MethodName := ⟨RX8, "fault", "()I"⟩
abbrev cX8_depth : ByteArray := prog_10_method_45_code
def yX8_depth : MethodName := ⟨RX8, "depth", "()I"⟩
def RJx145de : String := "java/io/Serializable"
def TJx145de : u_T := fun k => match k with
  | _ => ("", "", "", false)
def tyJx145de : Nat → FieldType := fun k => match k with
  | _ => .int
abbrev wsJx145de0 : List Cond := u_ws RJx145de TJx145de 0
theorem nmJx145de : ∀ a, a < 0 → ∀ b, b < 0 → a ≠ b → (TJx145de a).2.1 ≠ (TJx145de b).2.1 := by decide +kernel
theorem tyJx145de_ok : ∀ k, k < 0 → parseFieldDescriptor (TJx145de k).2.2.1 = some (tyJx145de k) := by decide +kernel
def RJx8e188 : String := "java/lang/Cloneable"
def TJx8e188 : u_T := fun k => match k with
  | _ => ("", "", "", false)
def tyJx8e188 : Nat → FieldType := fun k => match k with
  | _ => .int
abbrev wsJx8e1880 : List Cond := u_ws RJx8e188 TJx8e188 0
theorem nmJx8e188 : ∀ a, a < 0 → ∀ b, b < 0 → a ≠ b → (TJx8e188 a).2.1 ≠ (TJx8e188 b).2.1 := by decide +kernel
theorem tyJx8e188_ok : ∀ k, k < 0 → parseFieldDescriptor (TJx8e188 k).2.2.1 = some (tyJx8e188 k) := by decide +kernel
def RJxab1ab : String := "java/lang/Iterable"
def TJxab1ab : u_T := fun k => match k with
  | _ => ("", "", "", false)
def tyJxab1ab : Nat → FieldType := fun k => match k with
  | _ => .int
abbrev wsJxab1ab0 : List Cond := u_ws RJxab1ab TJxab1ab 0
theorem nmJxab1ab : ∀ a, a < 0 → ∀ b, b < 0 → a ≠ b → (TJxab1ab a).2.1 ≠ (TJxab1ab b).2.1 := by decide +kernel
theorem tyJxab1ab_ok : ∀ k, k < 0 → parseFieldDescriptor (TJxab1ab k).2.2.1 = some (tyJxab1ab k) := by decide +kernel
def RJ13 : String := "java/lang/Long"
def TJ13 : u_T := fun k => match k with
  | _ => ("", "", "", false)
def tyJ13 : Nat → FieldType := fun k => match k with
  | _ => .int
abbrev wsJ130 : List Cond := u_ws RJ13 TJ13 0
theorem nmJ13 : ∀ a, a < 0 → ∀ b, b < 0 → a ≠ b → (TJ13 a).2.1 ≠ (TJ13 b).2.1 := by decide +kernel
theorem tyJ13_ok : ∀ k, k < 0 → parseFieldDescriptor (TJ13 k).2.2.1 = some (tyJ13 k) := by decide +kernel
abbrev cJ13_compare_74951 : ByteArray := prog_16_method_42_code
def yJ13_compare_74951 : MethodName := ⟨RJ13, "compare", "(JJ)I"⟩
abbrev cJ13_compareUnsigned_74951 : ByteArray := prog_16_method_43_code
def yJ13_compareUnsigned_74951 : MethodName := ⟨RJ13, "compareUnsigned", "(JJ)I"⟩
def RJ9 : String := "java/lang/Math"
def TJ9 : u_T := fun k => match k with
  | _ => ("", "", "", false)
def tyJ9 : Nat → FieldType := fun k => match k with
  | _ => .int
abbrev wsJ90 : List Cond := u_ws RJ9 TJ9 0
theorem nmJ9 : ∀ a, a < 0 → ∀ b, b < 0 → a ≠ b → (TJ9 a).2.1 ≠ (TJ9 b).2.1 := by decide +kernel
theorem tyJ9_ok : ∀ k, k < 0 → parseFieldDescriptor (TJ9 k).2.2.1 = some (tyJ9 k) := by decide +kernel
abbrev cJ9_max_7cf53 : ByteArray := prog_17_method_65_code
def yJ9_max_7cf53 : MethodName := ⟨RJ9, "max", "(II)I"⟩
abbrev cJ9_min_7cf53 : ByteArray := prog_17_method_69_code
def yJ9_min_7cf53 : MethodName := ⟨RJ9, "min", "(II)I"⟩
def RJ0 : String := "java/lang/String"
def TJ0 : u_T := fun k => match k with
  | _ => ("", "", "", false)
def tyJ0 : Nat → FieldType := fun k => match k with
  | _ => .int
abbrev wsJ00 : List Cond := u_ws RJ0 TJ0 0
theorem nmJ0 : ∀ a, a < 0 → ∀ b, b < 0 → a ≠ b → (TJ0 a).2.1 ≠ (TJ0 b).2.1 := by decide +kernel
theorem tyJ0_ok : ∀ k, k < 0 → parseFieldDescriptor (TJ0 k).2.2.1 = some (tyJ0 k) := by decide +kernel
abbrev cJ0_length_8abf5 : ByteArray := prog_19_method_54_code
def yJ0_length_8abf5 : MethodName := ⟨RJ0, "length", "()I"⟩
abbrev cJ0_charAt_5068e : ByteArray := prog_19_method_56_code
def yJ0_charAt_5068e : MethodName := ⟨RJ0, "charAt", "(I)C"⟩
abbrev cJ0_coder_7d493 : ByteArray := prog_19_method_152_code
def yJ0_coder_7d493 : MethodName := ⟨RJ0, "coder", "()B"⟩
abbrev cJ0_isLatin1_aae02 : ByteArray := prog_19_method_154_code
def yJ0_isLatin1_aae02 : MethodName := ⟨RJ0, "isLatin1", "()Z"⟩
abbrev cJ0_checkIndex_df160 : ByteArray := prog_19_method_155_code
def yJ0_checkIndex_df160 : MethodName := ⟨RJ0, "checkIndex", "(II)V"⟩
def RJ1 : String := "java/lang/StringLatin1"
def TJ1 : u_T := fun k => match k with
  | _ => ("", "", "", false)
def tyJ1 : Nat → FieldType := fun k => match k with
  | _ => .int
abbrev wsJ10 : List Cond := u_ws RJ1 TJ1 0
theorem nmJ1 : ∀ a, a < 0 → ∀ b, b < 0 → a ≠ b → (TJ1 a).2.1 ≠ (TJ1 b).2.1 := by decide +kernel
theorem tyJ1_ok : ∀ k, k < 0 → parseFieldDescriptor (TJ1 k).2.2.1 = some (tyJ1 k) := by decide +kernel
abbrev cJ1_charAt_3b067 : ByteArray := prog_20_method_2_code
def yJ1_charAt_3b067 : MethodName := ⟨RJ1, "charAt", "([BI)C"⟩
def RJ2 : String := "java/lang/StringUTF16"
def TJ2 : u_T := fun k => match k with
  | _ => ("", "", "", false)
def tyJ2 : Nat → FieldType := fun k => match k with
  | _ => .int
abbrev wsJ20 : List Cond := u_ws RJ2 TJ2 0
theorem nmJ2 : ∀ a, a < 0 → ∀ b, b < 0 → a ≠ b → (TJ2 a).2.1 ≠ (TJ2 b).2.1 := by decide +kernel
theorem tyJ2_ok : ∀ k, k < 0 → parseFieldDescriptor (TJ2 k).2.2.1 = some (tyJ2 k) := by decide +kernel
abbrev cJ2_getChar_3b067 : ByteArray := prog_21_method_5_code
def yJ2_getChar_3b067 : MethodName := ⟨RJ2, "getChar", "([BI)C"⟩
abbrev cJ2_length_9d52b : ByteArray := prog_21_method_6_code
def yJ2_length_9d52b : MethodName := ⟨RJ2, "length", "([B)I"⟩
abbrev cJ2_charAt_3b067 : ByteArray := prog_21_method_83_code
def yJ2_charAt_3b067 : MethodName := ⟨RJ2, "charAt", "([BI)C"⟩
abbrev cJ2_checkIndex_2214a : ByteArray := prog_21_method_91_code
def yJ2_checkIndex_2214a : MethodName := ⟨RJ2, "checkIndex", "(I[B)V"⟩
def RJ10 : String := "java/lang/System"
def TJ10 : u_T := fun k => match k with
  | _ => ("", "", "", false)
def tyJ10 : Nat → FieldType := fun k => match k with
  | _ => .int
abbrev wsJ100 : List Cond := u_ws RJ10 TJ10 0
theorem nmJ10 : ∀ a, a < 0 → ∀ b, b < 0 → a ≠ b → (TJ10 a).2.1 ≠ (TJ10 b).2.1 := by decide +kernel
theorem tyJ10_ok : ∀ k, k < 0 → parseFieldDescriptor (TJ10 k).2.2.1 = some (tyJ10 k) := by decide +kernel
def RJxa1e45 : String := "java/util/AbstractCollection"
def TJxa1e45 : u_T := fun k => match k with
  | _ => ("", "", "", false)
def tyJxa1e45 : Nat → FieldType := fun k => match k with
  | _ => .int
abbrev wsJxa1e450 : List Cond := u_ws RJxa1e45 TJxa1e45 0
theorem nmJxa1e45 : ∀ a, a < 0 → ∀ b, b < 0 → a ≠ b → (TJxa1e45 a).2.1 ≠ (TJxa1e45 b).2.1 := by decide +kernel
theorem tyJxa1e45_ok : ∀ k, k < 0 → parseFieldDescriptor (TJxa1e45 k).2.2.1 = some (tyJxa1e45 k) := by decide +kernel
abbrev cJxa1e45_init_da8c8 : ByteArray := prog_24_method_1_code
def yJxa1e45_init_da8c8 : MethodName := ⟨RJxa1e45, "<init>", "()V"⟩
def RJxc12de : String := "java/util/AbstractList"
def TJxc12de : u_T := fun k => match k with
  | _ => ("", "", "", false)
def tyJxc12de : Nat → FieldType := fun k => match k with
  | _ => .int
abbrev wsJxc12de0 : List Cond := u_ws RJxc12de TJxc12de 0
theorem nmJxc12de : ∀ a, a < 0 → ∀ b, b < 0 → a ≠ b → (TJxc12de a).2.1 ≠ (TJxc12de b).2.1 := by decide +kernel
theorem tyJxc12de_ok : ∀ k, k < 0 → parseFieldDescriptor (TJxc12de k).2.2.1 = some (tyJxc12de k) := by decide +kernel
abbrev cJxc12de_init_da8c8 : ByteArray := prog_25_method_1_code
def yJxc12de_init_da8c8 : MethodName := ⟨RJxc12de, "<init>", "()V"⟩
def RJx4a65c : String := "java/util/ArrayList"
def TJx4a65c : u_T := fun k => match k with
  | 0 => ("java/util/AbstractList", "modCount", "I", false)
  | 1 => ("java/util/ArrayList", "elementData", "[Ljava/lang/Object;", false)
  | _ => ("java/util/ArrayList", "size", "I", false)
def tyJx4a65c : Nat → FieldType := fun k => match k with
  | 0 => .int
  | 1 => .array (.object "java/lang/Object")
  | _ => .int
abbrev wsJx4a65c0 : List Cond := u_ws RJx4a65c TJx4a65c 3
theorem nmJx4a65c : ∀ a, a < 3 → ∀ b, b < 3 → a ≠ b → (TJx4a65c a).2.1 ≠ (TJx4a65c b).2.1 := by decide +kernel
theorem tyJx4a65c_ok : ∀ k, k < 3 → parseFieldDescriptor (TJx4a65c k).2.2.1 = some (tyJx4a65c k) := by decide +kernel
abbrev cJx4a65c_init_da8c8 : ByteArray := prog_26_method_2_code
def yJx4a65c_init_da8c8 : MethodName := ⟨RJx4a65c, "<init>", "()V"⟩
abbrev cJx4a65c_grow_92f84 : ByteArray := prog_26_method_6_code
def yJx4a65c_grow_92f84 : MethodName := ⟨RJx4a65c, "grow", "(I)[Ljava/lang/Object;"⟩
abbrev cJx4a65c_grow_d5877 : ByteArray := prog_26_method_7_code
def yJx4a65c_grow_d5877 : MethodName := ⟨RJx4a65c, "grow", "()[Ljava/lang/Object;"⟩
abbrev cJx4a65c_size_8abf5 : ByteArray := prog_26_method_8_code
def yJx4a65c_size_8abf5 : MethodName := ⟨RJx4a65c, "size", "()I"⟩
abbrev cJx4a65c_elementData_915e3 : ByteArray := prog_26_method_18_code
def yJx4a65c_elementData_915e3 : MethodName := ⟨RJx4a65c, "elementData", "(I)Ljava/lang/Object;"⟩
abbrev cJx4a65c_get_915e3 : ByteArray := prog_26_method_20_code
def yJx4a65c_get_915e3 : MethodName := ⟨RJx4a65c, "get", "(I)Ljava/lang/Object;"⟩
abbrev cJx4a65c_add_72be8 : ByteArray := prog_26_method_24_code
def yJx4a65c_add_72be8 : MethodName := ⟨RJx4a65c, "add", "(Ljava/lang/Object;[Ljava/lang/Object;I)V"⟩
abbrev cJx4a65c_add_9ea2d : ByteArray := prog_26_method_25_code
def yJx4a65c_add_9ea2d : MethodName := ⟨RJx4a65c, "add", "(Ljava/lang/Object;)Z"⟩
abbrev cJx4a65c_clear_da8c8 : ByteArray := prog_26_method_40_code
def yJx4a65c_clear_da8c8 : MethodName := ⟨RJx4a65c, "clear", "()V"⟩
def RJ7 : String := "java/util/Arrays"
def TJ7 : u_T := fun k => match k with
  | _ => ("", "", "", false)
def tyJ7 : Nat → FieldType := fun k => match k with
  | _ => .int
abbrev wsJ70 : List Cond := u_ws RJ7 TJ7 0
theorem nmJ7 : ∀ a, a < 0 → ∀ b, b < 0 → a ≠ b → (TJ7 a).2.1 ≠ (TJ7 b).2.1 := by decide +kernel
theorem tyJ7_ok : ∀ k, k < 0 → parseFieldDescriptor (TJ7 k).2.2.1 = some (tyJ7 k) := by decide +kernel
abbrev cJ7_copyOf_1904c : ByteArray := prog_27_method_119_code
def yJ7_copyOf_1904c : MethodName := ⟨RJ7, "copyOf", "([Ljava/lang/Object;I)[Ljava/lang/Object;"⟩
abbrev cJ7_copyOf_6403c : ByteArray := prog_27_method_120_code
def yJ7_copyOf_6403c : MethodName := ⟨RJ7, "copyOf", "([Ljava/lang/Object;ILjava/lang/Class;)[Ljava/lang/Object;"⟩
abbrev cJ7_copyOf_9075b : ByteArray := prog_27_method_121_code
def yJ7_copyOf_9075b : MethodName := ⟨RJ7, "copyOf", "([BI)[B"⟩
abbrev cJ7_copyOf_59c91 : ByteArray := prog_27_method_123_code
def yJ7_copyOf_59c91 : MethodName := ⟨RJ7, "copyOf", "([II)[I"⟩
def RJx5ef63 : String := "java/util/Collection"
def TJx5ef63 : u_T := fun k => match k with
  | _ => ("", "", "", false)
def tyJx5ef63 : Nat → FieldType := fun k => match k with
  | _ => .int
abbrev wsJx5ef630 : List Cond := u_ws RJx5ef63 TJx5ef63 0
theorem nmJx5ef63 : ∀ a, a < 0 → ∀ b, b < 0 → a ≠ b → (TJx5ef63 a).2.1 ≠ (TJx5ef63 b).2.1 := by decide +kernel
theorem tyJx5ef63_ok : ∀ k, k < 0 → parseFieldDescriptor (TJx5ef63 k).2.2.1 = some (tyJx5ef63 k) := by decide +kernel
def RJxbd725 : String := "java/util/List"
def TJxbd725 : u_T := fun k => match k with
  | _ => ("", "", "", false)
def tyJxbd725 : Nat → FieldType := fun k => match k with
  | _ => .int
abbrev wsJxbd7250 : List Cond := u_ws RJxbd725 TJxbd725 0
theorem nmJxbd725 : ∀ a, a < 0 → ∀ b, b < 0 → a ≠ b → (TJxbd725 a).2.1 ≠ (TJxbd725 b).2.1 := by decide +kernel
theorem tyJxbd725_ok : ∀ k, k < 0 → parseFieldDescriptor (TJxbd725 k).2.2.1 = some (tyJxbd725 k) := by decide +kernel
def RJ15 : String := "java/util/Objects"
def TJ15 : u_T := fun k => match k with
  | _ => ("", "", "", false)
def tyJ15 : Nat → FieldType := fun k => match k with
  | _ => .int
abbrev wsJ150 : List Cond := u_ws RJ15 TJ15 0
theorem nmJ15 : ∀ a, a < 0 → ∀ b, b < 0 → a ≠ b → (TJ15 a).2.1 ≠ (TJ15 b).2.1 := by decide +kernel
theorem tyJ15_ok : ∀ k, k < 0 → parseFieldDescriptor (TJ15 k).2.2.1 = some (tyJ15 k) := by decide +kernel
abbrev cJ15_checkIndex_7cf53 : ByteArray := prog_30_method_17_code
def yJ15_checkIndex_7cf53 : MethodName := ⟨RJ15, "checkIndex", "(II)I"⟩
def RJxf0a74 : String := "java/util/RandomAccess"
def TJxf0a74 : u_T := fun k => match k with
  | _ => ("", "", "", false)
def tyJxf0a74 : Nat → FieldType := fun k => match k with
  | _ => .int
abbrev wsJxf0a740 : List Cond := u_ws RJxf0a74 TJxf0a74 0
theorem nmJxf0a74 : ∀ a, a < 0 → ∀ b, b < 0 → a ≠ b → (TJxf0a74 a).2.1 ≠ (TJxf0a74 b).2.1 := by decide +kernel
theorem tyJxf0a74_ok : ∀ k, k < 0 → parseFieldDescriptor (TJxf0a74 k).2.2.1 = some (tyJxf0a74 k) := by decide +kernel
def RJxa66e6 : String := "java/util/SequencedCollection"
def TJxa66e6 : u_T := fun k => match k with
  | _ => ("", "", "", false)
def tyJxa66e6 : Nat → FieldType := fun k => match k with
  | _ => .int
abbrev wsJxa66e60 : List Cond := u_ws RJxa66e6 TJxa66e6 0
theorem nmJxa66e6 : ∀ a, a < 0 → ∀ b, b < 0 → a ≠ b → (TJxa66e6 a).2.1 ≠ (TJxa66e6 b).2.1 := by decide +kernel
theorem tyJxa66e6_ok : ∀ k, k < 0 → parseFieldDescriptor (TJxa66e6 k).2.2.1 = some (tyJxa66e6 k) := by decide +kernel
def RJ8 : String := "jdk/internal/util/ArraysSupport"
def TJ8 : u_T := fun k => match k with
  | _ => ("", "", "", false)
def tyJ8 : Nat → FieldType := fun k => match k with
  | _ => .int
abbrev wsJ80 : List Cond := u_ws RJ8 TJ8 0
theorem nmJ8 : ∀ a, a < 0 → ∀ b, b < 0 → a ≠ b → (TJ8 a).2.1 ≠ (TJ8 b).2.1 := by decide +kernel
theorem tyJ8_ok : ∀ k, k < 0 → parseFieldDescriptor (TJ8 k).2.2.1 = some (tyJ8 k) := by decide +kernel
abbrev cJ8_newLength_cabcc : ByteArray := prog_33_method_27_code
def yJ8_newLength_cabcc : MethodName := ⟨RJ8, "newLength", "(III)I"⟩
abbrev cJ8_hugeLength_7cf53 : ByteArray := prog_33_method_28_code
def yJ8_hugeLength_7cf53 : MethodName := ⟨RJ8, "hugeLength", "(II)I"⟩
def RJ3 : String := "jdk/internal/util/Preconditions"
def TJ3 : u_T := fun k => match k with
  | _ => ("", "", "", false)
def tyJ3 : Nat → FieldType := fun k => match k with
  | _ => .int
abbrev wsJ30 : List Cond := u_ws RJ3 TJ3 0
theorem nmJ3 : ∀ a, a < 0 → ∀ b, b < 0 → a ≠ b → (TJ3 a).2.1 ≠ (TJ3 b).2.1 := by decide +kernel
theorem tyJ3_ok : ∀ k, k < 0 → parseFieldDescriptor (TJ3 k).2.2.1 = some (tyJ3 k) := by decide +kernel
abbrev cJ3_checkIndex_8e157 : ByteArray := prog_34_method_11_code
def yJ3_checkIndex_8e157 : MethodName := ⟨RJ3, "checkIndex", "(IILjava/util/function/BiFunction;)I"⟩
def RL : String := "MacroReaderLaw"
abbrev cL_next : ByteArray := method_3_code
def yL_next : MethodName := ⟨RL, "next", "(LMacroReader;[J)I"⟩
abbrev cL_law : ByteArray := code
def yL_law : MethodName := ⟨RL, "law", "([I)Z"⟩
theorem inX0 : ∀ w ∈ wsX00, w ∈ lw_tbl := by decide +kernel
theorem inX1 : ∀ w ∈ wsX10, w ∈ lw_tbl := by decide +kernel
theorem inX2 : ∀ w ∈ wsX20, w ∈ lw_tbl := by decide +kernel
theorem inX3 : ∀ w ∈ wsX30, w ∈ lw_tbl := by decide +kernel
theorem inX4 : ∀ w ∈ wsX40, w ∈ lw_tbl := by decide +kernel
theorem inX5 : ∀ w ∈ wsX50, w ∈ lw_tbl := by decide +kernel
theorem inX6 : ∀ w ∈ wsX60, w ∈ lw_tbl := by decide +kernel
theorem inX7 : ∀ w ∈ wsX70, w ∈ lw_tbl := by decide +kernel
theorem inX8 : ∀ w ∈ wsX80, w ∈ lw_tbl := by decide +kernel
theorem inJx145de : ∀ w ∈ wsJx145de0, w ∈ lw_tbl := by decide +kernel
theorem inJx8e188 : ∀ w ∈ wsJx8e1880, w ∈ lw_tbl := by decide +kernel
theorem inJxab1ab : ∀ w ∈ wsJxab1ab0, w ∈ lw_tbl := by decide +kernel
theorem inJ13 : ∀ w ∈ wsJ130, w ∈ lw_tbl := by decide +kernel
theorem inJ9 : ∀ w ∈ wsJ90, w ∈ lw_tbl := by decide +kernel
theorem inJ0 : ∀ w ∈ wsJ00, w ∈ lw_tbl := by decide +kernel
theorem inJ1 : ∀ w ∈ wsJ10, w ∈ lw_tbl := by decide +kernel
theorem inJ2 : ∀ w ∈ wsJ20, w ∈ lw_tbl := by decide +kernel
theorem inJ10 : ∀ w ∈ wsJ100, w ∈ lw_tbl := by decide +kernel
theorem inJxa1e45 : ∀ w ∈ wsJxa1e450, w ∈ lw_tbl := by decide +kernel
theorem inJxc12de : ∀ w ∈ wsJxc12de0, w ∈ lw_tbl := by decide +kernel
theorem inJx4a65c : ∀ w ∈ wsJx4a65c0, w ∈ lw_tbl := by decide +kernel
theorem inJ7 : ∀ w ∈ wsJ70, w ∈ lw_tbl := by decide +kernel
theorem inJx5ef63 : ∀ w ∈ wsJx5ef630, w ∈ lw_tbl := by decide +kernel
theorem inJxbd725 : ∀ w ∈ wsJxbd7250, w ∈ lw_tbl := by decide +kernel
theorem inJ15 : ∀ w ∈ wsJ150, w ∈ lw_tbl := by decide +kernel
theorem inJxf0a74 : ∀ w ∈ wsJxf0a740, w ∈ lw_tbl := by decide +kernel
theorem inJxa66e6 : ∀ w ∈ wsJxa66e60, w ∈ lw_tbl := by decide +kernel
theorem inJ8 : ∀ w ∈ wsJ80, w ∈ lw_tbl := by decide +kernel
theorem inJ3 : ∀ w ∈ wsJ30, w ∈ lw_tbl := by decide +kernel
abbrev vwCl : List vw_C := [(RJx4a65c, TJx4a65c, 3), (RX0, TX0, 3), (RX1, TX1, 2), (RX2, TX2, 6), (RX3, TX3, 2), (RX4, TX4, 11), (RX5, TX5, 4), (RX6, TX6, 7), (RX7, TX7, 13), (RX8, TX8, 50)]
end
section
theorem dX0_init_0 : decode cX0_init 0 = .ok (.aload_n 0, 1) := by decide +kernel
theorem dX0_init_1 : decode cX0_init 1 = .ok (.invokespecial 1, 3) := by decide +kernel
theorem dX0_init_4 : decode cX0_init 4 = .ok (.aload_n 0, 1) := by decide +kernel
theorem dX0_init_5 : decode cX0_init 5 = .ok (.iload_n 2, 1) := by decide +kernel
theorem dX0_init_6 : decode cX0_init 6 = .ok (.putfield 7, 3) := by decide +kernel
theorem dX0_init_9 : decode cX0_init 9 = .ok (.aload_n 0, 1) := by decide +kernel
theorem dX0_init_10 : decode cX0_init 10 = .ok (.iconst 0, 1) := by decide +kernel
theorem dX0_init_11 : decode cX0_init 11 = .ok (.iload_n 1, 1) := by decide +kernel
theorem dX0_init_12 : decode cX0_init 12 = .ok (.invokestatic 13, 3) := by decide +kernel
theorem dX0_init_15 : decode cX0_init 15 = .ok (.newarray .byte, 2) := by decide +kernel
theorem dX0_init_17 : decode cX0_init 17 = .ok (.putfield 19, 3) := by decide +kernel
theorem dX0_init_20 : decode cX0_init 20 = .ok (.return_, 1) := by decide +kernel
theorem dX0_size_0 : decode cX0_size 0 = .ok (.aload_n 0, 1) := by decide +kernel
theorem dX0_size_1 : decode cX0_size 1 = .ok (.getfield 23, 3) := by decide +kernel
theorem dX0_size_4 : decode cX0_size 4 = .ok (.ireturn, 1) := by decide +kernel
theorem dX0_clear_0 : decode cX0_clear 0 = .ok (.aload_n 0, 1) := by decide +kernel
theorem dX0_clear_1 : decode cX0_clear 1 = .ok (.iconst 0, 1) := by decide +kernel
theorem dX0_clear_2 : decode cX0_clear 2 = .ok (.putfield 23, 3) := by decide +kernel
theorem dX0_clear_5 : decode cX0_clear 5 = .ok (.return_, 1) := by decide +kernel
theorem dX0_at_0 : decode cX0_at 0 = .ok (.iload_n 1, 1) := by decide +kernel
theorem dX0_at_1 : decode cX0_at 1 = .ok (.ifCond .lt 33, 3) := by decide +kernel
theorem dX0_at_4 : decode cX0_at 4 = .ok (.iload_n 1, 1) := by decide +kernel
theorem dX0_at_5 : decode cX0_at 5 = .ok (.aload_n 0, 1) := by decide +kernel
theorem dX0_at_6 : decode cX0_at 6 = .ok (.getfield 23, 3) := by decide +kernel
theorem dX0_at_9 : decode cX0_at 9 = .ok (.if_icmp .ge 25, 3) := by decide +kernel
theorem dX0_at_12 : decode cX0_at 12 = .ok (.iload_n 1, 1) := by decide +kernel
theorem dX0_at_13 : decode cX0_at 13 = .ok (.aload_n 0, 1) := by decide +kernel
theorem dX0_at_14 : decode cX0_at 14 = .ok (.getfield 19, 3) := by decide +kernel
theorem dX0_at_17 : decode cX0_at 17 = .ok (.arraylength, 1) := by decide +kernel
theorem dX0_at_18 : decode cX0_at 18 = .ok (.if_icmp .ge 16, 3) := by decide +kernel
theorem dX0_at_21 : decode cX0_at 21 = .ok (.aload_n 0, 1) := by decide +kernel
theorem dX0_at_22 : decode cX0_at 22 = .ok (.getfield 19, 3) := by decide +kernel
theorem dX0_at_25 : decode cX0_at 25 = .ok (.iload_n 1, 1) := by decide +kernel
theorem dX0_at_26 : decode cX0_at 26 = .ok (.baload, 1) := by decide +kernel
theorem dX0_at_27 : decode cX0_at 27 = .ok (.sipush 255, 3) := by decide +kernel
theorem dX0_at_30 : decode cX0_at 30 = .ok (.iand, 1) := by decide +kernel
theorem dX0_at_31 : decode cX0_at 31 = .ok (.goto 4, 3) := by decide +kernel
theorem dX0_at_34 : decode cX0_at 34 = .ok (.iconst (-1), 1) := by decide +kernel
theorem dX0_at_35 : decode cX0_at 35 = .ok (.ireturn, 1) := by decide +kernel
theorem dX0_holds_0 : decode cX0_holds 0 = .ok (.iload_n 1, 1) := by decide +kernel
theorem dX0_holds_1 : decode cX0_holds 1 = .ok (.ifCond .lt 21, 3) := by decide +kernel
theorem dX0_holds_4 : decode cX0_holds 4 = .ok (.iload_n 2, 1) := by decide +kernel
theorem dX0_holds_5 : decode cX0_holds 5 = .ok (.ifCond .lt 17, 3) := by decide +kernel
theorem dX0_holds_8 : decode cX0_holds 8 = .ok (.iload_n 2, 1) := by decide +kernel
theorem dX0_holds_9 : decode cX0_holds 9 = .ok (.aload_n 0, 1) := by decide +kernel
theorem dX0_holds_10 : decode cX0_holds 10 = .ok (.getfield 23, 3) := by decide +kernel
theorem dX0_holds_13 : decode cX0_holds 13 = .ok (.iload_n 1, 1) := by decide +kernel
theorem dX0_holds_14 : decode cX0_holds 14 = .ok (.isub, 1) := by decide +kernel
theorem dX0_holds_15 : decode cX0_holds 15 = .ok (.if_icmp .gt 7, 3) := by decide +kernel
theorem dX0_holds_18 : decode cX0_holds 18 = .ok (.iconst 1, 1) := by decide +kernel
theorem dX0_holds_19 : decode cX0_holds 19 = .ok (.goto 4, 3) := by decide +kernel
theorem dX0_holds_22 : decode cX0_holds 22 = .ok (.iconst 0, 1) := by decide +kernel
theorem dX0_holds_23 : decode cX0_holds 23 = .ok (.ireturn, 1) := by decide +kernel
theorem dX0_append_0 : decode cX0_append 0 = .ok (.aload_n 0, 1) := by decide +kernel
theorem dX0_append_1 : decode cX0_append 1 = .ok (.getfield 23, 3) := by decide +kernel
theorem dX0_append_4 : decode cX0_append 4 = .ok (.aload_n 0, 1) := by decide +kernel
theorem dX0_append_5 : decode cX0_append 5 = .ok (.getfield 7, 3) := by decide +kernel
theorem dX0_append_8 : decode cX0_append 8 = .ok (.if_icmp .lt 5, 3) := by decide +kernel
theorem dX0_append_11 : decode cX0_append 11 = .ok (.iconst 0, 1) := by decide +kernel
theorem dX0_append_12 : decode cX0_append 12 = .ok (.ireturn, 1) := by decide +kernel
theorem dX0_append_13 : decode cX0_append 13 = .ok (.aload_n 0, 1) := by decide +kernel
theorem dX0_append_14 : decode cX0_append 14 = .ok (.getfield 23, 3) := by decide +kernel
theorem dX0_append_17 : decode cX0_append 17 = .ok (.aload_n 0, 1) := by decide +kernel
theorem dX0_append_18 : decode cX0_append 18 = .ok (.getfield 19, 3) := by decide +kernel
theorem dX0_append_21 : decode cX0_append 21 = .ok (.arraylength, 1) := by decide +kernel
theorem dX0_append_22 : decode cX0_append 22 = .ok (.if_icmp .lt 31, 3) := by decide +kernel
theorem dX0_append_25 : decode cX0_append 25 = .ok (.aload_n 0, 1) := by decide +kernel
theorem dX0_append_26 : decode cX0_append 26 = .ok (.aload_n 0, 1) := by decide +kernel
theorem dX0_append_27 : decode cX0_append 27 = .ok (.getfield 19, 3) := by decide +kernel
theorem dX0_append_30 : decode cX0_append 30 = .ok (.aload_n 0, 1) := by decide +kernel
theorem dX0_append_31 : decode cX0_append 31 = .ok (.getfield 7, 3) := by decide +kernel
theorem dX0_append_34 : decode cX0_append 34 = .ok (.iconst 2, 1) := by decide +kernel
theorem dX0_append_35 : decode cX0_append 35 = .ok (.aload_n 0, 1) := by decide +kernel
theorem dX0_append_36 : decode cX0_append 36 = .ok (.getfield 19, 3) := by decide +kernel
theorem dX0_append_39 : decode cX0_append 39 = .ok (.arraylength, 1) := by decide +kernel
theorem dX0_append_40 : decode cX0_append 40 = .ok (.imul, 1) := by decide +kernel
theorem dX0_append_41 : decode cX0_append 41 = .ok (.bipush 16, 2) := by decide +kernel
theorem dX0_append_43 : decode cX0_append 43 = .ok (.iadd, 1) := by decide +kernel
theorem dX0_append_44 : decode cX0_append 44 = .ok (.invokestatic 26, 3) := by decide +kernel
theorem dX0_append_47 : decode cX0_append 47 = .ok (.invokestatic 29, 3) := by decide +kernel
theorem dX0_append_50 : decode cX0_append 50 = .ok (.putfield 19, 3) := by decide +kernel
theorem dX0_append_53 : decode cX0_append 53 = .ok (.aload_n 0, 1) := by decide +kernel
theorem dX0_append_54 : decode cX0_append 54 = .ok (.getfield 19, 3) := by decide +kernel
theorem dX0_append_57 : decode cX0_append 57 = .ok (.aload_n 0, 1) := by decide +kernel
theorem dX0_append_58 : decode cX0_append 58 = .ok (.getfield 23, 3) := by decide +kernel
theorem dX0_append_61 : decode cX0_append 61 = .ok (.iload_n 1, 1) := by decide +kernel
theorem dX0_append_62 : decode cX0_append 62 = .ok (.i2b, 1) := by decide +kernel
theorem dX0_append_63 : decode cX0_append 63 = .ok (.bastore, 1) := by decide +kernel
theorem dX0_append_64 : decode cX0_append 64 = .ok (.aload_n 0, 1) := by decide +kernel
theorem dX0_append_65 : decode cX0_append 65 = .ok (.dup, 1) := by decide +kernel
theorem dX0_append_66 : decode cX0_append 66 = .ok (.getfield 23, 3) := by decide +kernel
theorem dX0_append_69 : decode cX0_append 69 = .ok (.iconst 1, 1) := by decide +kernel
theorem dX0_append_70 : decode cX0_append 70 = .ok (.iadd, 1) := by decide +kernel
theorem dX0_append_71 : decode cX0_append 71 = .ok (.putfield 23, 3) := by decide +kernel
theorem dX0_append_74 : decode cX0_append 74 = .ok (.iconst 1, 1) := by decide +kernel
theorem dX0_append_75 : decode cX0_append 75 = .ok (.ireturn, 1) := by decide +kernel
theorem dX0_appendPart_0 : decode cX0_appendPart 0 = .ok (.iload_n 2, 1) := by decide +kernel
theorem dX0_appendPart_1 : decode cX0_appendPart 1 = .ok (.istore 4, 2) := by decide +kernel
theorem dX0_appendPart_3 : decode cX0_appendPart 3 = .ok (.iload 4, 2) := by decide +kernel
theorem dX0_appendPart_5 : decode cX0_appendPart 5 = .ok (.iload_n 3, 1) := by decide +kernel
theorem dX0_appendPart_6 : decode cX0_appendPart 6 = .ok (.if_icmp .ge 24, 3) := by decide +kernel
theorem dX0_appendPart_9 : decode cX0_appendPart 9 = .ok (.aload_n 0, 1) := by decide +kernel
theorem dX0_appendPart_10 : decode cX0_appendPart 10 = .ok (.aload_n 1, 1) := by decide +kernel
theorem dX0_appendPart_11 : decode cX0_appendPart 11 = .ok (.iload 4, 2) := by decide +kernel
theorem dX0_appendPart_13 : decode cX0_appendPart 13 = .ok (.invokevirtual 35, 3) := by decide +kernel
theorem dX0_appendPart_16 : decode cX0_appendPart 16 = .ok (.invokevirtual 39, 3) := by decide +kernel
theorem dX0_appendPart_19 : decode cX0_appendPart 19 = .ok (.ifCond .ne 5, 3) := by decide +kernel
theorem dX0_appendPart_22 : decode cX0_appendPart 22 = .ok (.iconst 0, 1) := by decide +kernel
theorem dX0_appendPart_23 : decode cX0_appendPart 23 = .ok (.ireturn, 1) := by decide +kernel
theorem dX0_appendPart_24 : decode cX0_appendPart 24 = .ok (.iinc 4 1, 3) := by decide +kernel
theorem dX0_appendPart_27 : decode cX0_appendPart 27 = .ok (.goto (-24), 3) := by decide +kernel
theorem dX0_appendPart_30 : decode cX0_appendPart 30 = .ok (.iconst 1, 1) := by decide +kernel
theorem dX0_appendPart_31 : decode cX0_appendPart 31 = .ok (.ireturn, 1) := by decide +kernel
theorem dX0_appendDecimal_0 : decode cX0_appendDecimal 0 = .ok (.iconst 0, 1) := by decide +kernel
theorem dX0_appendDecimal_1 : decode cX0_appendDecimal 1 = .ok (.istore_n 2, 1) := by decide +kernel
theorem dX0_appendDecimal_2 : decode cX0_appendDecimal 2 = .ok (.iconst 1, 1) := by decide +kernel
theorem dX0_appendDecimal_3 : decode cX0_appendDecimal 3 = .ok (.istore_n 3, 1) := by decide +kernel
theorem dX0_appendDecimal_4 : decode cX0_appendDecimal 4 = .ok (.ldc 43, 2) := by decide +kernel
theorem dX0_appendDecimal_6 : decode cX0_appendDecimal 6 = .ok (.istore 4, 2) := by decide +kernel
theorem dX0_appendDecimal_8 : decode cX0_appendDecimal 8 = .ok (.iload 4, 2) := by decide +kernel
theorem dX0_appendDecimal_10 : decode cX0_appendDecimal 10 = .ok (.ifCond .le 69, 3) := by decide +kernel
theorem dX0_appendDecimal_13 : decode cX0_appendDecimal 13 = .ok (.iload_n 1, 1) := by decide +kernel
theorem dX0_appendDecimal_14 : decode cX0_appendDecimal 14 = .ok (.iload 4, 2) := by decide +kernel
theorem dX0_appendDecimal_16 : decode cX0_appendDecimal 16 = .ok (.idiv, 1) := by decide +kernel
theorem dX0_appendDecimal_17 : decode cX0_appendDecimal 17 = .ok (.bipush 10, 2) := by decide +kernel
theorem dX0_appendDecimal_19 : decode cX0_appendDecimal 19 = .ok (.irem, 1) := by decide +kernel
theorem dX0_appendDecimal_20 : decode cX0_appendDecimal 20 = .ok (.istore 5, 2) := by decide +kernel
theorem dX0_appendDecimal_22 : decode cX0_appendDecimal 22 = .ok (.iload_n 2, 1) := by decide +kernel
theorem dX0_appendDecimal_23 : decode cX0_appendDecimal 23 = .ok (.ifCond .ne 14, 3) := by decide +kernel
theorem dX0_appendDecimal_26 : decode cX0_appendDecimal 26 = .ok (.iload 5, 2) := by decide +kernel
theorem dX0_appendDecimal_28 : decode cX0_appendDecimal 28 = .ok (.ifCond .ne 9, 3) := by decide +kernel
theorem dX0_appendDecimal_31 : decode cX0_appendDecimal 31 = .ok (.iload 4, 2) := by decide +kernel
theorem dX0_appendDecimal_33 : decode cX0_appendDecimal 33 = .ok (.iconst 1, 1) := by decide +kernel
theorem dX0_appendDecimal_34 : decode cX0_appendDecimal 34 = .ok (.if_icmp .ne 7, 3) := by decide +kernel
theorem dX0_appendDecimal_37 : decode cX0_appendDecimal 37 = .ok (.iconst 1, 1) := by decide +kernel
theorem dX0_appendDecimal_38 : decode cX0_appendDecimal 38 = .ok (.goto 4, 3) := by decide +kernel
theorem dX0_appendDecimal_41 : decode cX0_appendDecimal 41 = .ok (.iconst 0, 1) := by decide +kernel
theorem dX0_appendDecimal_42 : decode cX0_appendDecimal 42 = .ok (.istore_n 2, 1) := by decide +kernel
theorem dX0_appendDecimal_43 : decode cX0_appendDecimal 43 = .ok (.iload_n 2, 1) := by decide +kernel
theorem dX0_appendDecimal_44 : decode cX0_appendDecimal 44 = .ok (.ifCond .eq 25, 3) := by decide +kernel
theorem dX0_appendDecimal_47 : decode cX0_appendDecimal 47 = .ok (.aload_n 0, 1) := by decide +kernel
theorem dX0_appendDecimal_48 : decode cX0_appendDecimal 48 = .ok (.bipush 48, 2) := by decide +kernel
theorem dX0_appendDecimal_50 : decode cX0_appendDecimal 50 = .ok (.iload 5, 2) := by decide +kernel
theorem dX0_appendDecimal_52 : decode cX0_appendDecimal 52 = .ok (.iadd, 1) := by decide +kernel
theorem dX0_appendDecimal_53 : decode cX0_appendDecimal 53 = .ok (.invokevirtual 39, 3) := by decide +kernel
theorem dX0_appendDecimal_56 : decode cX0_appendDecimal 56 = .ok (.ifCond .eq 11, 3) := by decide +kernel
theorem dX0_appendDecimal_59 : decode cX0_appendDecimal 59 = .ok (.iload_n 3, 1) := by decide +kernel
theorem dX0_appendDecimal_60 : decode cX0_appendDecimal 60 = .ok (.ifCond .eq 7, 3) := by decide +kernel
theorem dX0_appendDecimal_63 : decode cX0_appendDecimal 63 = .ok (.iconst 1, 1) := by decide +kernel
theorem dX0_appendDecimal_64 : decode cX0_appendDecimal 64 = .ok (.goto 4, 3) := by decide +kernel
theorem dX0_appendDecimal_67 : decode cX0_appendDecimal 67 = .ok (.iconst 0, 1) := by decide +kernel
theorem dX0_appendDecimal_68 : decode cX0_appendDecimal 68 = .ok (.istore_n 3, 1) := by decide +kernel
theorem dX0_appendDecimal_69 : decode cX0_appendDecimal 69 = .ok (.iload 4, 2) := by decide +kernel
theorem dX0_appendDecimal_71 : decode cX0_appendDecimal 71 = .ok (.bipush 10, 2) := by decide +kernel
theorem dX0_appendDecimal_73 : decode cX0_appendDecimal 73 = .ok (.idiv, 1) := by decide +kernel
theorem dX0_appendDecimal_74 : decode cX0_appendDecimal 74 = .ok (.istore 4, 2) := by decide +kernel
theorem dX0_appendDecimal_76 : decode cX0_appendDecimal 76 = .ok (.goto (-68), 3) := by decide +kernel
theorem dX0_appendDecimal_79 : decode cX0_appendDecimal 79 = .ok (.iload_n 3, 1) := by decide +kernel
theorem dX0_appendDecimal_80 : decode cX0_appendDecimal 80 = .ok (.ireturn, 1) := by decide +kernel
theorem dX0_behindBlanks_0 : decode cX0_behindBlanks 0 = .ok (.iload_n 1, 1) := by decide +kernel
theorem dX0_behindBlanks_1 : decode cX0_behindBlanks 1 = .ok (.istore_n 2, 1) := by decide +kernel
theorem dX0_behindBlanks_2 : decode cX0_behindBlanks 2 = .ok (.iload_n 2, 1) := by decide +kernel
theorem dX0_behindBlanks_3 : decode cX0_behindBlanks 3 = .ok (.aload_n 0, 1) := by decide +kernel
theorem dX0_behindBlanks_4 : decode cX0_behindBlanks 4 = .ok (.getfield 23, 3) := by decide +kernel
theorem dX0_behindBlanks_7 : decode cX0_behindBlanks 7 = .ok (.if_icmp .ge 20, 3) := by decide +kernel
theorem dX0_behindBlanks_10 : decode cX0_behindBlanks 10 = .ok (.aload_n 0, 1) := by decide +kernel
theorem dX0_behindBlanks_11 : decode cX0_behindBlanks 11 = .ok (.iload_n 2, 1) := by decide +kernel
theorem dX0_behindBlanks_12 : decode cX0_behindBlanks 12 = .ok (.invokevirtual 35, 3) := by decide +kernel
theorem dX0_behindBlanks_15 : decode cX0_behindBlanks 15 = .ok (.invokestatic 44, 3) := by decide +kernel
theorem dX0_behindBlanks_18 : decode cX0_behindBlanks 18 = .ok (.ifCond .eq 9, 3) := by decide +kernel
theorem dX0_behindBlanks_21 : decode cX0_behindBlanks 21 = .ok (.iinc 2 1, 3) := by decide +kernel
theorem dX0_behindBlanks_24 : decode cX0_behindBlanks 24 = .ok (.goto (-22), 3) := by decide +kernel
theorem dX0_behindBlanks_27 : decode cX0_behindBlanks 27 = .ok (.iload_n 2, 1) := by decide +kernel
theorem dX0_behindBlanks_28 : decode cX0_behindBlanks 28 = .ok (.ireturn, 1) := by decide +kernel
theorem dX0_behindNameBytes_0 : decode cX0_behindNameBytes 0 = .ok (.iload_n 1, 1) := by decide +kernel
theorem dX0_behindNameBytes_1 : decode cX0_behindNameBytes 1 = .ok (.istore_n 2, 1) := by decide +kernel
theorem dX0_behindNameBytes_2 : decode cX0_behindNameBytes 2 = .ok (.iload_n 2, 1) := by decide +kernel
theorem dX0_behindNameBytes_3 : decode cX0_behindNameBytes 3 = .ok (.aload_n 0, 1) := by decide +kernel
theorem dX0_behindNameBytes_4 : decode cX0_behindNameBytes 4 = .ok (.getfield 23, 3) := by decide +kernel
theorem dX0_behindNameBytes_7 : decode cX0_behindNameBytes 7 = .ok (.if_icmp .ge 20, 3) := by decide +kernel
theorem dX0_behindNameBytes_10 : decode cX0_behindNameBytes 10 = .ok (.aload_n 0, 1) := by decide +kernel
theorem dX0_behindNameBytes_11 : decode cX0_behindNameBytes 11 = .ok (.iload_n 2, 1) := by decide +kernel
theorem dX0_behindNameBytes_12 : decode cX0_behindNameBytes 12 = .ok (.invokevirtual 35, 3) := by decide +kernel
theorem dX0_behindNameBytes_15 : decode cX0_behindNameBytes 15 = .ok (.invokestatic 49, 3) := by decide +kernel
theorem dX0_behindNameBytes_18 : decode cX0_behindNameBytes 18 = .ok (.ifCond .eq 9, 3) := by decide +kernel
theorem dX0_behindNameBytes_21 : decode cX0_behindNameBytes 21 = .ok (.iinc 2 1, 3) := by decide +kernel
theorem dX0_behindNameBytes_24 : decode cX0_behindNameBytes 24 = .ok (.goto (-22), 3) := by decide +kernel
theorem dX0_behindNameBytes_27 : decode cX0_behindNameBytes 27 = .ok (.iload_n 2, 1) := by decide +kernel
theorem dX0_behindNameBytes_28 : decode cX0_behindNameBytes 28 = .ok (.ireturn, 1) := by decide +kernel
theorem dX0_spells_0 : decode cX0_spells 0 = .ok (.iload_n 3, 1) := by decide +kernel
theorem dX0_spells_1 : decode cX0_spells 1 = .ok (.iload_n 2, 1) := by decide +kernel
theorem dX0_spells_2 : decode cX0_spells 2 = .ok (.isub, 1) := by decide +kernel
theorem dX0_spells_3 : decode cX0_spells 3 = .ok (.aload_n 1, 1) := by decide +kernel
theorem dX0_spells_4 : decode cX0_spells 4 = .ok (.invokevirtual 52, 3) := by decide +kernel
theorem dX0_spells_7 : decode cX0_spells 7 = .ok (.if_icmp .ne 15, 3) := by decide +kernel
theorem dX0_spells_10 : decode cX0_spells 10 = .ok (.aload_n 0, 1) := by decide +kernel
theorem dX0_spells_11 : decode cX0_spells 11 = .ok (.iload_n 2, 1) := by decide +kernel
theorem dX0_spells_12 : decode cX0_spells 12 = .ok (.aload_n 1, 1) := by decide +kernel
theorem dX0_spells_13 : decode cX0_spells 13 = .ok (.invokevirtual 52, 3) := by decide +kernel
theorem dX0_spells_16 : decode cX0_spells 16 = .ok (.invokevirtual 58, 3) := by decide +kernel
theorem dX0_spells_19 : decode cX0_spells 19 = .ok (.ifCond .ne 5, 3) := by decide +kernel
theorem dX0_spells_22 : decode cX0_spells 22 = .ok (.iconst 0, 1) := by decide +kernel
theorem dX0_spells_23 : decode cX0_spells 23 = .ok (.ireturn, 1) := by decide +kernel
theorem dX0_spells_24 : decode cX0_spells 24 = .ok (.iconst 0, 1) := by decide +kernel
theorem dX0_spells_25 : decode cX0_spells 25 = .ok (.istore 4, 2) := by decide +kernel
theorem dX0_spells_27 : decode cX0_spells 27 = .ok (.iload 4, 2) := by decide +kernel
theorem dX0_spells_29 : decode cX0_spells 29 = .ok (.aload_n 1, 1) := by decide +kernel
theorem dX0_spells_30 : decode cX0_spells 30 = .ok (.invokevirtual 52, 3) := by decide +kernel
theorem dX0_spells_33 : decode cX0_spells 33 = .ok (.if_icmp .ge 29, 3) := by decide +kernel
theorem dX0_spells_36 : decode cX0_spells 36 = .ok (.aload_n 0, 1) := by decide +kernel
theorem dX0_spells_37 : decode cX0_spells 37 = .ok (.getfield 19, 3) := by decide +kernel
theorem dX0_spells_40 : decode cX0_spells 40 = .ok (.iload_n 2, 1) := by decide +kernel
theorem dX0_spells_41 : decode cX0_spells 41 = .ok (.iload 4, 2) := by decide +kernel
theorem dX0_spells_43 : decode cX0_spells 43 = .ok (.iadd, 1) := by decide +kernel
theorem dX0_spells_44 : decode cX0_spells 44 = .ok (.baload, 1) := by decide +kernel
theorem dX0_spells_45 : decode cX0_spells 45 = .ok (.aload_n 1, 1) := by decide +kernel
theorem dX0_spells_46 : decode cX0_spells 46 = .ok (.iload 4, 2) := by decide +kernel
theorem dX0_spells_48 : decode cX0_spells 48 = .ok (.invokevirtual 62, 3) := by decide +kernel
theorem dX0_spells_51 : decode cX0_spells 51 = .ok (.if_icmp .eq 5, 3) := by decide +kernel
theorem dX0_spells_54 : decode cX0_spells 54 = .ok (.iconst 0, 1) := by decide +kernel
theorem dX0_spells_55 : decode cX0_spells 55 = .ok (.ireturn, 1) := by decide +kernel
theorem dX0_spells_56 : decode cX0_spells 56 = .ok (.iinc 4 1, 3) := by decide +kernel
theorem dX0_spells_59 : decode cX0_spells 59 = .ok (.goto (-32), 3) := by decide +kernel
theorem dX0_spells_62 : decode cX0_spells 62 = .ok (.iconst 1, 1) := by decide +kernel
theorem dX0_spells_63 : decode cX0_spells 63 = .ok (.ireturn, 1) := by decide +kernel
theorem dX0_isSame_0 : decode cX0_isSame 0 = .ok (.aload_n 0, 1) := by decide +kernel
theorem dX0_isSame_1 : decode cX0_isSame 1 = .ok (.iload_n 1, 1) := by decide +kernel
theorem dX0_isSame_2 : decode cX0_isSame 2 = .ok (.iload_n 2, 1) := by decide +kernel
theorem dX0_isSame_3 : decode cX0_isSame 3 = .ok (.invokevirtual 58, 3) := by decide +kernel
theorem dX0_isSame_6 : decode cX0_isSame 6 = .ok (.ifCond .eq 13, 3) := by decide +kernel
theorem dX0_isSame_9 : decode cX0_isSame 9 = .ok (.aload_n 3, 1) := by decide +kernel
theorem dX0_isSame_10 : decode cX0_isSame 10 = .ok (.iload 4, 2) := by decide +kernel
theorem dX0_isSame_12 : decode cX0_isSame 12 = .ok (.iload_n 2, 1) := by decide +kernel
theorem dX0_isSame_13 : decode cX0_isSame 13 = .ok (.invokevirtual 58, 3) := by decide +kernel
theorem dX0_isSame_16 : decode cX0_isSame 16 = .ok (.ifCond .ne 5, 3) := by decide +kernel
theorem dX0_isSame_19 : decode cX0_isSame 19 = .ok (.iconst 0, 1) := by decide +kernel
theorem dX0_isSame_20 : decode cX0_isSame 20 = .ok (.ireturn, 1) := by decide +kernel
theorem dX0_isSame_21 : decode cX0_isSame 21 = .ok (.iconst 0, 1) := by decide +kernel
theorem dX0_isSame_22 : decode cX0_isSame 22 = .ok (.istore 5, 2) := by decide +kernel
theorem dX0_isSame_24 : decode cX0_isSame 24 = .ok (.iload 5, 2) := by decide +kernel
theorem dX0_isSame_26 : decode cX0_isSame 26 = .ok (.iload_n 2, 1) := by decide +kernel
theorem dX0_isSame_27 : decode cX0_isSame 27 = .ok (.if_icmp .ge 33, 3) := by decide +kernel
theorem dX0_isSame_30 : decode cX0_isSame 30 = .ok (.aload_n 0, 1) := by decide +kernel
theorem dX0_isSame_31 : decode cX0_isSame 31 = .ok (.getfield 19, 3) := by decide +kernel
theorem dX0_isSame_34 : decode cX0_isSame 34 = .ok (.iload_n 1, 1) := by decide +kernel
theorem dX0_isSame_35 : decode cX0_isSame 35 = .ok (.iload 5, 2) := by decide +kernel
theorem dX0_isSame_37 : decode cX0_isSame 37 = .ok (.iadd, 1) := by decide +kernel
theorem dX0_isSame_38 : decode cX0_isSame 38 = .ok (.baload, 1) := by decide +kernel
theorem dX0_isSame_39 : decode cX0_isSame 39 = .ok (.aload_n 3, 1) := by decide +kernel
theorem dX0_isSame_40 : decode cX0_isSame 40 = .ok (.getfield 19, 3) := by decide +kernel
theorem dX0_isSame_43 : decode cX0_isSame 43 = .ok (.iload 4, 2) := by decide +kernel
theorem dX0_isSame_45 : decode cX0_isSame 45 = .ok (.iload 5, 2) := by decide +kernel
theorem dX0_isSame_47 : decode cX0_isSame 47 = .ok (.iadd, 1) := by decide +kernel
theorem dX0_isSame_48 : decode cX0_isSame 48 = .ok (.baload, 1) := by decide +kernel
theorem dX0_isSame_49 : decode cX0_isSame 49 = .ok (.if_icmp .eq 5, 3) := by decide +kernel
theorem dX0_isSame_52 : decode cX0_isSame 52 = .ok (.iconst 0, 1) := by decide +kernel
theorem dX0_isSame_53 : decode cX0_isSame 53 = .ok (.ireturn, 1) := by decide +kernel
theorem dX0_isSame_54 : decode cX0_isSame 54 = .ok (.iinc 5 1, 3) := by decide +kernel
theorem dX0_isSame_57 : decode cX0_isSame 57 = .ok (.goto (-33), 3) := by decide +kernel
theorem dX0_isSame_60 : decode cX0_isSame 60 = .ok (.iconst 1, 1) := by decide +kernel
theorem dX0_isSame_61 : decode cX0_isSame 61 = .ok (.ireturn, 1) := by decide +kernel
theorem dX1_init_0 : decode cX1_init 0 = .ok (.aload_n 0, 1) := by decide +kernel
theorem dX1_init_1 : decode cX1_init 1 = .ok (.invokespecial 1, 3) := by decide +kernel
theorem dX1_init_4 : decode cX1_init 4 = .ok (.aload_n 0, 1) := by decide +kernel
theorem dX1_init_5 : decode cX1_init 5 = .ok (.bipush 8, 2) := by decide +kernel
theorem dX1_init_7 : decode cX1_init 7 = .ok (.newarray .int, 2) := by decide +kernel
theorem dX1_init_9 : decode cX1_init 9 = .ok (.putfield 7, 3) := by decide +kernel
theorem dX1_init_12 : decode cX1_init 12 = .ok (.return_, 1) := by decide +kernel
theorem dX1_size_0 : decode cX1_size 0 = .ok (.aload_n 0, 1) := by decide +kernel
theorem dX1_size_1 : decode cX1_size 1 = .ok (.getfield 13, 3) := by decide +kernel
theorem dX1_size_4 : decode cX1_size 4 = .ok (.ireturn, 1) := by decide +kernel
theorem dX1_clear_0 : decode cX1_clear 0 = .ok (.aload_n 0, 1) := by decide +kernel
theorem dX1_clear_1 : decode cX1_clear 1 = .ok (.iconst 0, 1) := by decide +kernel
theorem dX1_clear_2 : decode cX1_clear 2 = .ok (.putfield 13, 3) := by decide +kernel
theorem dX1_clear_5 : decode cX1_clear 5 = .ok (.return_, 1) := by decide +kernel
theorem dX1_at_0 : decode cX1_at 0 = .ok (.iload_n 1, 1) := by decide +kernel
theorem dX1_at_1 : decode cX1_at 1 = .ok (.ifCond .lt 29, 3) := by decide +kernel
theorem dX1_at_4 : decode cX1_at 4 = .ok (.iload_n 1, 1) := by decide +kernel
theorem dX1_at_5 : decode cX1_at 5 = .ok (.aload_n 0, 1) := by decide +kernel
theorem dX1_at_6 : decode cX1_at 6 = .ok (.getfield 13, 3) := by decide +kernel
theorem dX1_at_9 : decode cX1_at 9 = .ok (.if_icmp .ge 21, 3) := by decide +kernel
theorem dX1_at_12 : decode cX1_at 12 = .ok (.iload_n 1, 1) := by decide +kernel
theorem dX1_at_13 : decode cX1_at 13 = .ok (.aload_n 0, 1) := by decide +kernel
theorem dX1_at_14 : decode cX1_at 14 = .ok (.getfield 7, 3) := by decide +kernel
theorem dX1_at_17 : decode cX1_at 17 = .ok (.arraylength, 1) := by decide +kernel
theorem dX1_at_18 : decode cX1_at 18 = .ok (.if_icmp .ge 12, 3) := by decide +kernel
theorem dX1_at_21 : decode cX1_at 21 = .ok (.aload_n 0, 1) := by decide +kernel
theorem dX1_at_22 : decode cX1_at 22 = .ok (.getfield 7, 3) := by decide +kernel
theorem dX1_at_25 : decode cX1_at 25 = .ok (.iload_n 1, 1) := by decide +kernel
theorem dX1_at_26 : decode cX1_at 26 = .ok (.iaload, 1) := by decide +kernel
theorem dX1_at_27 : decode cX1_at 27 = .ok (.goto 4, 3) := by decide +kernel
theorem dX1_at_30 : decode cX1_at 30 = .ok (.iconst 0, 1) := by decide +kernel
theorem dX1_at_31 : decode cX1_at 31 = .ok (.ireturn, 1) := by decide +kernel
theorem dX1_add_0 : decode cX1_add 0 = .ok (.aload_n 0, 1) := by decide +kernel
theorem dX1_add_1 : decode cX1_add 1 = .ok (.getfield 13, 3) := by decide +kernel
theorem dX1_add_4 : decode cX1_add 4 = .ok (.aload_n 0, 1) := by decide +kernel
theorem dX1_add_5 : decode cX1_add 5 = .ok (.getfield 7, 3) := by decide +kernel
theorem dX1_add_8 : decode cX1_add 8 = .ok (.arraylength, 1) := by decide +kernel
theorem dX1_add_9 : decode cX1_add 9 = .ok (.if_icmp .lt 24, 3) := by decide +kernel
theorem dX1_add_12 : decode cX1_add 12 = .ok (.aload_n 0, 1) := by decide +kernel
theorem dX1_add_13 : decode cX1_add 13 = .ok (.aload_n 0, 1) := by decide +kernel
theorem dX1_add_14 : decode cX1_add 14 = .ok (.getfield 7, 3) := by decide +kernel
theorem dX1_add_17 : decode cX1_add 17 = .ok (.iconst 2, 1) := by decide +kernel
theorem dX1_add_18 : decode cX1_add 18 = .ok (.aload_n 0, 1) := by decide +kernel
theorem dX1_add_19 : decode cX1_add 19 = .ok (.getfield 7, 3) := by decide +kernel
theorem dX1_add_22 : decode cX1_add 22 = .ok (.arraylength, 1) := by decide +kernel
theorem dX1_add_23 : decode cX1_add 23 = .ok (.imul, 1) := by decide +kernel
theorem dX1_add_24 : decode cX1_add 24 = .ok (.bipush 8, 2) := by decide +kernel
theorem dX1_add_26 : decode cX1_add 26 = .ok (.iadd, 1) := by decide +kernel
theorem dX1_add_27 : decode cX1_add 27 = .ok (.invokestatic 17, 3) := by decide +kernel
theorem dX1_add_30 : decode cX1_add 30 = .ok (.putfield 7, 3) := by decide +kernel
theorem dX1_add_33 : decode cX1_add 33 = .ok (.aload_n 0, 1) := by decide +kernel
theorem dX1_add_34 : decode cX1_add 34 = .ok (.getfield 7, 3) := by decide +kernel
theorem dX1_add_37 : decode cX1_add 37 = .ok (.aload_n 0, 1) := by decide +kernel
theorem dX1_add_38 : decode cX1_add 38 = .ok (.getfield 13, 3) := by decide +kernel
theorem dX1_add_41 : decode cX1_add 41 = .ok (.iload_n 1, 1) := by decide +kernel
theorem dX1_add_42 : decode cX1_add 42 = .ok (.iastore, 1) := by decide +kernel
theorem dX1_add_43 : decode cX1_add 43 = .ok (.aload_n 0, 1) := by decide +kernel
theorem dX1_add_44 : decode cX1_add 44 = .ok (.dup, 1) := by decide +kernel
theorem dX1_add_45 : decode cX1_add 45 = .ok (.getfield 13, 3) := by decide +kernel
theorem dX1_add_48 : decode cX1_add 48 = .ok (.iconst 1, 1) := by decide +kernel
theorem dX1_add_49 : decode cX1_add 49 = .ok (.iadd, 1) := by decide +kernel
theorem dX1_add_50 : decode cX1_add 50 = .ok (.putfield 13, 3) := by decide +kernel
theorem dX1_add_53 : decode cX1_add 53 = .ok (.return_, 1) := by decide +kernel
theorem dX2_init_0 : decode cX2_init 0 = .ok (.aload_n 0, 1) := by decide +kernel
theorem dX2_init_1 : decode cX2_init 1 = .ok (.invokespecial 1, 3) := by decide +kernel
theorem dX2_init_4 : decode cX2_init 4 = .ok (.aload_n 0, 1) := by decide +kernel
theorem dX2_init_5 : decode cX2_init 5 = .ok (.new 7, 3) := by decide +kernel
theorem dX2_init_8 : decode cX2_init 8 = .ok (.dup, 1) := by decide +kernel
theorem dX2_init_9 : decode cX2_init 9 = .ok (.invokespecial 9, 3) := by decide +kernel
theorem dX2_init_12 : decode cX2_init 12 = .ok (.putfield 10, 3) := by decide +kernel
theorem dX2_init_15 : decode cX2_init 15 = .ok (.aload_n 0, 1) := by decide +kernel
theorem dX2_init_16 : decode cX2_init 16 = .ok (.new 7, 3) := by decide +kernel
theorem dX2_init_19 : decode cX2_init 19 = .ok (.dup, 1) := by decide +kernel
theorem dX2_init_20 : decode cX2_init 20 = .ok (.invokespecial 9, 3) := by decide +kernel
theorem dX2_init_23 : decode cX2_init 23 = .ok (.putfield 16, 3) := by decide +kernel
theorem dX2_init_26 : decode cX2_init 26 = .ok (.aload_n 0, 1) := by decide +kernel
theorem dX2_init_27 : decode cX2_init 27 = .ok (.iload_n 2, 1) := by decide +kernel
theorem dX2_init_28 : decode cX2_init 28 = .ok (.aload_n 1, 1) := by decide +kernel
theorem dX2_init_29 : decode cX2_init 29 = .ok (.iconst 1, 1) := by decide +kernel
theorem dX2_init_30 : decode cX2_init 30 = .ok (.invokevirtual 19, 3) := by decide +kernel
theorem dX2_init_33 : decode cX2_init 33 = .ok (.iadd, 1) := by decide +kernel
theorem dX2_init_34 : decode cX2_init 34 = .ok (.putfield 25, 3) := by decide +kernel
theorem dX2_init_37 : decode cX2_init 37 = .ok (.aload_n 0, 1) := by decide +kernel
theorem dX2_init_38 : decode cX2_init 38 = .ok (.aload_n 1, 1) := by decide +kernel
theorem dX2_init_39 : decode cX2_init 39 = .ok (.iconst 1, 1) := by decide +kernel
theorem dX2_init_40 : decode cX2_init 40 = .ok (.invokevirtual 29, 3) := by decide +kernel
theorem dX2_init_43 : decode cX2_init 43 = .ok (.aload_n 1, 1) := by decide +kernel
theorem dX2_init_44 : decode cX2_init 44 = .ok (.iconst 1, 1) := by decide +kernel
theorem dX2_init_45 : decode cX2_init 45 = .ok (.invokevirtual 19, 3) := by decide +kernel
theorem dX2_init_48 : decode cX2_init 48 = .ok (.isub, 1) := by decide +kernel
theorem dX2_init_49 : decode cX2_init 49 = .ok (.putfield 32, 3) := by decide +kernel
theorem dX2_init_52 : decode cX2_init 52 = .ok (.aload_n 0, 1) := by decide +kernel
theorem dX2_init_53 : decode cX2_init 53 = .ok (.iload_n 3, 1) := by decide +kernel
theorem dX2_init_54 : decode cX2_init 54 = .ok (.putfield 35, 3) := by decide +kernel
theorem dX2_init_57 : decode cX2_init 57 = .ok (.aload_n 0, 1) := by decide +kernel
theorem dX2_init_58 : decode cX2_init 58 = .ok (.iload 4, 2) := by decide +kernel
theorem dX2_init_60 : decode cX2_init 60 = .ok (.putfield 38, 3) := by decide +kernel
theorem dX2_init_63 : decode cX2_init 63 = .ok (.iconst 2, 1) := by decide +kernel
theorem dX2_init_64 : decode cX2_init 64 = .ok (.istore 5, 2) := by decide +kernel
theorem dX2_init_66 : decode cX2_init 66 = .ok (.iload 5, 2) := by decide +kernel
theorem dX2_init_68 : decode cX2_init 68 = .ok (.aload_n 1, 1) := by decide +kernel
theorem dX2_init_69 : decode cX2_init 69 = .ok (.invokevirtual 41, 3) := by decide +kernel
theorem dX2_init_72 : decode cX2_init 72 = .ok (.if_icmp .ge 44, 3) := by decide +kernel
theorem dX2_init_75 : decode cX2_init 75 = .ok (.aload_n 0, 1) := by decide +kernel
theorem dX2_init_76 : decode cX2_init 76 = .ok (.getfield 10, 3) := by decide +kernel
theorem dX2_init_79 : decode cX2_init 79 = .ok (.iload_n 2, 1) := by decide +kernel
theorem dX2_init_80 : decode cX2_init 80 = .ok (.aload_n 1, 1) := by decide +kernel
theorem dX2_init_81 : decode cX2_init 81 = .ok (.iload 5, 2) := by decide +kernel
theorem dX2_init_83 : decode cX2_init 83 = .ok (.invokevirtual 19, 3) := by decide +kernel
theorem dX2_init_86 : decode cX2_init 86 = .ok (.iadd, 1) := by decide +kernel
theorem dX2_init_87 : decode cX2_init 87 = .ok (.invokevirtual 45, 3) := by decide +kernel
theorem dX2_init_90 : decode cX2_init 90 = .ok (.aload_n 0, 1) := by decide +kernel
theorem dX2_init_91 : decode cX2_init 91 = .ok (.getfield 16, 3) := by decide +kernel
theorem dX2_init_94 : decode cX2_init 94 = .ok (.aload_n 1, 1) := by decide +kernel
theorem dX2_init_95 : decode cX2_init 95 = .ok (.iload 5, 2) := by decide +kernel
theorem dX2_init_97 : decode cX2_init 97 = .ok (.invokevirtual 29, 3) := by decide +kernel
theorem dX2_init_100 : decode cX2_init 100 = .ok (.aload_n 1, 1) := by decide +kernel
theorem dX2_init_101 : decode cX2_init 101 = .ok (.iload 5, 2) := by decide +kernel
theorem dX2_init_103 : decode cX2_init 103 = .ok (.invokevirtual 19, 3) := by decide +kernel
theorem dX2_init_106 : decode cX2_init 106 = .ok (.isub, 1) := by decide +kernel
theorem dX2_init_107 : decode cX2_init 107 = .ok (.invokevirtual 45, 3) := by decide +kernel
theorem dX2_init_110 : decode cX2_init 110 = .ok (.iinc 5 2, 3) := by decide +kernel
theorem dX2_init_113 : decode cX2_init 113 = .ok (.goto (-47), 3) := by decide +kernel
theorem dX2_init_116 : decode cX2_init 116 = .ok (.return_, 1) := by decide +kernel
theorem dX2_places_0 : decode cX2_places 0 = .ok (.aload_n 0, 1) := by decide +kernel
theorem dX2_places_1 : decode cX2_places 1 = .ok (.getfield 10, 3) := by decide +kernel
theorem dX2_places_4 : decode cX2_places 4 = .ok (.invokevirtual 49, 3) := by decide +kernel
theorem dX2_places_7 : decode cX2_places 7 = .ok (.ireturn, 1) := by decide +kernel
theorem dX2_placeLength_0 : decode cX2_placeLength 0 = .ok (.aload_n 0, 1) := by decide +kernel
theorem dX2_placeLength_1 : decode cX2_placeLength 1 = .ok (.getfield 16, 3) := by decide +kernel
theorem dX2_placeLength_4 : decode cX2_placeLength 4 = .ok (.iload_n 1, 1) := by decide +kernel
theorem dX2_placeLength_5 : decode cX2_placeLength 5 = .ok (.invokevirtual 52, 3) := by decide +kernel
theorem dX2_placeLength_8 : decode cX2_placeLength 8 = .ok (.ireturn, 1) := by decide +kernel
theorem dX2_placeAt_0 : decode cX2_placeAt 0 = .ok (.iconst (-1), 1) := by decide +kernel
theorem dX2_placeAt_1 : decode cX2_placeAt 1 = .ok (.istore 4, 2) := by decide +kernel
theorem dX2_placeAt_3 : decode cX2_placeAt 3 = .ok (.iconst 0, 1) := by decide +kernel
theorem dX2_placeAt_4 : decode cX2_placeAt 4 = .ok (.istore 5, 2) := by decide +kernel
theorem dX2_placeAt_6 : decode cX2_placeAt 6 = .ok (.iconst 0, 1) := by decide +kernel
theorem dX2_placeAt_7 : decode cX2_placeAt 7 = .ok (.istore 6, 2) := by decide +kernel
theorem dX2_placeAt_9 : decode cX2_placeAt 9 = .ok (.iload 6, 2) := by decide +kernel
theorem dX2_placeAt_11 : decode cX2_placeAt 11 = .ok (.aload_n 0, 1) := by decide +kernel
theorem dX2_placeAt_12 : decode cX2_placeAt 12 = .ok (.getfield 10, 3) := by decide +kernel
theorem dX2_placeAt_15 : decode cX2_placeAt 15 = .ok (.invokevirtual 49, 3) := by decide +kernel
theorem dX2_placeAt_18 : decode cX2_placeAt 18 = .ok (.if_icmp .ge 63, 3) := by decide +kernel
theorem dX2_placeAt_21 : decode cX2_placeAt 21 = .ok (.aload_n 0, 1) := by decide +kernel
theorem dX2_placeAt_22 : decode cX2_placeAt 22 = .ok (.getfield 16, 3) := by decide +kernel
theorem dX2_placeAt_25 : decode cX2_placeAt 25 = .ok (.iload 6, 2) := by decide +kernel
theorem dX2_placeAt_27 : decode cX2_placeAt 27 = .ok (.invokevirtual 52, 3) := by decide +kernel
theorem dX2_placeAt_30 : decode cX2_placeAt 30 = .ok (.istore 7, 2) := by decide +kernel
theorem dX2_placeAt_32 : decode cX2_placeAt 32 = .ok (.iload 7, 2) := by decide +kernel
theorem dX2_placeAt_34 : decode cX2_placeAt 34 = .ok (.iload 5, 2) := by decide +kernel
theorem dX2_placeAt_36 : decode cX2_placeAt 36 = .ok (.if_icmp .le 39, 3) := by decide +kernel
theorem dX2_placeAt_39 : decode cX2_placeAt 39 = .ok (.iload_n 2, 1) := by decide +kernel
theorem dX2_placeAt_40 : decode cX2_placeAt 40 = .ok (.iload 7, 2) := by decide +kernel
theorem dX2_placeAt_42 : decode cX2_placeAt 42 = .ok (.iadd, 1) := by decide +kernel
theorem dX2_placeAt_43 : decode cX2_placeAt 43 = .ok (.iload_n 3, 1) := by decide +kernel
theorem dX2_placeAt_44 : decode cX2_placeAt 44 = .ok (.if_icmp .gt 31, 3) := by decide +kernel
theorem dX2_placeAt_47 : decode cX2_placeAt 47 = .ok (.aload_n 1, 1) := by decide +kernel
theorem dX2_placeAt_48 : decode cX2_placeAt 48 = .ok (.aload_n 0, 1) := by decide +kernel
theorem dX2_placeAt_49 : decode cX2_placeAt 49 = .ok (.getfield 10, 3) := by decide +kernel
theorem dX2_placeAt_52 : decode cX2_placeAt 52 = .ok (.iload 6, 2) := by decide +kernel
theorem dX2_placeAt_54 : decode cX2_placeAt 54 = .ok (.invokevirtual 52, 3) := by decide +kernel
theorem dX2_placeAt_57 : decode cX2_placeAt 57 = .ok (.iload 7, 2) := by decide +kernel
theorem dX2_placeAt_59 : decode cX2_placeAt 59 = .ok (.aload_n 1, 1) := by decide +kernel
theorem dX2_placeAt_60 : decode cX2_placeAt 60 = .ok (.iload_n 2, 1) := by decide +kernel
theorem dX2_placeAt_61 : decode cX2_placeAt 61 = .ok (.invokevirtual 55, 3) := by decide +kernel
theorem dX2_placeAt_64 : decode cX2_placeAt 64 = .ok (.ifCond .eq 11, 3) := by decide +kernel
theorem dX2_placeAt_67 : decode cX2_placeAt 67 = .ok (.iload 6, 2) := by decide +kernel
theorem dX2_placeAt_69 : decode cX2_placeAt 69 = .ok (.istore 4, 2) := by decide +kernel
theorem dX2_placeAt_71 : decode cX2_placeAt 71 = .ok (.iload 7, 2) := by decide +kernel
theorem dX2_placeAt_73 : decode cX2_placeAt 73 = .ok (.istore 5, 2) := by decide +kernel
theorem dX2_placeAt_75 : decode cX2_placeAt 75 = .ok (.iinc 6 1, 3) := by decide +kernel
theorem dX2_placeAt_78 : decode cX2_placeAt 78 = .ok (.goto (-69), 3) := by decide +kernel
theorem dX2_placeAt_81 : decode cX2_placeAt 81 = .ok (.iload 4, 2) := by decide +kernel
theorem dX2_placeAt_83 : decode cX2_placeAt 83 = .ok (.ireturn, 1) := by decide +kernel
theorem dX3_init_0 : decode cX3_init 0 = .ok (.aload_n 0, 1) := by decide +kernel
theorem dX3_init_1 : decode cX3_init 1 = .ok (.invokespecial 3, 3) := by decide +kernel
theorem dX3_init_4 : decode cX3_init 4 = .ok (.aload_n 0, 1) := by decide +kernel
theorem dX3_init_5 : decode cX3_init 5 = .ok (.bipush 20, 2) := by decide +kernel
theorem dX3_init_7 : decode cX3_init 7 = .ok (.anewarray 9, 3) := by decide +kernel
theorem dX3_init_10 : decode cX3_init 10 = .ok (.putfield 11, 3) := by decide +kernel
theorem dX3_init_13 : decode cX3_init 13 = .ok (.iconst 0, 1) := by decide +kernel
theorem dX3_init_14 : decode cX3_init 14 = .ok (.istore_n 1, 1) := by decide +kernel
theorem dX3_init_15 : decode cX3_init 15 = .ok (.iload_n 1, 1) := by decide +kernel
theorem dX3_init_16 : decode cX3_init 16 = .ok (.aload_n 0, 1) := by decide +kernel
theorem dX3_init_17 : decode cX3_init 17 = .ok (.getfield 11, 3) := by decide +kernel
theorem dX3_init_20 : decode cX3_init 20 = .ok (.arraylength, 1) := by decide +kernel
theorem dX3_init_21 : decode cX3_init 21 = .ok (.if_icmp .ge 22, 3) := by decide +kernel
theorem dX3_init_24 : decode cX3_init 24 = .ok (.aload_n 0, 1) := by decide +kernel
theorem dX3_init_25 : decode cX3_init 25 = .ok (.getfield 11, 3) := by decide +kernel
theorem dX3_init_28 : decode cX3_init 28 = .ok (.iload_n 1, 1) := by decide +kernel
theorem dX3_init_29 : decode cX3_init 29 = .ok (.new 9, 3) := by decide +kernel
theorem dX3_init_32 : decode cX3_init 32 = .ok (.dup, 1) := by decide +kernel
theorem dX3_init_33 : decode cX3_init 33 = .ok (.invokespecial 17, 3) := by decide +kernel
theorem dX3_init_36 : decode cX3_init 36 = .ok (.aastore, 1) := by decide +kernel
theorem dX3_init_37 : decode cX3_init 37 = .ok (.iinc 1 1, 3) := by decide +kernel
theorem dX3_init_40 : decode cX3_init 40 = .ok (.goto (-25), 3) := by decide +kernel
theorem dX3_init_43 : decode cX3_init 43 = .ok (.return_, 1) := by decide +kernel
theorem dX3_size_0 : decode cX3_size 0 = .ok (.aload_n 0, 1) := by decide +kernel
theorem dX3_size_1 : decode cX3_size 1 = .ok (.getfield 18, 3) := by decide +kernel
theorem dX3_size_4 : decode cX3_size 4 = .ok (.ireturn, 1) := by decide +kernel
theorem dX3_clear_0 : decode cX3_clear 0 = .ok (.aload_n 0, 1) := by decide +kernel
theorem dX3_clear_1 : decode cX3_clear 1 = .ok (.iconst 0, 1) := by decide +kernel
theorem dX3_clear_2 : decode cX3_clear 2 = .ok (.putfield 18, 3) := by decide +kernel
theorem dX3_clear_5 : decode cX3_clear 5 = .ok (.return_, 1) := by decide +kernel
theorem dX3_isFull_0 : decode cX3_isFull 0 = .ok (.aload_n 0, 1) := by decide +kernel
theorem dX3_isFull_1 : decode cX3_isFull 1 = .ok (.getfield 18, 3) := by decide +kernel
theorem dX3_isFull_4 : decode cX3_isFull 4 = .ok (.aload_n 0, 1) := by decide +kernel
theorem dX3_isFull_5 : decode cX3_isFull 5 = .ok (.getfield 11, 3) := by decide +kernel
theorem dX3_isFull_8 : decode cX3_isFull 8 = .ok (.arraylength, 1) := by decide +kernel
theorem dX3_isFull_9 : decode cX3_isFull 9 = .ok (.if_icmp .lt 7, 3) := by decide +kernel
theorem dX3_isFull_12 : decode cX3_isFull 12 = .ok (.iconst 1, 1) := by decide +kernel
theorem dX3_isFull_13 : decode cX3_isFull 13 = .ok (.goto 4, 3) := by decide +kernel
theorem dX3_isFull_16 : decode cX3_isFull 16 = .ok (.iconst 0, 1) := by decide +kernel
theorem dX3_isFull_17 : decode cX3_isFull 17 = .ok (.ireturn, 1) := by decide +kernel
theorem dX3_at_0 : decode cX3_at 0 = .ok (.iload_n 1, 1) := by decide +kernel
theorem dX3_at_1 : decode cX3_at 1 = .ok (.ifCond .lt 21, 3) := by decide +kernel
theorem dX3_at_4 : decode cX3_at 4 = .ok (.iload_n 1, 1) := by decide +kernel
theorem dX3_at_5 : decode cX3_at 5 = .ok (.aload_n 0, 1) := by decide +kernel
theorem dX3_at_6 : decode cX3_at 6 = .ok (.getfield 11, 3) := by decide +kernel
theorem dX3_at_9 : decode cX3_at 9 = .ok (.arraylength, 1) := by decide +kernel
theorem dX3_at_10 : decode cX3_at 10 = .ok (.if_icmp .ge 12, 3) := by decide +kernel
theorem dX3_at_13 : decode cX3_at 13 = .ok (.aload_n 0, 1) := by decide +kernel
theorem dX3_at_14 : decode cX3_at 14 = .ok (.getfield 11, 3) := by decide +kernel
theorem dX3_at_17 : decode cX3_at 17 = .ok (.iload_n 1, 1) := by decide +kernel
theorem dX3_at_18 : decode cX3_at 18 = .ok (.aaload, 1) := by decide +kernel
theorem dX3_at_19 : decode cX3_at 19 = .ok (.goto 4, 3) := by decide +kernel
theorem dX3_at_22 : decode cX3_at 22 = .ok (.aconst_null, 1) := by decide +kernel
theorem dX3_at_23 : decode cX3_at 23 = .ok (.areturn, 1) := by decide +kernel
theorem dX3_spare_0 : decode cX3_spare 0 = .ok (.aload_n 0, 1) := by decide +kernel
theorem dX3_spare_1 : decode cX3_spare 1 = .ok (.aload_n 0, 1) := by decide +kernel
theorem dX3_spare_2 : decode cX3_spare 2 = .ok (.getfield 18, 3) := by decide +kernel
theorem dX3_spare_5 : decode cX3_spare 5 = .ok (.invokevirtual 22, 3) := by decide +kernel
theorem dX3_spare_8 : decode cX3_spare 8 = .ok (.areturn, 1) := by decide +kernel
theorem dX3_open_0 : decode cX3_open 0 = .ok (.aload_n 0, 1) := by decide +kernel
theorem dX3_open_1 : decode cX3_open 1 = .ok (.aload_n 0, 1) := by decide +kernel
theorem dX3_open_2 : decode cX3_open 2 = .ok (.getfield 18, 3) := by decide +kernel
theorem dX3_open_5 : decode cX3_open 5 = .ok (.invokevirtual 22, 3) := by decide +kernel
theorem dX3_open_8 : decode cX3_open 8 = .ok (.astore_n 2, 1) := by decide +kernel
theorem dX3_open_9 : decode cX3_open 9 = .ok (.aload_n 2, 1) := by decide +kernel
theorem dX3_open_10 : decode cX3_open 10 = .ok (.ifnull 18, 3) := by decide +kernel
theorem dX3_open_13 : decode cX3_open 13 = .ok (.aload_n 2, 1) := by decide +kernel
theorem dX3_open_14 : decode cX3_open 14 = .ok (.iload_n 1, 1) := by decide +kernel
theorem dX3_open_15 : decode cX3_open 15 = .ok (.putfield 26, 3) := by decide +kernel
theorem dX3_open_18 : decode cX3_open 18 = .ok (.aload_n 0, 1) := by decide +kernel
theorem dX3_open_19 : decode cX3_open 19 = .ok (.dup, 1) := by decide +kernel
theorem dX3_open_20 : decode cX3_open 20 = .ok (.getfield 18, 3) := by decide +kernel
theorem dX3_open_23 : decode cX3_open 23 = .ok (.iconst 1, 1) := by decide +kernel
theorem dX3_open_24 : decode cX3_open 24 = .ok (.iadd, 1) := by decide +kernel
theorem dX3_open_25 : decode cX3_open 25 = .ok (.putfield 18, 3) := by decide +kernel
theorem dX3_open_28 : decode cX3_open 28 = .ok (.aload_n 2, 1) := by decide +kernel
theorem dX3_open_29 : decode cX3_open 29 = .ok (.areturn, 1) := by decide +kernel
theorem dX3_close_0 : decode cX3_close 0 = .ok (.aload_n 0, 1) := by decide +kernel
theorem dX3_close_1 : decode cX3_close 1 = .ok (.getfield 18, 3) := by decide +kernel
theorem dX3_close_4 : decode cX3_close 4 = .ok (.ifCond .le 13, 3) := by decide +kernel
theorem dX3_close_7 : decode cX3_close 7 = .ok (.aload_n 0, 1) := by decide +kernel
theorem dX3_close_8 : decode cX3_close 8 = .ok (.dup, 1) := by decide +kernel
theorem dX3_close_9 : decode cX3_close 9 = .ok (.getfield 18, 3) := by decide +kernel
theorem dX3_close_12 : decode cX3_close 12 = .ok (.iconst 1, 1) := by decide +kernel
theorem dX3_close_13 : decode cX3_close 13 = .ok (.isub, 1) := by decide +kernel
theorem dX3_close_14 : decode cX3_close 14 = .ok (.putfield 18, 3) := by decide +kernel
theorem dX3_close_17 : decode cX3_close 17 = .ok (.return_, 1) := by decide +kernel
theorem dX3_top_0 : decode cX3_top 0 = .ok (.aload_n 0, 1) := by decide +kernel
theorem dX3_top_1 : decode cX3_top 1 = .ok (.aload_n 0, 1) := by decide +kernel
theorem dX3_top_2 : decode cX3_top 2 = .ok (.getfield 18, 3) := by decide +kernel
theorem dX3_top_5 : decode cX3_top 5 = .ok (.iconst 1, 1) := by decide +kernel
theorem dX3_top_6 : decode cX3_top 6 = .ok (.isub, 1) := by decide +kernel
theorem dX3_top_7 : decode cX3_top 7 = .ok (.invokevirtual 22, 3) := by decide +kernel
theorem dX3_top_10 : decode cX3_top 10 = .ok (.areturn, 1) := by decide +kernel
theorem dX3_topKind_0 : decode cX3_topKind 0 = .ok (.aload_n 0, 1) := by decide +kernel
theorem dX3_topKind_1 : decode cX3_topKind 1 = .ok (.invokevirtual 29, 3) := by decide +kernel
theorem dX3_topKind_4 : decode cX3_topKind 4 = .ok (.astore_n 1, 1) := by decide +kernel
theorem dX3_topKind_5 : decode cX3_topKind 5 = .ok (.aload_n 1, 1) := by decide +kernel
theorem dX3_topKind_6 : decode cX3_topKind 6 = .ok (.ifnonnull 7, 3) := by decide +kernel
theorem dX3_topKind_9 : decode cX3_topKind 9 = .ok (.iconst 0, 1) := by decide +kernel
theorem dX3_topKind_10 : decode cX3_topKind 10 = .ok (.goto 7, 3) := by decide +kernel
theorem dX3_topKind_13 : decode cX3_topKind 13 = .ok (.aload_n 1, 1) := by decide +kernel
theorem dX3_topKind_14 : decode cX3_topKind 14 = .ok (.getfield 26, 3) := by decide +kernel
theorem dX3_topKind_17 : decode cX3_topKind 17 = .ok (.ireturn, 1) := by decide +kernel
theorem dX3_innermostLines_0 : decode cX3_innermostLines 0 = .ok (.aload_n 0, 1) := by decide +kernel
theorem dX3_innermostLines_1 : decode cX3_innermostLines 1 = .ok (.getfield 18, 3) := by decide +kernel
theorem dX3_innermostLines_4 : decode cX3_innermostLines 4 = .ok (.iconst 1, 1) := by decide +kernel
theorem dX3_innermostLines_5 : decode cX3_innermostLines 5 = .ok (.isub, 1) := by decide +kernel
theorem dX3_innermostLines_6 : decode cX3_innermostLines 6 = .ok (.istore_n 1, 1) := by decide +kernel
theorem dX3_innermostLines_7 : decode cX3_innermostLines 7 = .ok (.iload_n 1, 1) := by decide +kernel
theorem dX3_innermostLines_8 : decode cX3_innermostLines 8 = .ok (.ifCond .lt 28, 3) := by decide +kernel
theorem dX3_innermostLines_11 : decode cX3_innermostLines 11 = .ok (.aload_n 0, 1) := by decide +kernel
theorem dX3_innermostLines_12 : decode cX3_innermostLines 12 = .ok (.iload_n 1, 1) := by decide +kernel
theorem dX3_innermostLines_13 : decode cX3_innermostLines 13 = .ok (.invokevirtual 22, 3) := by decide +kernel
theorem dX3_innermostLines_16 : decode cX3_innermostLines 16 = .ok (.astore_n 2, 1) := by decide +kernel
theorem dX3_innermostLines_17 : decode cX3_innermostLines 17 = .ok (.aload_n 2, 1) := by decide +kernel
theorem dX3_innermostLines_18 : decode cX3_innermostLines 18 = .ok (.ifnull 12, 3) := by decide +kernel
theorem dX3_innermostLines_21 : decode cX3_innermostLines 21 = .ok (.aload_n 2, 1) := by decide +kernel
theorem dX3_innermostLines_22 : decode cX3_innermostLines 22 = .ok (.invokevirtual 33, 3) := by decide +kernel
theorem dX3_innermostLines_25 : decode cX3_innermostLines 25 = .ok (.ifCond .eq 5, 3) := by decide +kernel
theorem dX3_innermostLines_28 : decode cX3_innermostLines 28 = .ok (.aload_n 2, 1) := by decide +kernel
theorem dX3_innermostLines_29 : decode cX3_innermostLines 29 = .ok (.areturn, 1) := by decide +kernel
theorem dX3_innermostLines_30 : decode cX3_innermostLines 30 = .ok (.iinc 1 (-1), 3) := by decide +kernel
theorem dX3_innermostLines_33 : decode cX3_innermostLines 33 = .ok (.goto (-26), 3) := by decide +kernel
theorem dX3_innermostLines_36 : decode cX3_innermostLines 36 = .ok (.aconst_null, 1) := by decide +kernel
theorem dX3_innermostLines_37 : decode cX3_innermostLines 37 = .ok (.areturn, 1) := by decide +kernel
theorem dX3_innermostMacro_0 : decode cX3_innermostMacro 0 = .ok (.aload_n 0, 1) := by decide +kernel
theorem dX3_innermostMacro_1 : decode cX3_innermostMacro 1 = .ok (.getfield 18, 3) := by decide +kernel
theorem dX3_innermostMacro_4 : decode cX3_innermostMacro 4 = .ok (.iconst 1, 1) := by decide +kernel
theorem dX3_innermostMacro_5 : decode cX3_innermostMacro 5 = .ok (.isub, 1) := by decide +kernel
theorem dX3_innermostMacro_6 : decode cX3_innermostMacro 6 = .ok (.istore_n 1, 1) := by decide +kernel
theorem dX3_innermostMacro_7 : decode cX3_innermostMacro 7 = .ok (.iload_n 1, 1) := by decide +kernel
theorem dX3_innermostMacro_8 : decode cX3_innermostMacro 8 = .ok (.ifCond .lt 30, 3) := by decide +kernel
theorem dX3_innermostMacro_11 : decode cX3_innermostMacro 11 = .ok (.aload_n 0, 1) := by decide +kernel
theorem dX3_innermostMacro_12 : decode cX3_innermostMacro 12 = .ok (.iload_n 1, 1) := by decide +kernel
theorem dX3_innermostMacro_13 : decode cX3_innermostMacro 13 = .ok (.invokevirtual 22, 3) := by decide +kernel
theorem dX3_innermostMacro_16 : decode cX3_innermostMacro 16 = .ok (.astore_n 2, 1) := by decide +kernel
theorem dX3_innermostMacro_17 : decode cX3_innermostMacro 17 = .ok (.aload_n 2, 1) := by decide +kernel
theorem dX3_innermostMacro_18 : decode cX3_innermostMacro 18 = .ok (.ifnull 14, 3) := by decide +kernel
theorem dX3_innermostMacro_21 : decode cX3_innermostMacro 21 = .ok (.aload_n 2, 1) := by decide +kernel
theorem dX3_innermostMacro_22 : decode cX3_innermostMacro 22 = .ok (.getfield 26, 3) := by decide +kernel
theorem dX3_innermostMacro_25 : decode cX3_innermostMacro 25 = .ok (.bipush 6, 2) := by decide +kernel
theorem dX3_innermostMacro_27 : decode cX3_innermostMacro 27 = .ok (.if_icmp .ne 5, 3) := by decide +kernel
theorem dX3_innermostMacro_30 : decode cX3_innermostMacro 30 = .ok (.aload_n 2, 1) := by decide +kernel
theorem dX3_innermostMacro_31 : decode cX3_innermostMacro 31 = .ok (.areturn, 1) := by decide +kernel
theorem dX3_innermostMacro_32 : decode cX3_innermostMacro 32 = .ok (.iinc 1 (-1), 3) := by decide +kernel
theorem dX3_innermostMacro_35 : decode cX3_innermostMacro 35 = .ok (.goto (-28), 3) := by decide +kernel
theorem dX3_innermostMacro_38 : decode cX3_innermostMacro 38 = .ok (.aconst_null, 1) := by decide +kernel
theorem dX3_innermostMacro_39 : decode cX3_innermostMacro 39 = .ok (.areturn, 1) := by decide +kernel
theorem dX4_init_0 : decode cX4_init 0 = .ok (.aload_n 0, 1) := by decide +kernel
theorem dX4_init_1 : decode cX4_init 1 = .ok (.invokespecial 3, 3) := by decide +kernel
theorem dX4_init_4 : decode cX4_init 4 = .ok (.aload_n 0, 1) := by decide +kernel
theorem dX4_init_5 : decode cX4_init 5 = .ok (.new 9, 3) := by decide +kernel
theorem dX4_init_8 : decode cX4_init 8 = .ok (.dup, 1) := by decide +kernel
theorem dX4_init_9 : decode cX4_init 9 = .ok (.bipush 16, 2) := by decide +kernel
theorem dX4_init_11 : decode cX4_init 11 = .ok (.sipush 1024, 3) := by decide +kernel
theorem dX4_init_14 : decode cX4_init 14 = .ok (.invokespecial 11, 3) := by decide +kernel
theorem dX4_init_17 : decode cX4_init 17 = .ok (.putfield 14, 3) := by decide +kernel
theorem dX4_init_20 : decode cX4_init 20 = .ok (.aload_n 0, 1) := by decide +kernel
theorem dX4_init_21 : decode cX4_init 21 = .ok (.new 20, 3) := by decide +kernel
theorem dX4_init_24 : decode cX4_init 24 = .ok (.dup, 1) := by decide +kernel
theorem dX4_init_25 : decode cX4_init 25 = .ok (.invokespecial 22, 3) := by decide +kernel
theorem dX4_init_28 : decode cX4_init 28 = .ok (.putfield 23, 3) := by decide +kernel
theorem dX4_init_31 : decode cX4_init 31 = .ok (.aload_n 0, 1) := by decide +kernel
theorem dX4_init_32 : decode cX4_init 32 = .ok (.new 20, 3) := by decide +kernel
theorem dX4_init_35 : decode cX4_init 35 = .ok (.dup, 1) := by decide +kernel
theorem dX4_init_36 : decode cX4_init 36 = .ok (.invokespecial 22, 3) := by decide +kernel
theorem dX4_init_39 : decode cX4_init 39 = .ok (.putfield 27, 3) := by decide +kernel
theorem dX4_init_42 : decode cX4_init 42 = .ok (.return_, 1) := by decide +kernel
theorem dX4_hasLines_0 : decode cX4_hasLines 0 = .ok (.aload_n 0, 1) := by decide +kernel
theorem dX4_hasLines_1 : decode cX4_hasLines 1 = .ok (.getfield 30, 3) := by decide +kernel
theorem dX4_hasLines_4 : decode cX4_hasLines 4 = .ok (.iconst 4, 1) := by decide +kernel
theorem dX4_hasLines_5 : decode cX4_hasLines 5 = .ok (.if_icmp .eq 12, 3) := by decide +kernel
theorem dX4_hasLines_8 : decode cX4_hasLines 8 = .ok (.aload_n 0, 1) := by decide +kernel
theorem dX4_hasLines_9 : decode cX4_hasLines 9 = .ok (.getfield 30, 3) := by decide +kernel
theorem dX4_hasLines_12 : decode cX4_hasLines 12 = .ok (.bipush 6, 2) := by decide +kernel
theorem dX4_hasLines_14 : decode cX4_hasLines 14 = .ok (.if_icmp .ne 7, 3) := by decide +kernel
theorem dX4_hasLines_17 : decode cX4_hasLines 17 = .ok (.iconst 1, 1) := by decide +kernel
theorem dX4_hasLines_18 : decode cX4_hasLines 18 = .ok (.goto 4, 3) := by decide +kernel
theorem dX4_hasLines_21 : decode cX4_hasLines 21 = .ok (.iconst 0, 1) := by decide +kernel
theorem dX4_hasLines_22 : decode cX4_hasLines 22 = .ok (.ireturn, 1) := by decide +kernel
theorem dX4_lay_0 : decode cX4_lay 0 = .ok (.aload_n 0, 1) := by decide +kernel
theorem dX4_lay_1 : decode cX4_lay 1 = .ok (.iload_n 1, 1) := by decide +kernel
theorem dX4_lay_2 : decode cX4_lay 2 = .ok (.putfield 34, 3) := by decide +kernel
theorem dX4_lay_5 : decode cX4_lay 5 = .ok (.aload_n 0, 1) := by decide +kernel
theorem dX4_lay_6 : decode cX4_lay 6 = .ok (.iload_n 2, 1) := by decide +kernel
theorem dX4_lay_7 : decode cX4_lay 7 = .ok (.putfield 37, 3) := by decide +kernel
theorem dX4_lay_10 : decode cX4_lay 10 = .ok (.aload_n 0, 1) := by decide +kernel
theorem dX4_lay_11 : decode cX4_lay 11 = .ok (.iload_n 3, 1) := by decide +kernel
theorem dX4_lay_12 : decode cX4_lay 12 = .ok (.putfield 40, 3) := by decide +kernel
theorem dX4_lay_15 : decode cX4_lay 15 = .ok (.aload_n 0, 1) := by decide +kernel
theorem dX4_lay_16 : decode cX4_lay 16 = .ok (.iload 4, 2) := by decide +kernel
theorem dX4_lay_18 : decode cX4_lay 18 = .ok (.putfield 43, 3) := by decide +kernel
theorem dX4_lay_21 : decode cX4_lay 21 = .ok (.return_, 1) := by decide +kernel
theorem dX4_gather_0 : decode cX4_gather 0 = .ok (.aload_n 0, 1) := by decide +kernel
theorem dX4_gather_1 : decode cX4_gather 1 = .ok (.aload_n 3, 1) := by decide +kernel
theorem dX4_gather_2 : decode cX4_gather 2 = .ok (.putfield 46, 3) := by decide +kernel
theorem dX4_gather_5 : decode cX4_gather 5 = .ok (.aload_n 0, 1) := by decide +kernel
theorem dX4_gather_6 : decode cX4_gather 6 = .ok (.getfield 14, 3) := by decide +kernel
theorem dX4_gather_9 : decode cX4_gather 9 = .ok (.invokevirtual 50, 3) := by decide +kernel
theorem dX4_gather_12 : decode cX4_gather 12 = .ok (.aload_n 0, 1) := by decide +kernel
theorem dX4_gather_13 : decode cX4_gather 13 = .ok (.getfield 14, 3) := by decide +kernel
theorem dX4_gather_16 : decode cX4_gather 16 = .ok (.aload_n 1, 1) := by decide +kernel
theorem dX4_gather_17 : decode cX4_gather 17 = .ok (.iconst 0, 1) := by decide +kernel
theorem dX4_gather_18 : decode cX4_gather 18 = .ok (.aload_n 1, 1) := by decide +kernel
theorem dX4_gather_19 : decode cX4_gather 19 = .ok (.invokevirtual 53, 3) := by decide +kernel
theorem dX4_gather_22 : decode cX4_gather 22 = .ok (.invokevirtual 57, 3) := by decide +kernel
theorem dX4_gather_25 : decode cX4_gather 25 = .ok (.pop, 1) := by decide +kernel
theorem dX4_gather_26 : decode cX4_gather 26 = .ok (.aload_n 0, 1) := by decide +kernel
theorem dX4_gather_27 : decode cX4_gather 27 = .ok (.getfield 23, 3) := by decide +kernel
theorem dX4_gather_30 : decode cX4_gather 30 = .ok (.invokevirtual 61, 3) := by decide +kernel
theorem dX4_gather_33 : decode cX4_gather 33 = .ok (.aload_n 0, 1) := by decide +kernel
theorem dX4_gather_34 : decode cX4_gather 34 = .ok (.getfield 27, 3) := by decide +kernel
theorem dX4_gather_37 : decode cX4_gather 37 = .ok (.invokevirtual 61, 3) := by decide +kernel
theorem dX4_gather_40 : decode cX4_gather 40 = .ok (.aload_n 2, 1) := by decide +kernel
theorem dX4_gather_41 : decode cX4_gather 41 = .ok (.invokevirtual 62, 3) := by decide +kernel
theorem dX4_gather_44 : decode cX4_gather 44 = .ok (.istore 4, 2) := by decide +kernel
theorem dX4_gather_46 : decode cX4_gather 46 = .ok (.iload 4, 2) := by decide +kernel
theorem dX4_gather_48 : decode cX4_gather 48 = .ok (.iconst 2, 1) := by decide +kernel
theorem dX4_gather_49 : decode cX4_gather 49 = .ok (.if_icmp .ge 5, 3) := by decide +kernel
theorem dX4_gather_52 : decode cX4_gather 52 = .ok (.iconst 1, 1) := by decide +kernel
theorem dX4_gather_53 : decode cX4_gather 53 = .ok (.ireturn, 1) := by decide +kernel
theorem dX4_gather_54 : decode cX4_gather 54 = .ok (.iconst 1, 1) := by decide +kernel
theorem dX4_gather_55 : decode cX4_gather 55 = .ok (.istore 5, 2) := by decide +kernel
theorem dX4_gather_57 : decode cX4_gather 57 = .ok (.iconst 0, 1) := by decide +kernel
theorem dX4_gather_58 : decode cX4_gather 58 = .ok (.istore 6, 2) := by decide +kernel
theorem dX4_gather_60 : decode cX4_gather 60 = .ok (.iconst 1, 1) := by decide +kernel
theorem dX4_gather_61 : decode cX4_gather 61 = .ok (.istore 7, 2) := by decide +kernel
theorem dX4_gather_63 : decode cX4_gather 63 = .ok (.iload 7, 2) := by decide +kernel
theorem dX4_gather_65 : decode cX4_gather 65 = .ok (.iload 4, 2) := by decide +kernel
theorem dX4_gather_67 : decode cX4_gather 67 = .ok (.if_icmp .ge 89, 3) := by decide +kernel
theorem dX4_gather_70 : decode cX4_gather 70 = .ok (.aload_n 2, 1) := by decide +kernel
theorem dX4_gather_71 : decode cX4_gather 71 = .ok (.iload 7, 2) := by decide +kernel
theorem dX4_gather_73 : decode cX4_gather 73 = .ok (.invokevirtual 67, 3) := by decide +kernel
theorem dX4_gather_76 : decode cX4_gather 76 = .ok (.istore 8, 2) := by decide +kernel
theorem dX4_gather_78 : decode cX4_gather 78 = .ok (.iload 8, 2) := by decide +kernel
theorem dX4_gather_80 : decode cX4_gather 80 = .ok (.bipush 44, 2) := by decide +kernel
theorem dX4_gather_82 : decode cX4_gather 82 = .ok (.if_icmp .ne 26, 3) := by decide +kernel
theorem dX4_gather_85 : decode cX4_gather 85 = .ok (.iload 6, 2) := by decide +kernel
theorem dX4_gather_87 : decode cX4_gather 87 = .ok (.ifCond .ne 21, 3) := by decide +kernel
theorem dX4_gather_90 : decode cX4_gather 90 = .ok (.aload_n 0, 1) := by decide +kernel
theorem dX4_gather_91 : decode cX4_gather 91 = .ok (.aload_n 2, 1) := by decide +kernel
theorem dX4_gather_92 : decode cX4_gather 92 = .ok (.iload 5, 2) := by decide +kernel
theorem dX4_gather_94 : decode cX4_gather 94 = .ok (.iload 7, 2) := by decide +kernel
theorem dX4_gather_96 : decode cX4_gather 96 = .ok (.invokevirtual 70, 3) := by decide +kernel
theorem dX4_gather_99 : decode cX4_gather 99 = .ok (.iload 7, 2) := by decide +kernel
theorem dX4_gather_101 : decode cX4_gather 101 = .ok (.iconst 1, 1) := by decide +kernel
theorem dX4_gather_102 : decode cX4_gather 102 = .ok (.iadd, 1) := by decide +kernel
theorem dX4_gather_103 : decode cX4_gather 103 = .ok (.istore 5, 2) := by decide +kernel
theorem dX4_gather_105 : decode cX4_gather 105 = .ok (.goto 45, 3) := by decide +kernel
theorem dX4_gather_108 : decode cX4_gather 108 = .ok (.iload 8, 2) := by decide +kernel
theorem dX4_gather_110 : decode cX4_gather 110 = .ok (.bipush 40, 2) := by decide +kernel
theorem dX4_gather_112 : decode cX4_gather 112 = .ok (.if_icmp .eq 10, 3) := by decide +kernel
theorem dX4_gather_115 : decode cX4_gather 115 = .ok (.iload 8, 2) := by decide +kernel
theorem dX4_gather_117 : decode cX4_gather 117 = .ok (.bipush 91, 2) := by decide +kernel
theorem dX4_gather_119 : decode cX4_gather 119 = .ok (.if_icmp .ne 9, 3) := by decide +kernel
theorem dX4_gather_122 : decode cX4_gather 122 = .ok (.iinc 6 1, 3) := by decide +kernel
theorem dX4_gather_125 : decode cX4_gather 125 = .ok (.goto 25, 3) := by decide +kernel
theorem dX4_gather_128 : decode cX4_gather 128 = .ok (.iload 8, 2) := by decide +kernel
theorem dX4_gather_130 : decode cX4_gather 130 = .ok (.bipush 41, 2) := by decide +kernel
theorem dX4_gather_132 : decode cX4_gather 132 = .ok (.if_icmp .eq 10, 3) := by decide +kernel
theorem dX4_gather_135 : decode cX4_gather 135 = .ok (.iload 8, 2) := by decide +kernel
theorem dX4_gather_137 : decode cX4_gather 137 = .ok (.bipush 93, 2) := by decide +kernel
theorem dX4_gather_139 : decode cX4_gather 139 = .ok (.if_icmp .ne 11, 3) := by decide +kernel
theorem dX4_gather_142 : decode cX4_gather 142 = .ok (.iload 6, 2) := by decide +kernel
theorem dX4_gather_144 : decode cX4_gather 144 = .ok (.ifCond .le 6, 3) := by decide +kernel
theorem dX4_gather_147 : decode cX4_gather 147 = .ok (.iinc 6 (-1), 3) := by decide +kernel
theorem dX4_gather_150 : decode cX4_gather 150 = .ok (.iinc 7 1, 3) := by decide +kernel
theorem dX4_gather_153 : decode cX4_gather 153 = .ok (.goto (-90), 3) := by decide +kernel
theorem dX4_gather_156 : decode cX4_gather 156 = .ok (.aload_n 0, 1) := by decide +kernel
theorem dX4_gather_157 : decode cX4_gather 157 = .ok (.aload_n 2, 1) := by decide +kernel
theorem dX4_gather_158 : decode cX4_gather 158 = .ok (.iload 5, 2) := by decide +kernel
theorem dX4_gather_160 : decode cX4_gather 160 = .ok (.iload 4, 2) := by decide +kernel
theorem dX4_gather_162 : decode cX4_gather 162 = .ok (.invokevirtual 70, 3) := by decide +kernel
theorem dX4_gather_165 : decode cX4_gather 165 = .ok (.aload_n 0, 1) := by decide +kernel
theorem dX4_gather_166 : decode cX4_gather 166 = .ok (.getfield 23, 3) := by decide +kernel
theorem dX4_gather_169 : decode cX4_gather 169 = .ok (.invokevirtual 74, 3) := by decide +kernel
theorem dX4_gather_172 : decode cX4_gather 172 = .ok (.aload_n 3, 1) := by decide +kernel
theorem dX4_gather_173 : decode cX4_gather 173 = .ok (.invokevirtual 75, 3) := by decide +kernel
theorem dX4_gather_176 : decode cX4_gather 176 = .ok (.if_icmp .gt 7, 3) := by decide +kernel
theorem dX4_gather_179 : decode cX4_gather 179 = .ok (.iconst 1, 1) := by decide +kernel
theorem dX4_gather_180 : decode cX4_gather 180 = .ok (.goto 4, 3) := by decide +kernel
theorem dX4_gather_183 : decode cX4_gather 183 = .ok (.iconst 0, 1) := by decide +kernel
theorem dX4_gather_184 : decode cX4_gather 184 = .ok (.ireturn, 1) := by decide +kernel
theorem dX4_keep_0 : decode cX4_keep 0 = .ok (.iload_n 2, 1) := by decide +kernel
theorem dX4_keep_1 : decode cX4_keep 1 = .ok (.iload_n 3, 1) := by decide +kernel
theorem dX4_keep_2 : decode cX4_keep 2 = .ok (.if_icmp .ge 7, 3) := by decide +kernel
theorem dX4_keep_5 : decode cX4_keep 5 = .ok (.iconst 1, 1) := by decide +kernel
theorem dX4_keep_6 : decode cX4_keep 6 = .ok (.goto 4, 3) := by decide +kernel
theorem dX4_keep_9 : decode cX4_keep 9 = .ok (.iconst 0, 1) := by decide +kernel
theorem dX4_keep_10 : decode cX4_keep 10 = .ok (.istore 4, 2) := by decide +kernel
theorem dX4_keep_12 : decode cX4_keep 12 = .ok (.aload_n 0, 1) := by decide +kernel
theorem dX4_keep_13 : decode cX4_keep 13 = .ok (.getfield 23, 3) := by decide +kernel
theorem dX4_keep_16 : decode cX4_keep 16 = .ok (.iload 4, 2) := by decide +kernel
theorem dX4_keep_18 : decode cX4_keep 18 = .ok (.ifCond .eq 11, 3) := by decide +kernel
theorem dX4_keep_21 : decode cX4_keep 21 = .ok (.aload_n 1, 1) := by decide +kernel
theorem dX4_keep_22 : decode cX4_keep 22 = .ok (.iload_n 2, 1) := by decide +kernel
theorem dX4_keep_23 : decode cX4_keep 23 = .ok (.invokevirtual 80, 3) := by decide +kernel
theorem dX4_keep_26 : decode cX4_keep 26 = .ok (.goto 4, 3) := by decide +kernel
theorem dX4_keep_29 : decode cX4_keep 29 = .ok (.iconst 0, 1) := by decide +kernel
theorem dX4_keep_30 : decode cX4_keep 30 = .ok (.invokevirtual 83, 3) := by decide +kernel
theorem dX4_keep_33 : decode cX4_keep 33 = .ok (.aload_n 0, 1) := by decide +kernel
theorem dX4_keep_34 : decode cX4_keep 34 = .ok (.getfield 27, 3) := by decide +kernel
theorem dX4_keep_37 : decode cX4_keep 37 = .ok (.iload 4, 2) := by decide +kernel
theorem dX4_keep_39 : decode cX4_keep 39 = .ok (.ifCond .eq 13, 3) := by decide +kernel
theorem dX4_keep_42 : decode cX4_keep 42 = .ok (.aload_n 1, 1) := by decide +kernel
theorem dX4_keep_43 : decode cX4_keep 43 = .ok (.iload_n 3, 1) := by decide +kernel
theorem dX4_keep_44 : decode cX4_keep 44 = .ok (.iconst 1, 1) := by decide +kernel
theorem dX4_keep_45 : decode cX4_keep 45 = .ok (.isub, 1) := by decide +kernel
theorem dX4_keep_46 : decode cX4_keep 46 = .ok (.invokevirtual 87, 3) := by decide +kernel
theorem dX4_keep_49 : decode cX4_keep 49 = .ok (.goto 4, 3) := by decide +kernel
theorem dX4_keep_52 : decode cX4_keep 52 = .ok (.iconst 0, 1) := by decide +kernel
theorem dX4_keep_53 : decode cX4_keep 53 = .ok (.invokevirtual 83, 3) := by decide +kernel
theorem dX4_keep_56 : decode cX4_keep 56 = .ok (.return_, 1) := by decide +kernel
theorem dX4_write_0 : decode cX4_write 0 = .ok (.iload_n 2, 1) := by decide +kernel
theorem dX4_write_1 : decode cX4_write 1 = .ok (.istore 5, 2) := by decide +kernel
theorem dX4_write_3 : decode cX4_write 3 = .ok (.iload_n 2, 1) := by decide +kernel
theorem dX4_write_4 : decode cX4_write 4 = .ok (.istore 6, 2) := by decide +kernel
theorem dX4_write_6 : decode cX4_write 6 = .ok (.iload 6, 2) := by decide +kernel
theorem dX4_write_8 : decode cX4_write 8 = .ok (.iload_n 3, 1) := by decide +kernel
theorem dX4_write_9 : decode cX4_write 9 = .ok (.if_icmp .ge 41, 3) := by decide +kernel
theorem dX4_write_12 : decode cX4_write 12 = .ok (.iload 5, 2) := by decide +kernel
theorem dX4_write_14 : decode cX4_write 14 = .ok (.iload_n 3, 1) := by decide +kernel
theorem dX4_write_15 : decode cX4_write 15 = .ok (.if_icmp .ge 35, 3) := by decide +kernel
theorem dX4_write_18 : decode cX4_write 18 = .ok (.aload_n 0, 1) := by decide +kernel
theorem dX4_write_19 : decode cX4_write 19 = .ok (.aload_n 1, 1) := by decide +kernel
theorem dX4_write_20 : decode cX4_write 20 = .ok (.iload 5, 2) := by decide +kernel
theorem dX4_write_22 : decode cX4_write 22 = .ok (.iload_n 3, 1) := by decide +kernel
theorem dX4_write_23 : decode cX4_write 23 = .ok (.aload 4, 2) := by decide +kernel
theorem dX4_write_25 : decode cX4_write 25 = .ok (.invokevirtual 90, 3) := by decide +kernel
theorem dX4_write_28 : decode cX4_write 28 = .ok (.istore 7, 2) := by decide +kernel
theorem dX4_write_30 : decode cX4_write 30 = .ok (.iload 7, 2) := by decide +kernel
theorem dX4_write_32 : decode cX4_write 32 = .ok (.ifCond .ne 5, 3) := by decide +kernel
theorem dX4_write_35 : decode cX4_write 35 = .ok (.iconst 0, 1) := by decide +kernel
theorem dX4_write_36 : decode cX4_write 36 = .ok (.ireturn, 1) := by decide +kernel
theorem dX4_write_37 : decode cX4_write 37 = .ok (.iload 5, 2) := by decide +kernel
theorem dX4_write_39 : decode cX4_write 39 = .ok (.iload 7, 2) := by decide +kernel
theorem dX4_write_41 : decode cX4_write 41 = .ok (.iadd, 1) := by decide +kernel
theorem dX4_write_42 : decode cX4_write 42 = .ok (.istore 5, 2) := by decide +kernel
theorem dX4_write_44 : decode cX4_write 44 = .ok (.iinc 6 1, 3) := by decide +kernel
theorem dX4_write_47 : decode cX4_write 47 = .ok (.goto (-41), 3) := by decide +kernel
theorem dX4_write_50 : decode cX4_write 50 = .ok (.iconst 1, 1) := by decide +kernel
theorem dX4_write_51 : decode cX4_write 51 = .ok (.ireturn, 1) := by decide +kernel
theorem dX4_writeAt_0 : decode cX4_writeAt 0 = .ok (.aload_n 1, 1) := by decide +kernel
theorem dX4_writeAt_1 : decode cX4_writeAt 1 = .ok (.iload_n 2, 1) := by decide +kernel
theorem dX4_writeAt_2 : decode cX4_writeAt 2 = .ok (.invokevirtual 94, 3) := by decide +kernel
theorem dX4_writeAt_5 : decode cX4_writeAt 5 = .ok (.istore 5, 2) := by decide +kernel
theorem dX4_writeAt_7 : decode cX4_writeAt 7 = .ok (.iload 5, 2) := by decide +kernel
theorem dX4_writeAt_9 : decode cX4_writeAt 9 = .ok (.bipush 92, 2) := by decide +kernel
theorem dX4_writeAt_11 : decode cX4_writeAt 11 = .ok (.if_icmp .eq 19, 3) := by decide +kernel
theorem dX4_writeAt_14 : decode cX4_writeAt 14 = .ok (.aload 4, 2) := by decide +kernel
theorem dX4_writeAt_16 : decode cX4_writeAt 16 = .ok (.iload 5, 2) := by decide +kernel
theorem dX4_writeAt_18 : decode cX4_writeAt 18 = .ok (.invokevirtual 97, 3) := by decide +kernel
theorem dX4_writeAt_21 : decode cX4_writeAt 21 = .ok (.ifCond .eq 7, 3) := by decide +kernel
theorem dX4_writeAt_24 : decode cX4_writeAt 24 = .ok (.iconst 1, 1) := by decide +kernel
theorem dX4_writeAt_25 : decode cX4_writeAt 25 = .ok (.goto 4, 3) := by decide +kernel
theorem dX4_writeAt_28 : decode cX4_writeAt 28 = .ok (.iconst 0, 1) := by decide +kernel
theorem dX4_writeAt_29 : decode cX4_writeAt 29 = .ok (.ireturn, 1) := by decide +kernel
theorem dX4_writeAt_30 : decode cX4_writeAt 30 = .ok (.iload_n 2, 1) := by decide +kernel
theorem dX4_writeAt_31 : decode cX4_writeAt 31 = .ok (.iconst 1, 1) := by decide +kernel
theorem dX4_writeAt_32 : decode cX4_writeAt 32 = .ok (.iadd, 1) := by decide +kernel
theorem dX4_writeAt_33 : decode cX4_writeAt 33 = .ok (.iload_n 3, 1) := by decide +kernel
theorem dX4_writeAt_34 : decode cX4_writeAt 34 = .ok (.if_icmp .ge 33, 3) := by decide +kernel
theorem dX4_writeAt_37 : decode cX4_writeAt 37 = .ok (.aload_n 1, 1) := by decide +kernel
theorem dX4_writeAt_38 : decode cX4_writeAt 38 = .ok (.iload_n 2, 1) := by decide +kernel
theorem dX4_writeAt_39 : decode cX4_writeAt 39 = .ok (.iconst 1, 1) := by decide +kernel
theorem dX4_writeAt_40 : decode cX4_writeAt 40 = .ok (.iadd, 1) := by decide +kernel
theorem dX4_writeAt_41 : decode cX4_writeAt 41 = .ok (.invokevirtual 94, 3) := by decide +kernel
theorem dX4_writeAt_44 : decode cX4_writeAt 44 = .ok (.bipush 64, 2) := by decide +kernel
theorem dX4_writeAt_46 : decode cX4_writeAt 46 = .ok (.if_icmp .ne 21, 3) := by decide +kernel
theorem dX4_writeAt_49 : decode cX4_writeAt 49 = .ok (.aload 4, 2) := by decide +kernel
theorem dX4_writeAt_51 : decode cX4_writeAt 51 = .ok (.aload_n 0, 1) := by decide +kernel
theorem dX4_writeAt_52 : decode cX4_writeAt 52 = .ok (.getfield 101, 3) := by decide +kernel
theorem dX4_writeAt_55 : decode cX4_writeAt 55 = .ok (.invokevirtual 104, 3) := by decide +kernel
theorem dX4_writeAt_58 : decode cX4_writeAt 58 = .ok (.ifCond .eq 7, 3) := by decide +kernel
theorem dX4_writeAt_61 : decode cX4_writeAt 61 = .ok (.iconst 2, 1) := by decide +kernel
theorem dX4_writeAt_62 : decode cX4_writeAt 62 = .ok (.goto 4, 3) := by decide +kernel
theorem dX4_writeAt_65 : decode cX4_writeAt 65 = .ok (.iconst 0, 1) := by decide +kernel
theorem dX4_writeAt_66 : decode cX4_writeAt 66 = .ok (.ireturn, 1) := by decide +kernel
theorem dX4_writeAt_67 : decode cX4_writeAt 67 = .ok (.aload_n 0, 1) := by decide +kernel
theorem dX4_writeAt_68 : decode cX4_writeAt 68 = .ok (.getfield 46, 3) := by decide +kernel
theorem dX4_writeAt_71 : decode cX4_writeAt 71 = .ok (.ifnonnull 7, 3) := by decide +kernel
theorem dX4_writeAt_74 : decode cX4_writeAt 74 = .ok (.iconst (-1), 1) := by decide +kernel
theorem dX4_writeAt_75 : decode cX4_writeAt 75 = .ok (.goto 15, 3) := by decide +kernel
theorem dX4_writeAt_78 : decode cX4_writeAt 78 = .ok (.aload_n 0, 1) := by decide +kernel
theorem dX4_writeAt_79 : decode cX4_writeAt 79 = .ok (.getfield 46, 3) := by decide +kernel
theorem dX4_writeAt_82 : decode cX4_writeAt 82 = .ok (.aload_n 1, 1) := by decide +kernel
theorem dX4_writeAt_83 : decode cX4_writeAt 83 = .ok (.iload_n 2, 1) := by decide +kernel
theorem dX4_writeAt_84 : decode cX4_writeAt 84 = .ok (.iconst 1, 1) := by decide +kernel
theorem dX4_writeAt_85 : decode cX4_writeAt 85 = .ok (.iadd, 1) := by decide +kernel
theorem dX4_writeAt_86 : decode cX4_writeAt 86 = .ok (.iload_n 3, 1) := by decide +kernel
theorem dX4_writeAt_87 : decode cX4_writeAt 87 = .ok (.invokevirtual 107, 3) := by decide +kernel
theorem dX4_writeAt_90 : decode cX4_writeAt 90 = .ok (.istore 6, 2) := by decide +kernel
theorem dX4_writeAt_92 : decode cX4_writeAt 92 = .ok (.iload 6, 2) := by decide +kernel
theorem dX4_writeAt_94 : decode cX4_writeAt 94 = .ok (.ifCond .ge 19, 3) := by decide +kernel
theorem dX4_writeAt_97 : decode cX4_writeAt 97 = .ok (.aload 4, 2) := by decide +kernel
theorem dX4_writeAt_99 : decode cX4_writeAt 99 = .ok (.iload 5, 2) := by decide +kernel
theorem dX4_writeAt_101 : decode cX4_writeAt 101 = .ok (.invokevirtual 97, 3) := by decide +kernel
theorem dX4_writeAt_104 : decode cX4_writeAt 104 = .ok (.ifCond .eq 7, 3) := by decide +kernel
theorem dX4_writeAt_107 : decode cX4_writeAt 107 = .ok (.iconst 1, 1) := by decide +kernel
theorem dX4_writeAt_108 : decode cX4_writeAt 108 = .ok (.goto 4, 3) := by decide +kernel
theorem dX4_writeAt_111 : decode cX4_writeAt 111 = .ok (.iconst 0, 1) := by decide +kernel
theorem dX4_writeAt_112 : decode cX4_writeAt 112 = .ok (.ireturn, 1) := by decide +kernel
theorem dX4_writeAt_113 : decode cX4_writeAt 113 = .ok (.aload 4, 2) := by decide +kernel
theorem dX4_writeAt_115 : decode cX4_writeAt 115 = .ok (.aload_n 0, 1) := by decide +kernel
theorem dX4_writeAt_116 : decode cX4_writeAt 116 = .ok (.getfield 14, 3) := by decide +kernel
theorem dX4_writeAt_119 : decode cX4_writeAt 119 = .ok (.aload_n 0, 1) := by decide +kernel
theorem dX4_writeAt_120 : decode cX4_writeAt 120 = .ok (.getfield 23, 3) := by decide +kernel
theorem dX4_writeAt_123 : decode cX4_writeAt 123 = .ok (.iload 6, 2) := by decide +kernel
theorem dX4_writeAt_125 : decode cX4_writeAt 125 = .ok (.invokevirtual 111, 3) := by decide +kernel
theorem dX4_writeAt_128 : decode cX4_writeAt 128 = .ok (.aload_n 0, 1) := by decide +kernel
theorem dX4_writeAt_129 : decode cX4_writeAt 129 = .ok (.getfield 27, 3) := by decide +kernel
theorem dX4_writeAt_132 : decode cX4_writeAt 132 = .ok (.iload 6, 2) := by decide +kernel
theorem dX4_writeAt_134 : decode cX4_writeAt 134 = .ok (.invokevirtual 111, 3) := by decide +kernel
theorem dX4_writeAt_137 : decode cX4_writeAt 137 = .ok (.invokevirtual 57, 3) := by decide +kernel
theorem dX4_writeAt_140 : decode cX4_writeAt 140 = .ok (.ifCond .eq 17, 3) := by decide +kernel
theorem dX4_writeAt_143 : decode cX4_writeAt 143 = .ok (.iconst 1, 1) := by decide +kernel
theorem dX4_writeAt_144 : decode cX4_writeAt 144 = .ok (.aload_n 0, 1) := by decide +kernel
theorem dX4_writeAt_145 : decode cX4_writeAt 145 = .ok (.getfield 46, 3) := by decide +kernel
theorem dX4_writeAt_148 : decode cX4_writeAt 148 = .ok (.iload 6, 2) := by decide +kernel
theorem dX4_writeAt_150 : decode cX4_writeAt 150 = .ok (.invokevirtual 112, 3) := by decide +kernel
theorem dX4_writeAt_153 : decode cX4_writeAt 153 = .ok (.iadd, 1) := by decide +kernel
theorem dX4_writeAt_154 : decode cX4_writeAt 154 = .ok (.goto 4, 3) := by decide +kernel
theorem dX4_writeAt_157 : decode cX4_writeAt 157 = .ok (.iconst 0, 1) := by decide +kernel
theorem dX4_writeAt_158 : decode cX4_writeAt 158 = .ok (.ireturn, 1) := by decide +kernel
theorem dX5_init_0 : decode cX5_init 0 = .ok (.aload_n 0, 1) := by decide +kernel
theorem dX5_init_1 : decode cX5_init 1 = .ok (.invokespecial 3, 3) := by decide +kernel
theorem dX5_init_4 : decode cX5_init 4 = .ok (.aload_n 0, 1) := by decide +kernel
theorem dX5_init_5 : decode cX5_init 5 = .ok (.new 9, 3) := by decide +kernel
theorem dX5_init_8 : decode cX5_init 8 = .ok (.dup, 1) := by decide +kernel
theorem dX5_init_9 : decode cX5_init 9 = .ok (.invokespecial 11, 3) := by decide +kernel
theorem dX5_init_12 : decode cX5_init 12 = .ok (.putfield 12, 3) := by decide +kernel
theorem dX5_init_15 : decode cX5_init 15 = .ok (.aload_n 0, 1) := by decide +kernel
theorem dX5_init_16 : decode cX5_init 16 = .ok (.new 9, 3) := by decide +kernel
theorem dX5_init_19 : decode cX5_init 19 = .ok (.dup, 1) := by decide +kernel
theorem dX5_init_20 : decode cX5_init 20 = .ok (.invokespecial 11, 3) := by decide +kernel
theorem dX5_init_23 : decode cX5_init 23 = .ok (.putfield 18, 3) := by decide +kernel
theorem dX5_init_26 : decode cX5_init 26 = .ok (.aload_n 0, 1) := by decide +kernel
theorem dX5_init_27 : decode cX5_init 27 = .ok (.new 9, 3) := by decide +kernel
theorem dX5_init_30 : decode cX5_init 30 = .ok (.dup, 1) := by decide +kernel
theorem dX5_init_31 : decode cX5_init 31 = .ok (.invokespecial 11, 3) := by decide +kernel
theorem dX5_init_34 : decode cX5_init 34 = .ok (.putfield 21, 3) := by decide +kernel
theorem dX5_init_37 : decode cX5_init 37 = .ok (.aload_n 0, 1) := by decide +kernel
theorem dX5_init_38 : decode cX5_init 38 = .ok (.new 24, 3) := by decide +kernel
theorem dX5_init_41 : decode cX5_init 41 = .ok (.dup, 1) := by decide +kernel
theorem dX5_init_42 : decode cX5_init 42 = .ok (.sipush 256, 3) := by decide +kernel
theorem dX5_init_45 : decode cX5_init 45 = .ok (.ldc 26, 2) := by decide +kernel
theorem dX5_init_47 : decode cX5_init 47 = .ok (.invokespecial 27, 3) := by decide +kernel
theorem dX5_init_50 : decode cX5_init 50 = .ok (.putfield 30, 3) := by decide +kernel
theorem dX5_init_53 : decode cX5_init 53 = .ok (.return_, 1) := by decide +kernel
theorem dX5_exchange_0 : decode cX5_exchange 0 = .ok (.aload_n 0, 1) := by decide +kernel
theorem dX5_exchange_1 : decode cX5_exchange 1 = .ok (.getfield 30, 3) := by decide +kernel
theorem dX5_exchange_4 : decode cX5_exchange 4 = .ok (.astore_n 2, 1) := by decide +kernel
theorem dX5_exchange_5 : decode cX5_exchange 5 = .ok (.aload_n 0, 1) := by decide +kernel
theorem dX5_exchange_6 : decode cX5_exchange 6 = .ok (.aload_n 1, 1) := by decide +kernel
theorem dX5_exchange_7 : decode cX5_exchange 7 = .ok (.putfield 30, 3) := by decide +kernel
theorem dX5_exchange_10 : decode cX5_exchange 10 = .ok (.aload_n 0, 1) := by decide +kernel
theorem dX5_exchange_11 : decode cX5_exchange 11 = .ok (.getfield 12, 3) := by decide +kernel
theorem dX5_exchange_14 : decode cX5_exchange 14 = .ok (.invokevirtual 34, 3) := by decide +kernel
theorem dX5_exchange_17 : decode cX5_exchange 17 = .ok (.aload_n 0, 1) := by decide +kernel
theorem dX5_exchange_18 : decode cX5_exchange 18 = .ok (.getfield 18, 3) := by decide +kernel
theorem dX5_exchange_21 : decode cX5_exchange 21 = .ok (.invokevirtual 34, 3) := by decide +kernel
theorem dX5_exchange_24 : decode cX5_exchange 24 = .ok (.aload_n 0, 1) := by decide +kernel
theorem dX5_exchange_25 : decode cX5_exchange 25 = .ok (.getfield 21, 3) := by decide +kernel
theorem dX5_exchange_28 : decode cX5_exchange 28 = .ok (.invokevirtual 34, 3) := by decide +kernel
theorem dX5_exchange_31 : decode cX5_exchange 31 = .ok (.iconst 0, 1) := by decide +kernel
theorem dX5_exchange_32 : decode cX5_exchange 32 = .ok (.istore_n 3, 1) := by decide +kernel
theorem dX5_exchange_33 : decode cX5_exchange 33 = .ok (.iconst 0, 1) := by decide +kernel
theorem dX5_exchange_34 : decode cX5_exchange 34 = .ok (.istore 4, 2) := by decide +kernel
theorem dX5_exchange_36 : decode cX5_exchange 36 = .ok (.iload 4, 2) := by decide +kernel
theorem dX5_exchange_38 : decode cX5_exchange 38 = .ok (.aload_n 0, 1) := by decide +kernel
theorem dX5_exchange_39 : decode cX5_exchange 39 = .ok (.getfield 30, 3) := by decide +kernel
theorem dX5_exchange_42 : decode cX5_exchange 42 = .ok (.invokevirtual 37, 3) := by decide +kernel
theorem dX5_exchange_45 : decode cX5_exchange 45 = .ok (.if_icmp .ge 35, 3) := by decide +kernel
theorem dX5_exchange_48 : decode cX5_exchange 48 = .ok (.aload_n 0, 1) := by decide +kernel
theorem dX5_exchange_49 : decode cX5_exchange 49 = .ok (.getfield 30, 3) := by decide +kernel
theorem dX5_exchange_52 : decode cX5_exchange 52 = .ok (.iload 4, 2) := by decide +kernel
theorem dX5_exchange_54 : decode cX5_exchange 54 = .ok (.invokevirtual 41, 3) := by decide +kernel
theorem dX5_exchange_57 : decode cX5_exchange 57 = .ok (.bipush 10, 2) := by decide +kernel
theorem dX5_exchange_59 : decode cX5_exchange 59 = .ok (.if_icmp .ne 15, 3) := by decide +kernel
theorem dX5_exchange_62 : decode cX5_exchange 62 = .ok (.aload_n 0, 1) := by decide +kernel
theorem dX5_exchange_63 : decode cX5_exchange 63 = .ok (.iload_n 3, 1) := by decide +kernel
theorem dX5_exchange_64 : decode cX5_exchange 64 = .ok (.iload 4, 2) := by decide +kernel
theorem dX5_exchange_66 : decode cX5_exchange 66 = .ok (.invokevirtual 45, 3) := by decide +kernel
theorem dX5_exchange_69 : decode cX5_exchange 69 = .ok (.iload 4, 2) := by decide +kernel
theorem dX5_exchange_71 : decode cX5_exchange 71 = .ok (.iconst 1, 1) := by decide +kernel
theorem dX5_exchange_72 : decode cX5_exchange 72 = .ok (.iadd, 1) := by decide +kernel
theorem dX5_exchange_73 : decode cX5_exchange 73 = .ok (.istore_n 3, 1) := by decide +kernel
theorem dX5_exchange_74 : decode cX5_exchange 74 = .ok (.iinc 4 1, 3) := by decide +kernel
theorem dX5_exchange_77 : decode cX5_exchange 77 = .ok (.goto (-41), 3) := by decide +kernel
theorem dX5_exchange_80 : decode cX5_exchange 80 = .ok (.iload_n 3, 1) := by decide +kernel
theorem dX5_exchange_81 : decode cX5_exchange 81 = .ok (.aload_n 0, 1) := by decide +kernel
theorem dX5_exchange_82 : decode cX5_exchange 82 = .ok (.getfield 30, 3) := by decide +kernel
theorem dX5_exchange_85 : decode cX5_exchange 85 = .ok (.invokevirtual 37, 3) := by decide +kernel
theorem dX5_exchange_88 : decode cX5_exchange 88 = .ok (.if_icmp .ge 15, 3) := by decide +kernel
theorem dX5_exchange_91 : decode cX5_exchange 91 = .ok (.aload_n 0, 1) := by decide +kernel
theorem dX5_exchange_92 : decode cX5_exchange 92 = .ok (.iload_n 3, 1) := by decide +kernel
theorem dX5_exchange_93 : decode cX5_exchange 93 = .ok (.aload_n 0, 1) := by decide +kernel
theorem dX5_exchange_94 : decode cX5_exchange 94 = .ok (.getfield 30, 3) := by decide +kernel
theorem dX5_exchange_97 : decode cX5_exchange 97 = .ok (.invokevirtual 37, 3) := by decide +kernel
theorem dX5_exchange_100 : decode cX5_exchange 100 = .ok (.invokevirtual 45, 3) := by decide +kernel
theorem dX5_exchange_103 : decode cX5_exchange 103 = .ok (.aload_n 2, 1) := by decide +kernel
theorem dX5_exchange_104 : decode cX5_exchange 104 = .ok (.areturn, 1) := by decide +kernel
theorem dX5_addLine_0 : decode cX5_addLine 0 = .ok (.aload_n 0, 1) := by decide +kernel
theorem dX5_addLine_1 : decode cX5_addLine 1 = .ok (.getfield 12, 3) := by decide +kernel
theorem dX5_addLine_4 : decode cX5_addLine 4 = .ok (.iload_n 1, 1) := by decide +kernel
theorem dX5_addLine_5 : decode cX5_addLine 5 = .ok (.invokevirtual 48, 3) := by decide +kernel
theorem dX5_addLine_8 : decode cX5_addLine 8 = .ok (.aload_n 0, 1) := by decide +kernel
theorem dX5_addLine_9 : decode cX5_addLine 9 = .ok (.getfield 18, 3) := by decide +kernel
theorem dX5_addLine_12 : decode cX5_addLine 12 = .ok (.iload_n 2, 1) := by decide +kernel
theorem dX5_addLine_13 : decode cX5_addLine 13 = .ok (.invokevirtual 48, 3) := by decide +kernel
theorem dX5_addLine_16 : decode cX5_addLine 16 = .ok (.aload_n 0, 1) := by decide +kernel
theorem dX5_addLine_17 : decode cX5_addLine 17 = .ok (.getfield 30, 3) := by decide +kernel
theorem dX5_addLine_20 : decode cX5_addLine 20 = .ok (.iload_n 1, 1) := by decide +kernel
theorem dX5_addLine_21 : decode cX5_addLine 21 = .ok (.invokevirtual 52, 3) := by decide +kernel
theorem dX5_addLine_24 : decode cX5_addLine 24 = .ok (.istore_n 3, 1) := by decide +kernel
theorem dX5_addLine_25 : decode cX5_addLine 25 = .ok (.aload_n 0, 1) := by decide +kernel
theorem dX5_addLine_26 : decode cX5_addLine 26 = .ok (.getfield 21, 3) := by decide +kernel
theorem dX5_addLine_29 : decode cX5_addLine 29 = .ok (.aload_n 0, 1) := by decide +kernel
theorem dX5_addLine_30 : decode cX5_addLine 30 = .ok (.getfield 30, 3) := by decide +kernel
theorem dX5_addLine_33 : decode cX5_addLine 33 = .ok (.iload_n 3, 1) := by decide +kernel
theorem dX5_addLine_34 : decode cX5_addLine 34 = .ok (.aload_n 0, 1) := by decide +kernel
theorem dX5_addLine_35 : decode cX5_addLine 35 = .ok (.getfield 30, 3) := by decide +kernel
theorem dX5_addLine_38 : decode cX5_addLine 38 = .ok (.iload_n 3, 1) := by decide +kernel
theorem dX5_addLine_39 : decode cX5_addLine 39 = .ok (.invokevirtual 55, 3) := by decide +kernel
theorem dX5_addLine_42 : decode cX5_addLine 42 = .ok (.invokestatic 58, 3) := by decide +kernel
theorem dX5_addLine_45 : decode cX5_addLine 45 = .ok (.invokevirtual 48, 3) := by decide +kernel
theorem dX5_addLine_48 : decode cX5_addLine 48 = .ok (.return_, 1) := by decide +kernel
theorem dX5_bytes_0 : decode cX5_bytes 0 = .ok (.aload_n 0, 1) := by decide +kernel
theorem dX5_bytes_1 : decode cX5_bytes 1 = .ok (.getfield 30, 3) := by decide +kernel
theorem dX5_bytes_4 : decode cX5_bytes 4 = .ok (.areturn, 1) := by decide +kernel
theorem dX5_count_0 : decode cX5_count 0 = .ok (.aload_n 0, 1) := by decide +kernel
theorem dX5_count_1 : decode cX5_count 1 = .ok (.getfield 12, 3) := by decide +kernel
theorem dX5_count_4 : decode cX5_count 4 = .ok (.invokevirtual 62, 3) := by decide +kernel
theorem dX5_count_7 : decode cX5_count 7 = .ok (.ireturn, 1) := by decide +kernel
theorem dX5_start_0 : decode cX5_start 0 = .ok (.aload_n 0, 1) := by decide +kernel
theorem dX5_start_1 : decode cX5_start 1 = .ok (.getfield 12, 3) := by decide +kernel
theorem dX5_start_4 : decode cX5_start 4 = .ok (.iload_n 1, 1) := by decide +kernel
theorem dX5_start_5 : decode cX5_start 5 = .ok (.invokevirtual 63, 3) := by decide +kernel
theorem dX5_start_8 : decode cX5_start 8 = .ok (.ireturn, 1) := by decide +kernel
theorem dX5_end_0 : decode cX5_end 0 = .ok (.aload_n 0, 1) := by decide +kernel
theorem dX5_end_1 : decode cX5_end 1 = .ok (.getfield 18, 3) := by decide +kernel
theorem dX5_end_4 : decode cX5_end 4 = .ok (.iload_n 1, 1) := by decide +kernel
theorem dX5_end_5 : decode cX5_end 5 = .ok (.invokevirtual 63, 3) := by decide +kernel
theorem dX5_end_8 : decode cX5_end 8 = .ok (.ireturn, 1) := by decide +kernel
theorem dX5_word_0 : decode cX5_word 0 = .ok (.aload_n 0, 1) := by decide +kernel
theorem dX5_word_1 : decode cX5_word 1 = .ok (.getfield 21, 3) := by decide +kernel
theorem dX5_word_4 : decode cX5_word 4 = .ok (.iload_n 1, 1) := by decide +kernel
theorem dX5_word_5 : decode cX5_word 5 = .ok (.invokevirtual 63, 3) := by decide +kernel
theorem dX5_word_8 : decode cX5_word 8 = .ok (.ireturn, 1) := by decide +kernel
theorem dX5_find_0 : decode cX5_find 0 = .ok (.iload_n 3, 1) := by decide +kernel
theorem dX5_find_1 : decode cX5_find 1 = .ok (.invokestatic 64, 3) := by decide +kernel
theorem dX5_find_4 : decode cX5_find 4 = .ok (.istore 5, 2) := by decide +kernel
theorem dX5_find_6 : decode cX5_find 6 = .ok (.iload_n 3, 1) := by decide +kernel
theorem dX5_find_7 : decode cX5_find 7 = .ok (.bipush 6, 2) := by decide +kernel
theorem dX5_find_9 : decode cX5_find 9 = .ok (.if_icmp .eq 7, 3) := by decide +kernel
theorem dX5_find_12 : decode cX5_find 12 = .ok (.iconst 1, 1) := by decide +kernel
theorem dX5_find_13 : decode cX5_find 13 = .ok (.goto 4, 3) := by decide +kernel
theorem dX5_find_16 : decode cX5_find 16 = .ok (.iconst 0, 1) := by decide +kernel
theorem dX5_find_17 : decode cX5_find 17 = .ok (.istore 6, 2) := by decide +kernel
theorem dX5_find_19 : decode cX5_find 19 = .ok (.iconst 0, 1) := by decide +kernel
theorem dX5_find_20 : decode cX5_find 20 = .ok (.istore 7, 2) := by decide +kernel
theorem dX5_find_22 : decode cX5_find 22 = .ok (.iload_n 1, 1) := by decide +kernel
theorem dX5_find_23 : decode cX5_find 23 = .ok (.istore 8, 2) := by decide +kernel
end
section
theorem dX5_find_25 : decode cX5_find 25 = .ok (.iload 8, 2) := by decide +kernel
theorem dX5_find_27 : decode cX5_find 27 = .ok (.iload_n 2, 1) := by decide +kernel
theorem dX5_find_28 : decode cX5_find 28 = .ok (.if_icmp .ge 73, 3) := by decide +kernel
theorem dX5_find_31 : decode cX5_find 31 = .ok (.aload_n 0, 1) := by decide +kernel
theorem dX5_find_32 : decode cX5_find 32 = .ok (.getfield 21, 3) := by decide +kernel
theorem dX5_find_35 : decode cX5_find 35 = .ok (.iload 8, 2) := by decide +kernel
theorem dX5_find_37 : decode cX5_find 37 = .ok (.invokevirtual 63, 3) := by decide +kernel
theorem dX5_find_40 : decode cX5_find 40 = .ok (.istore 9, 2) := by decide +kernel
theorem dX5_find_42 : decode cX5_find 42 = .ok (.iload 7, 2) := by decide +kernel
theorem dX5_find_44 : decode cX5_find 44 = .ok (.ifCond .ne 24, 3) := by decide +kernel
theorem dX5_find_47 : decode cX5_find 47 = .ok (.iload 9, 2) := by decide +kernel
theorem dX5_find_49 : decode cX5_find 49 = .ok (.iload 5, 2) := by decide +kernel
theorem dX5_find_51 : decode cX5_find 51 = .ok (.if_icmp .eq 14, 3) := by decide +kernel
theorem dX5_find_54 : decode cX5_find 54 = .ok (.iload 4, 2) := by decide +kernel
theorem dX5_find_56 : decode cX5_find 56 = .ok (.ifCond .eq 12, 3) := by decide +kernel
theorem dX5_find_59 : decode cX5_find 59 = .ok (.iload 9, 2) := by decide +kernel
theorem dX5_find_61 : decode cX5_find 61 = .ok (.iconst 2, 1) := by decide +kernel
theorem dX5_find_62 : decode cX5_find 62 = .ok (.if_icmp .ne 6, 3) := by decide +kernel
theorem dX5_find_65 : decode cX5_find 65 = .ok (.iload 8, 2) := by decide +kernel
theorem dX5_find_67 : decode cX5_find 67 = .ok (.ireturn, 1) := by decide +kernel
theorem dX5_find_68 : decode cX5_find 68 = .ok (.iload 9, 2) := by decide +kernel
theorem dX5_find_70 : decode cX5_find 70 = .ok (.iload 5, 2) := by decide +kernel
theorem dX5_find_72 : decode cX5_find 72 = .ok (.if_icmp .ne 9, 3) := by decide +kernel
theorem dX5_find_75 : decode cX5_find 75 = .ok (.iinc 7 (-1), 3) := by decide +kernel
theorem dX5_find_78 : decode cX5_find 78 = .ok (.goto 17, 3) := by decide +kernel
theorem dX5_find_81 : decode cX5_find 81 = .ok (.iload 6, 2) := by decide +kernel
theorem dX5_find_83 : decode cX5_find 83 = .ok (.ifCond .eq 12, 3) := by decide +kernel
theorem dX5_find_86 : decode cX5_find 86 = .ok (.iload 9, 2) := by decide +kernel
theorem dX5_find_88 : decode cX5_find 88 = .ok (.iload_n 3, 1) := by decide +kernel
theorem dX5_find_89 : decode cX5_find 89 = .ok (.if_icmp .ne 6, 3) := by decide +kernel
theorem dX5_find_92 : decode cX5_find 92 = .ok (.iinc 7 1, 3) := by decide +kernel
theorem dX5_find_95 : decode cX5_find 95 = .ok (.iinc 8 1, 3) := by decide +kernel
theorem dX5_find_98 : decode cX5_find 98 = .ok (.goto (-73), 3) := by decide +kernel
theorem dX5_find_101 : decode cX5_find 101 = .ok (.iconst (-1), 1) := by decide +kernel
theorem dX5_find_102 : decode cX5_find 102 = .ok (.ireturn, 1) := by decide +kernel
theorem dX6_init_0 : decode cX6_init 0 = .ok (.aload_n 0, 1) := by decide +kernel
theorem dX6_init_1 : decode cX6_init 1 = .ok (.invokespecial 3, 3) := by decide +kernel
theorem dX6_init_4 : decode cX6_init 4 = .ok (.aload_n 0, 1) := by decide +kernel
theorem dX6_init_5 : decode cX6_init 5 = .ok (.new 9, 3) := by decide +kernel
theorem dX6_init_8 : decode cX6_init 8 = .ok (.dup, 1) := by decide +kernel
theorem dX6_init_9 : decode cX6_init 9 = .ok (.invokespecial 11, 3) := by decide +kernel
theorem dX6_init_12 : decode cX6_init 12 = .ok (.putfield 12, 3) := by decide +kernel
theorem dX6_init_15 : decode cX6_init 15 = .ok (.aload_n 0, 1) := by decide +kernel
theorem dX6_init_16 : decode cX6_init 16 = .ok (.new 9, 3) := by decide +kernel
theorem dX6_init_19 : decode cX6_init 19 = .ok (.dup, 1) := by decide +kernel
theorem dX6_init_20 : decode cX6_init 20 = .ok (.invokespecial 11, 3) := by decide +kernel
theorem dX6_init_23 : decode cX6_init 23 = .ok (.putfield 18, 3) := by decide +kernel
theorem dX6_init_26 : decode cX6_init 26 = .ok (.aload_n 0, 1) := by decide +kernel
theorem dX6_init_27 : decode cX6_init 27 = .ok (.new 9, 3) := by decide +kernel
theorem dX6_init_30 : decode cX6_init 30 = .ok (.dup, 1) := by decide +kernel
theorem dX6_init_31 : decode cX6_init 31 = .ok (.invokespecial 11, 3) := by decide +kernel
theorem dX6_init_34 : decode cX6_init 34 = .ok (.putfield 21, 3) := by decide +kernel
theorem dX6_init_37 : decode cX6_init 37 = .ok (.aload_n 0, 1) := by decide +kernel
theorem dX6_init_38 : decode cX6_init 38 = .ok (.aload_n 1, 1) := by decide +kernel
theorem dX6_init_39 : decode cX6_init 39 = .ok (.putfield 24, 3) := by decide +kernel
theorem dX6_init_42 : decode cX6_init 42 = .ok (.return_, 1) := by decide +kernel
theorem dX6_count_0 : decode cX6_count 0 = .ok (.aload_n 0, 1) := by decide +kernel
theorem dX6_count_1 : decode cX6_count 1 = .ok (.getfield 12, 3) := by decide +kernel
theorem dX6_count_4 : decode cX6_count 4 = .ok (.invokevirtual 28, 3) := by decide +kernel
theorem dX6_count_7 : decode cX6_count 7 = .ok (.ireturn, 1) := by decide +kernel
theorem dX6_kind_0 : decode cX6_kind 0 = .ok (.aload_n 0, 1) := by decide +kernel
theorem dX6_kind_1 : decode cX6_kind 1 = .ok (.getfield 12, 3) := by decide +kernel
theorem dX6_kind_4 : decode cX6_kind 4 = .ok (.iload_n 1, 1) := by decide +kernel
theorem dX6_kind_5 : decode cX6_kind 5 = .ok (.invokevirtual 32, 3) := by decide +kernel
theorem dX6_kind_8 : decode cX6_kind 8 = .ok (.ireturn, 1) := by decide +kernel
theorem dX6_start_0 : decode cX6_start 0 = .ok (.aload_n 0, 1) := by decide +kernel
theorem dX6_start_1 : decode cX6_start 1 = .ok (.getfield 18, 3) := by decide +kernel
theorem dX6_start_4 : decode cX6_start 4 = .ok (.iload_n 1, 1) := by decide +kernel
theorem dX6_start_5 : decode cX6_start 5 = .ok (.invokevirtual 32, 3) := by decide +kernel
theorem dX6_start_8 : decode cX6_start 8 = .ok (.ireturn, 1) := by decide +kernel
theorem dX6_end_0 : decode cX6_end 0 = .ok (.aload_n 0, 1) := by decide +kernel
theorem dX6_end_1 : decode cX6_end 1 = .ok (.getfield 21, 3) := by decide +kernel
theorem dX6_end_4 : decode cX6_end 4 = .ok (.iload_n 1, 1) := by decide +kernel
theorem dX6_end_5 : decode cX6_end 5 = .ok (.invokevirtual 32, 3) := by decide +kernel
theorem dX6_end_8 : decode cX6_end 8 = .ok (.ireturn, 1) := by decide +kernel
theorem dX6_second_0 : decode cX6_second 0 = .ok (.aload_n 0, 1) := by decide +kernel
theorem dX6_second_1 : decode cX6_second 1 = .ok (.getfield 36, 3) := by decide +kernel
theorem dX6_second_4 : decode cX6_second 4 = .ok (.lreturn, 1) := by decide +kernel
theorem dX6_takeAll_0 : decode cX6_takeAll 0 = .ok (.aload_n 0, 1) := by decide +kernel
theorem dX6_takeAll_1 : decode cX6_takeAll 1 = .ok (.getfield 12, 3) := by decide +kernel
theorem dX6_takeAll_4 : decode cX6_takeAll 4 = .ok (.invokevirtual 40, 3) := by decide +kernel
theorem dX6_takeAll_7 : decode cX6_takeAll 7 = .ok (.aload_n 0, 1) := by decide +kernel
theorem dX6_takeAll_8 : decode cX6_takeAll 8 = .ok (.getfield 18, 3) := by decide +kernel
theorem dX6_takeAll_11 : decode cX6_takeAll 11 = .ok (.invokevirtual 40, 3) := by decide +kernel
theorem dX6_takeAll_14 : decode cX6_takeAll 14 = .ok (.aload_n 0, 1) := by decide +kernel
theorem dX6_takeAll_15 : decode cX6_takeAll 15 = .ok (.getfield 21, 3) := by decide +kernel
theorem dX6_takeAll_18 : decode cX6_takeAll 18 = .ok (.invokevirtual 40, 3) := by decide +kernel
theorem dX6_takeAll_21 : decode cX6_takeAll 21 = .ok (.aload_n 0, 1) := by decide +kernel
theorem dX6_takeAll_22 : decode cX6_takeAll 22 = .ok (.getfield 24, 3) := by decide +kernel
theorem dX6_takeAll_25 : decode cX6_takeAll 25 = .ok (.iconst 0, 1) := by decide +kernel
theorem dX6_takeAll_26 : decode cX6_takeAll 26 = .ok (.invokevirtual 43, 3) := by decide +kernel
theorem dX6_takeAll_29 : decode cX6_takeAll 29 = .ok (.istore_n 1, 1) := by decide +kernel
theorem dX6_takeAll_30 : decode cX6_takeAll 30 = .ok (.iconst 0, 1) := by decide +kernel
theorem dX6_takeAll_31 : decode cX6_takeAll 31 = .ok (.istore_n 2, 1) := by decide +kernel
theorem dX6_takeAll_32 : decode cX6_takeAll 32 = .ok (.iload_n 2, 1) := by decide +kernel
theorem dX6_takeAll_33 : decode cX6_takeAll 33 = .ok (.aload_n 0, 1) := by decide +kernel
theorem dX6_takeAll_34 : decode cX6_takeAll 34 = .ok (.getfield 24, 3) := by decide +kernel
theorem dX6_takeAll_37 : decode cX6_takeAll 37 = .ok (.invokevirtual 48, 3) := by decide +kernel
theorem dX6_takeAll_40 : decode cX6_takeAll 40 = .ok (.if_icmp .ge 106, 3) := by decide +kernel
theorem dX6_takeAll_43 : decode cX6_takeAll 43 = .ok (.iload_n 1, 1) := by decide +kernel
theorem dX6_takeAll_44 : decode cX6_takeAll 44 = .ok (.aload_n 0, 1) := by decide +kernel
theorem dX6_takeAll_45 : decode cX6_takeAll 45 = .ok (.getfield 24, 3) := by decide +kernel
theorem dX6_takeAll_48 : decode cX6_takeAll 48 = .ok (.invokevirtual 48, 3) := by decide +kernel
theorem dX6_takeAll_51 : decode cX6_takeAll 51 = .ok (.if_icmp .ge 16, 3) := by decide +kernel
theorem dX6_takeAll_54 : decode cX6_takeAll 54 = .ok (.aload_n 0, 1) := by decide +kernel
theorem dX6_takeAll_55 : decode cX6_takeAll 55 = .ok (.getfield 24, 3) := by decide +kernel
theorem dX6_takeAll_58 : decode cX6_takeAll 58 = .ok (.iload_n 1, 1) := by decide +kernel
theorem dX6_takeAll_59 : decode cX6_takeAll 59 = .ok (.invokevirtual 49, 3) := by decide +kernel
theorem dX6_takeAll_62 : decode cX6_takeAll 62 = .ok (.bipush 59, 2) := by decide +kernel
theorem dX6_takeAll_64 : decode cX6_takeAll 64 = .ok (.if_icmp .ne 5, 3) := by decide +kernel
theorem dX6_takeAll_67 : decode cX6_takeAll 67 = .ok (.iconst 1, 1) := by decide +kernel
theorem dX6_takeAll_68 : decode cX6_takeAll 68 = .ok (.ireturn, 1) := by decide +kernel
theorem dX6_takeAll_69 : decode cX6_takeAll 69 = .ok (.aload_n 0, 1) := by decide +kernel
theorem dX6_takeAll_70 : decode cX6_takeAll 70 = .ok (.iload_n 1, 1) := by decide +kernel
theorem dX6_takeAll_71 : decode cX6_takeAll 71 = .ok (.invokevirtual 50, 3) := by decide +kernel
theorem dX6_takeAll_74 : decode cX6_takeAll 74 = .ok (.istore_n 3, 1) := by decide +kernel
theorem dX6_takeAll_75 : decode cX6_takeAll 75 = .ok (.iload_n 3, 1) := by decide +kernel
theorem dX6_takeAll_76 : decode cX6_takeAll 76 = .ok (.iconst (-1), 1) := by decide +kernel
theorem dX6_takeAll_77 : decode cX6_takeAll 77 = .ok (.if_icmp .ne 5, 3) := by decide +kernel
theorem dX6_takeAll_80 : decode cX6_takeAll 80 = .ok (.iconst 0, 1) := by decide +kernel
theorem dX6_takeAll_81 : decode cX6_takeAll 81 = .ok (.ireturn, 1) := by decide +kernel
theorem dX6_takeAll_82 : decode cX6_takeAll 82 = .ok (.aload_n 0, 1) := by decide +kernel
theorem dX6_takeAll_83 : decode cX6_takeAll 83 = .ok (.getfield 12, 3) := by decide +kernel
theorem dX6_takeAll_86 : decode cX6_takeAll 86 = .ok (.invokevirtual 28, 3) := by decide +kernel
theorem dX6_takeAll_89 : decode cX6_takeAll 89 = .ok (.iconst 1, 1) := by decide +kernel
theorem dX6_takeAll_90 : decode cX6_takeAll 90 = .ok (.if_icmp .ne 11, 3) := by decide +kernel
theorem dX6_takeAll_93 : decode cX6_takeAll 93 = .ok (.aload_n 0, 1) := by decide +kernel
theorem dX6_takeAll_94 : decode cX6_takeAll 94 = .ok (.aload_n 0, 1) := by decide +kernel
theorem dX6_takeAll_95 : decode cX6_takeAll 95 = .ok (.getfield 53, 3) := by decide +kernel
theorem dX6_takeAll_98 : decode cX6_takeAll 98 = .ok (.putfield 36, 3) := by decide +kernel
theorem dX6_takeAll_101 : decode cX6_takeAll 101 = .ok (.aload_n 0, 1) := by decide +kernel
theorem dX6_takeAll_102 : decode cX6_takeAll 102 = .ok (.getfield 12, 3) := by decide +kernel
theorem dX6_takeAll_105 : decode cX6_takeAll 105 = .ok (.iload_n 3, 1) := by decide +kernel
theorem dX6_takeAll_106 : decode cX6_takeAll 106 = .ok (.invokevirtual 56, 3) := by decide +kernel
theorem dX6_takeAll_109 : decode cX6_takeAll 109 = .ok (.aload_n 0, 1) := by decide +kernel
theorem dX6_takeAll_110 : decode cX6_takeAll 110 = .ok (.getfield 18, 3) := by decide +kernel
theorem dX6_takeAll_113 : decode cX6_takeAll 113 = .ok (.iload_n 1, 1) := by decide +kernel
theorem dX6_takeAll_114 : decode cX6_takeAll 114 = .ok (.invokevirtual 56, 3) := by decide +kernel
theorem dX6_takeAll_117 : decode cX6_takeAll 117 = .ok (.aload_n 0, 1) := by decide +kernel
theorem dX6_takeAll_118 : decode cX6_takeAll 118 = .ok (.getfield 21, 3) := by decide +kernel
theorem dX6_takeAll_121 : decode cX6_takeAll 121 = .ok (.aload_n 0, 1) := by decide +kernel
theorem dX6_takeAll_122 : decode cX6_takeAll 122 = .ok (.getfield 60, 3) := by decide +kernel
theorem dX6_takeAll_125 : decode cX6_takeAll 125 = .ok (.invokevirtual 56, 3) := by decide +kernel
theorem dX6_takeAll_128 : decode cX6_takeAll 128 = .ok (.aload_n 0, 1) := by decide +kernel
theorem dX6_takeAll_129 : decode cX6_takeAll 129 = .ok (.getfield 24, 3) := by decide +kernel
theorem dX6_takeAll_132 : decode cX6_takeAll 132 = .ok (.aload_n 0, 1) := by decide +kernel
theorem dX6_takeAll_133 : decode cX6_takeAll 133 = .ok (.getfield 60, 3) := by decide +kernel
theorem dX6_takeAll_136 : decode cX6_takeAll 136 = .ok (.invokevirtual 43, 3) := by decide +kernel
theorem dX6_takeAll_139 : decode cX6_takeAll 139 = .ok (.istore_n 1, 1) := by decide +kernel
theorem dX6_takeAll_140 : decode cX6_takeAll 140 = .ok (.iinc 2 1, 3) := by decide +kernel
theorem dX6_takeAll_143 : decode cX6_takeAll 143 = .ok (.goto (-111), 3) := by decide +kernel
theorem dX6_takeAll_146 : decode cX6_takeAll 146 = .ok (.iconst 1, 1) := by decide +kernel
theorem dX6_takeAll_147 : decode cX6_takeAll 147 = .ok (.ireturn, 1) := by decide +kernel
theorem dX6_take_0 : decode cX6_take 0 = .ok (.aload_n 0, 1) := by decide +kernel
theorem dX6_take_1 : decode cX6_take 1 = .ok (.getfield 24, 3) := by decide +kernel
theorem dX6_take_4 : decode cX6_take 4 = .ok (.iload_n 1, 1) := by decide +kernel
theorem dX6_take_5 : decode cX6_take 5 = .ok (.invokevirtual 49, 3) := by decide +kernel
theorem dX6_take_8 : decode cX6_take 8 = .ok (.istore_n 2, 1) := by decide +kernel
theorem dX6_take_9 : decode cX6_take 9 = .ok (.iload_n 2, 1) := by decide +kernel
theorem dX6_take_10 : decode cX6_take 10 = .ok (.invokestatic 64, 3) := by decide +kernel
theorem dX6_take_13 : decode cX6_take 13 = .ok (.ifCond .eq 9, 3) := by decide +kernel
theorem dX6_take_16 : decode cX6_take 16 = .ok (.aload_n 0, 1) := by decide +kernel
theorem dX6_take_17 : decode cX6_take 17 = .ok (.iload_n 1, 1) := by decide +kernel
theorem dX6_take_18 : decode cX6_take 18 = .ok (.invokevirtual 68, 3) := by decide +kernel
theorem dX6_take_21 : decode cX6_take 21 = .ok (.ireturn, 1) := by decide +kernel
theorem dX6_take_22 : decode cX6_take 22 = .ok (.iload_n 2, 1) := by decide +kernel
theorem dX6_take_23 : decode cX6_take 23 = .ok (.invokestatic 71, 3) := by decide +kernel
theorem dX6_take_26 : decode cX6_take 26 = .ok (.ifCond .eq 32, 3) := by decide +kernel
theorem dX6_take_29 : decode cX6_take 29 = .ok (.aload_n 0, 1) := by decide +kernel
theorem dX6_take_30 : decode cX6_take 30 = .ok (.aload_n 0, 1) := by decide +kernel
theorem dX6_take_31 : decode cX6_take 31 = .ok (.getfield 24, 3) := by decide +kernel
theorem dX6_take_34 : decode cX6_take 34 = .ok (.iload_n 1, 1) := by decide +kernel
theorem dX6_take_35 : decode cX6_take 35 = .ok (.invokevirtual 74, 3) := by decide +kernel
theorem dX6_take_38 : decode cX6_take 38 = .ok (.putfield 60, 3) := by decide +kernel
theorem dX6_take_41 : decode cX6_take 41 = .ok (.aload_n 0, 1) := by decide +kernel
theorem dX6_take_42 : decode cX6_take 42 = .ok (.getfield 60, 3) := by decide +kernel
theorem dX6_take_45 : decode cX6_take 45 = .ok (.iload_n 1, 1) := by decide +kernel
theorem dX6_take_46 : decode cX6_take 46 = .ok (.isub, 1) := by decide +kernel
theorem dX6_take_47 : decode cX6_take 47 = .ok (.bipush 63, 2) := by decide +kernel
theorem dX6_take_49 : decode cX6_take 49 = .ok (.if_icmp .gt 7, 3) := by decide +kernel
theorem dX6_take_52 : decode cX6_take 52 = .ok (.iconst 1, 1) := by decide +kernel
theorem dX6_take_53 : decode cX6_take 53 = .ok (.goto 4, 3) := by decide +kernel
theorem dX6_take_56 : decode cX6_take 56 = .ok (.iconst (-1), 1) := by decide +kernel
theorem dX6_take_57 : decode cX6_take 57 = .ok (.ireturn, 1) := by decide +kernel
theorem dX6_take_58 : decode cX6_take 58 = .ok (.iload_n 2, 1) := by decide +kernel
theorem dX6_take_59 : decode cX6_take 59 = .ok (.bipush 39, 2) := by decide +kernel
theorem dX6_take_61 : decode cX6_take 61 = .ok (.if_icmp .ne 9, 3) := by decide +kernel
theorem dX6_take_64 : decode cX6_take 64 = .ok (.aload_n 0, 1) := by decide +kernel
theorem dX6_take_65 : decode cX6_take 65 = .ok (.iload_n 1, 1) := by decide +kernel
theorem dX6_take_66 : decode cX6_take 66 = .ok (.invokevirtual 77, 3) := by decide +kernel
theorem dX6_take_69 : decode cX6_take 69 = .ok (.ireturn, 1) := by decide +kernel
theorem dX6_take_70 : decode cX6_take 70 = .ok (.iload_n 2, 1) := by decide +kernel
theorem dX6_take_71 : decode cX6_take 71 = .ok (.bipush 34, 2) := by decide +kernel
theorem dX6_take_73 : decode cX6_take 73 = .ok (.if_icmp .ne 11, 3) := by decide +kernel
theorem dX6_take_76 : decode cX6_take 76 = .ok (.aload_n 0, 1) := by decide +kernel
theorem dX6_take_77 : decode cX6_take 77 = .ok (.iload_n 1, 1) := by decide +kernel
theorem dX6_take_78 : decode cX6_take 78 = .ok (.invokevirtual 80, 3) := by decide +kernel
theorem dX6_take_81 : decode cX6_take 81 = .ok (.goto 9, 3) := by decide +kernel
theorem dX6_take_84 : decode cX6_take 84 = .ok (.aload_n 0, 1) := by decide +kernel
theorem dX6_take_85 : decode cX6_take 85 = .ok (.iload_n 1, 1) := by decide +kernel
theorem dX6_take_86 : decode cX6_take 86 = .ok (.iload_n 2, 1) := by decide +kernel
theorem dX6_take_87 : decode cX6_take 87 = .ok (.invokevirtual 83, 3) := by decide +kernel
theorem dX6_take_90 : decode cX6_take 90 = .ok (.ireturn, 1) := by decide +kernel
theorem dX6_takeNumber_0 : decode cX6_takeNumber 0 = .ok (.bipush 10, 2) := by decide +kernel
theorem dX6_takeNumber_2 : decode cX6_takeNumber 2 = .ok (.istore_n 2, 1) := by decide +kernel
theorem dX6_takeNumber_3 : decode cX6_takeNumber 3 = .ok (.aload_n 0, 1) := by decide +kernel
theorem dX6_takeNumber_4 : decode cX6_takeNumber 4 = .ok (.getfield 24, 3) := by decide +kernel
theorem dX6_takeNumber_7 : decode cX6_takeNumber 7 = .ok (.iload_n 1, 1) := by decide +kernel
theorem dX6_takeNumber_8 : decode cX6_takeNumber 8 = .ok (.invokevirtual 49, 3) := by decide +kernel
theorem dX6_takeNumber_11 : decode cX6_takeNumber 11 = .ok (.bipush 48, 2) := by decide +kernel
theorem dX6_takeNumber_13 : decode cX6_takeNumber 13 = .ok (.if_icmp .ne 17, 3) := by decide +kernel
theorem dX6_takeNumber_16 : decode cX6_takeNumber 16 = .ok (.aload_n 0, 1) := by decide +kernel
theorem dX6_takeNumber_17 : decode cX6_takeNumber 17 = .ok (.getfield 24, 3) := by decide +kernel
theorem dX6_takeNumber_20 : decode cX6_takeNumber 20 = .ok (.iload_n 1, 1) := by decide +kernel
theorem dX6_takeNumber_21 : decode cX6_takeNumber 21 = .ok (.iconst 1, 1) := by decide +kernel
theorem dX6_takeNumber_22 : decode cX6_takeNumber 22 = .ok (.iadd, 1) := by decide +kernel
theorem dX6_takeNumber_23 : decode cX6_takeNumber 23 = .ok (.invokevirtual 49, 3) := by decide +kernel
theorem dX6_takeNumber_26 : decode cX6_takeNumber 26 = .ok (.invokestatic 87, 3) := by decide +kernel
theorem dX6_takeNumber_29 : decode cX6_takeNumber 29 = .ok (.istore_n 2, 1) := by decide +kernel
theorem dX6_takeNumber_30 : decode cX6_takeNumber 30 = .ok (.iload_n 2, 1) := by decide +kernel
theorem dX6_takeNumber_31 : decode cX6_takeNumber 31 = .ok (.bipush 10, 2) := by decide +kernel
theorem dX6_takeNumber_33 : decode cX6_takeNumber 33 = .ok (.if_icmp .ne 7, 3) := by decide +kernel
theorem dX6_takeNumber_36 : decode cX6_takeNumber 36 = .ok (.iload_n 1, 1) := by decide +kernel
theorem dX6_takeNumber_37 : decode cX6_takeNumber 37 = .ok (.goto 6, 3) := by decide +kernel
theorem dX6_takeNumber_40 : decode cX6_takeNumber 40 = .ok (.iload_n 1, 1) := by decide +kernel
theorem dX6_takeNumber_41 : decode cX6_takeNumber 41 = .ok (.iconst 2, 1) := by decide +kernel
theorem dX6_takeNumber_42 : decode cX6_takeNumber 42 = .ok (.iadd, 1) := by decide +kernel
theorem dX6_takeNumber_43 : decode cX6_takeNumber 43 = .ok (.istore_n 3, 1) := by decide +kernel
theorem dX6_takeNumber_44 : decode cX6_takeNumber 44 = .ok (.iconst 1, 1) := by decide +kernel
theorem dX6_takeNumber_45 : decode cX6_takeNumber 45 = .ok (.istore 4, 2) := by decide +kernel
theorem dX6_takeNumber_47 : decode cX6_takeNumber 47 = .ok (.aload_n 0, 1) := by decide +kernel
theorem dX6_takeNumber_48 : decode cX6_takeNumber 48 = .ok (.lconst 0, 1) := by decide +kernel
theorem dX6_takeNumber_49 : decode cX6_takeNumber 49 = .ok (.putfield 53, 3) := by decide +kernel
theorem dX6_takeNumber_52 : decode cX6_takeNumber 52 = .ok (.aload_n 0, 1) := by decide +kernel
theorem dX6_takeNumber_53 : decode cX6_takeNumber 53 = .ok (.iload_n 3, 1) := by decide +kernel
theorem dX6_takeNumber_54 : decode cX6_takeNumber 54 = .ok (.putfield 60, 3) := by decide +kernel
theorem dX6_takeNumber_57 : decode cX6_takeNumber 57 = .ok (.aload_n 0, 1) := by decide +kernel
theorem dX6_takeNumber_58 : decode cX6_takeNumber 58 = .ok (.getfield 60, 3) := by decide +kernel
theorem dX6_takeNumber_61 : decode cX6_takeNumber 61 = .ok (.aload_n 0, 1) := by decide +kernel
theorem dX6_takeNumber_62 : decode cX6_takeNumber 62 = .ok (.getfield 24, 3) := by decide +kernel
theorem dX6_takeNumber_65 : decode cX6_takeNumber 65 = .ok (.invokevirtual 48, 3) := by decide +kernel
theorem dX6_takeNumber_68 : decode cX6_takeNumber 68 = .ok (.if_icmp .ge 88, 3) := by decide +kernel
theorem dX6_takeNumber_71 : decode cX6_takeNumber 71 = .ok (.iload_n 2, 1) := by decide +kernel
theorem dX6_takeNumber_72 : decode cX6_takeNumber 72 = .ok (.aload_n 0, 1) := by decide +kernel
theorem dX6_takeNumber_73 : decode cX6_takeNumber 73 = .ok (.getfield 24, 3) := by decide +kernel
theorem dX6_takeNumber_76 : decode cX6_takeNumber 76 = .ok (.aload_n 0, 1) := by decide +kernel
theorem dX6_takeNumber_77 : decode cX6_takeNumber 77 = .ok (.getfield 60, 3) := by decide +kernel
theorem dX6_takeNumber_80 : decode cX6_takeNumber 80 = .ok (.invokevirtual 49, 3) := by decide +kernel
theorem dX6_takeNumber_83 : decode cX6_takeNumber 83 = .ok (.invokestatic 90, 3) := by decide +kernel
theorem dX6_takeNumber_86 : decode cX6_takeNumber 86 = .ok (.ifCond .lt 70, 3) := by decide +kernel
theorem dX6_takeNumber_89 : decode cX6_takeNumber 89 = .ok (.iload_n 2, 1) := by decide +kernel
theorem dX6_takeNumber_90 : decode cX6_takeNumber 90 = .ok (.aload_n 0, 1) := by decide +kernel
theorem dX6_takeNumber_91 : decode cX6_takeNumber 91 = .ok (.getfield 24, 3) := by decide +kernel
theorem dX6_takeNumber_94 : decode cX6_takeNumber 94 = .ok (.aload_n 0, 1) := by decide +kernel
theorem dX6_takeNumber_95 : decode cX6_takeNumber 95 = .ok (.getfield 60, 3) := by decide +kernel
theorem dX6_takeNumber_98 : decode cX6_takeNumber 98 = .ok (.invokevirtual 49, 3) := by decide +kernel
theorem dX6_takeNumber_101 : decode cX6_takeNumber 101 = .ok (.invokestatic 90, 3) := by decide +kernel
theorem dX6_takeNumber_104 : decode cX6_takeNumber 104 = .ok (.istore 5, 2) := by decide +kernel
theorem dX6_takeNumber_106 : decode cX6_takeNumber 106 = .ok (.iload 4, 2) := by decide +kernel
theorem dX6_takeNumber_108 : decode cX6_takeNumber 108 = .ok (.ifCond .eq 17, 3) := by decide +kernel
theorem dX6_takeNumber_111 : decode cX6_takeNumber 111 = .ok (.aload_n 0, 1) := by decide +kernel
theorem dX6_takeNumber_112 : decode cX6_takeNumber 112 = .ok (.iload_n 2, 1) := by decide +kernel
theorem dX6_takeNumber_113 : decode cX6_takeNumber 113 = .ok (.iload 5, 2) := by decide +kernel
theorem dX6_takeNumber_115 : decode cX6_takeNumber 115 = .ok (.invokevirtual 93, 3) := by decide +kernel
theorem dX6_takeNumber_118 : decode cX6_takeNumber 118 = .ok (.ifCond .eq 7, 3) := by decide +kernel
theorem dX6_takeNumber_121 : decode cX6_takeNumber 121 = .ok (.iconst 1, 1) := by decide +kernel
theorem dX6_takeNumber_122 : decode cX6_takeNumber 122 = .ok (.goto 4, 3) := by decide +kernel
theorem dX6_takeNumber_125 : decode cX6_takeNumber 125 = .ok (.iconst 0, 1) := by decide +kernel
theorem dX6_takeNumber_126 : decode cX6_takeNumber 126 = .ok (.istore 4, 2) := by decide +kernel
theorem dX6_takeNumber_128 : decode cX6_takeNumber 128 = .ok (.aload_n 0, 1) := by decide +kernel
theorem dX6_takeNumber_129 : decode cX6_takeNumber 129 = .ok (.aload_n 0, 1) := by decide +kernel
theorem dX6_takeNumber_130 : decode cX6_takeNumber 130 = .ok (.getfield 53, 3) := by decide +kernel
theorem dX6_takeNumber_133 : decode cX6_takeNumber 133 = .ok (.iload_n 2, 1) := by decide +kernel
theorem dX6_takeNumber_134 : decode cX6_takeNumber 134 = .ok (.i2l, 1) := by decide +kernel
theorem dX6_takeNumber_135 : decode cX6_takeNumber 135 = .ok (.lmul, 1) := by decide +kernel
theorem dX6_takeNumber_136 : decode cX6_takeNumber 136 = .ok (.iload 5, 2) := by decide +kernel
theorem dX6_takeNumber_138 : decode cX6_takeNumber 138 = .ok (.i2l, 1) := by decide +kernel
theorem dX6_takeNumber_139 : decode cX6_takeNumber 139 = .ok (.ladd, 1) := by decide +kernel
theorem dX6_takeNumber_140 : decode cX6_takeNumber 140 = .ok (.putfield 53, 3) := by decide +kernel
theorem dX6_takeNumber_143 : decode cX6_takeNumber 143 = .ok (.aload_n 0, 1) := by decide +kernel
theorem dX6_takeNumber_144 : decode cX6_takeNumber 144 = .ok (.dup, 1) := by decide +kernel
theorem dX6_takeNumber_145 : decode cX6_takeNumber 145 = .ok (.getfield 60, 3) := by decide +kernel
theorem dX6_takeNumber_148 : decode cX6_takeNumber 148 = .ok (.iconst 1, 1) := by decide +kernel
theorem dX6_takeNumber_149 : decode cX6_takeNumber 149 = .ok (.iadd, 1) := by decide +kernel
theorem dX6_takeNumber_150 : decode cX6_takeNumber 150 = .ok (.putfield 60, 3) := by decide +kernel
theorem dX6_takeNumber_153 : decode cX6_takeNumber 153 = .ok (.goto (-96), 3) := by decide +kernel
theorem dX6_takeNumber_156 : decode cX6_takeNumber 156 = .ok (.iload 4, 2) := by decide +kernel
theorem dX6_takeNumber_158 : decode cX6_takeNumber 158 = .ok (.ifCond .eq 32, 3) := by decide +kernel
theorem dX6_takeNumber_161 : decode cX6_takeNumber 161 = .ok (.aload_n 0, 1) := by decide +kernel
theorem dX6_takeNumber_162 : decode cX6_takeNumber 162 = .ok (.getfield 60, 3) := by decide +kernel
theorem dX6_takeNumber_165 : decode cX6_takeNumber 165 = .ok (.iload_n 3, 1) := by decide +kernel
theorem dX6_takeNumber_166 : decode cX6_takeNumber 166 = .ok (.if_icmp .le 24, 3) := by decide +kernel
theorem dX6_takeNumber_169 : decode cX6_takeNumber 169 = .ok (.aload_n 0, 1) := by decide +kernel
theorem dX6_takeNumber_170 : decode cX6_takeNumber 170 = .ok (.getfield 24, 3) := by decide +kernel
theorem dX6_takeNumber_173 : decode cX6_takeNumber 173 = .ok (.aload_n 0, 1) := by decide +kernel
theorem dX6_takeNumber_174 : decode cX6_takeNumber 174 = .ok (.getfield 60, 3) := by decide +kernel
theorem dX6_takeNumber_177 : decode cX6_takeNumber 177 = .ok (.invokevirtual 49, 3) := by decide +kernel
theorem dX6_takeNumber_180 : decode cX6_takeNumber 180 = .ok (.invokestatic 71, 3) := by decide +kernel
theorem dX6_takeNumber_183 : decode cX6_takeNumber 183 = .ok (.ifCond .ne 7, 3) := by decide +kernel
theorem dX6_takeNumber_186 : decode cX6_takeNumber 186 = .ok (.iconst 2, 1) := by decide +kernel
theorem dX6_takeNumber_187 : decode cX6_takeNumber 187 = .ok (.goto 4, 3) := by decide +kernel
theorem dX6_takeNumber_190 : decode cX6_takeNumber 190 = .ok (.iconst (-1), 1) := by decide +kernel
theorem dX6_takeNumber_191 : decode cX6_takeNumber 191 = .ok (.ireturn, 1) := by decide +kernel
theorem dX6_baseMarked_0 : decode cX6_baseMarked 0 = .ok (.iload_n 0, 1) := by decide +kernel
theorem dX6_baseMarked_1 : decode cX6_baseMarked 1 = .ok (.bipush 120, 2) := by decide +kernel
theorem dX6_baseMarked_3 : decode cX6_baseMarked 3 = .ok (.if_icmp .ne 6, 3) := by decide +kernel
theorem dX6_baseMarked_6 : decode cX6_baseMarked 6 = .ok (.bipush 16, 2) := by decide +kernel
theorem dX6_baseMarked_8 : decode cX6_baseMarked 8 = .ok (.ireturn, 1) := by decide +kernel
theorem dX6_baseMarked_9 : decode cX6_baseMarked 9 = .ok (.iload_n 0, 1) := by decide +kernel
theorem dX6_baseMarked_10 : decode cX6_baseMarked 10 = .ok (.bipush 98, 2) := by decide +kernel
theorem dX6_baseMarked_12 : decode cX6_baseMarked 12 = .ok (.if_icmp .ne 7, 3) := by decide +kernel
theorem dX6_baseMarked_15 : decode cX6_baseMarked 15 = .ok (.iconst 2, 1) := by decide +kernel
theorem dX6_baseMarked_16 : decode cX6_baseMarked 16 = .ok (.goto 5, 3) := by decide +kernel
theorem dX6_baseMarked_19 : decode cX6_baseMarked 19 = .ok (.bipush 10, 2) := by decide +kernel
theorem dX6_baseMarked_21 : decode cX6_baseMarked 21 = .ok (.ireturn, 1) := by decide +kernel
theorem dX6_hasRoom_0 : decode cX6_hasRoom 0 = .ok (.iload_n 1, 1) := by decide +kernel
theorem dX6_hasRoom_1 : decode cX6_hasRoom 1 = .ok (.bipush 16, 2) := by decide +kernel
theorem dX6_hasRoom_3 : decode cX6_hasRoom 3 = .ok (.if_icmp .ne 21, 3) := by decide +kernel
theorem dX6_hasRoom_6 : decode cX6_hasRoom 6 = .ok (.aload_n 0, 1) := by decide +kernel
theorem dX6_hasRoom_7 : decode cX6_hasRoom 7 = .ok (.getfield 53, 3) := by decide +kernel
theorem dX6_hasRoom_10 : decode cX6_hasRoom 10 = .ok (.bipush 60, 2) := by decide +kernel
theorem dX6_hasRoom_12 : decode cX6_hasRoom 12 = .ok (.lushr, 1) := by decide +kernel
theorem dX6_hasRoom_13 : decode cX6_hasRoom 13 = .ok (.lconst 0, 1) := by decide +kernel
theorem dX6_hasRoom_14 : decode cX6_hasRoom 14 = .ok (.lcmp, 1) := by decide +kernel
theorem dX6_hasRoom_15 : decode cX6_hasRoom 15 = .ok (.ifCond .ne 7, 3) := by decide +kernel
theorem dX6_hasRoom_18 : decode cX6_hasRoom 18 = .ok (.iconst 1, 1) := by decide +kernel
theorem dX6_hasRoom_19 : decode cX6_hasRoom 19 = .ok (.goto 4, 3) := by decide +kernel
theorem dX6_hasRoom_22 : decode cX6_hasRoom 22 = .ok (.iconst 0, 1) := by decide +kernel
theorem dX6_hasRoom_23 : decode cX6_hasRoom 23 = .ok (.ireturn, 1) := by decide +kernel
theorem dX6_hasRoom_24 : decode cX6_hasRoom 24 = .ok (.iload_n 1, 1) := by decide +kernel
theorem dX6_hasRoom_25 : decode cX6_hasRoom 25 = .ok (.iconst 2, 1) := by decide +kernel
theorem dX6_hasRoom_26 : decode cX6_hasRoom 26 = .ok (.if_icmp .ne 21, 3) := by decide +kernel
theorem dX6_hasRoom_29 : decode cX6_hasRoom 29 = .ok (.aload_n 0, 1) := by decide +kernel
theorem dX6_hasRoom_30 : decode cX6_hasRoom 30 = .ok (.getfield 53, 3) := by decide +kernel
theorem dX6_hasRoom_33 : decode cX6_hasRoom 33 = .ok (.bipush 63, 2) := by decide +kernel
theorem dX6_hasRoom_35 : decode cX6_hasRoom 35 = .ok (.lushr, 1) := by decide +kernel
theorem dX6_hasRoom_36 : decode cX6_hasRoom 36 = .ok (.lconst 0, 1) := by decide +kernel
theorem dX6_hasRoom_37 : decode cX6_hasRoom 37 = .ok (.lcmp, 1) := by decide +kernel
theorem dX6_hasRoom_38 : decode cX6_hasRoom 38 = .ok (.ifCond .ne 7, 3) := by decide +kernel
theorem dX6_hasRoom_41 : decode cX6_hasRoom 41 = .ok (.iconst 1, 1) := by decide +kernel
theorem dX6_hasRoom_42 : decode cX6_hasRoom 42 = .ok (.goto 4, 3) := by decide +kernel
theorem dX6_hasRoom_45 : decode cX6_hasRoom 45 = .ok (.iconst 0, 1) := by decide +kernel
theorem dX6_hasRoom_46 : decode cX6_hasRoom 46 = .ok (.ireturn, 1) := by decide +kernel
theorem dX6_hasRoom_47 : decode cX6_hasRoom 47 = .ok (.ldc2_w 97, 3) := by decide +kernel
theorem dX6_hasRoom_50 : decode cX6_hasRoom 50 = .ok (.lstore_n 3, 1) := by decide +kernel
theorem dX6_hasRoom_51 : decode cX6_hasRoom 51 = .ok (.aload_n 0, 1) := by decide +kernel
theorem dX6_hasRoom_52 : decode cX6_hasRoom 52 = .ok (.getfield 53, 3) := by decide +kernel
theorem dX6_hasRoom_55 : decode cX6_hasRoom 55 = .ok (.lconst 0, 1) := by decide +kernel
theorem dX6_hasRoom_56 : decode cX6_hasRoom 56 = .ok (.lcmp, 1) := by decide +kernel
theorem dX6_hasRoom_57 : decode cX6_hasRoom 57 = .ok (.ifCond .lt 30, 3) := by decide +kernel
theorem dX6_hasRoom_60 : decode cX6_hasRoom 60 = .ok (.aload_n 0, 1) := by decide +kernel
theorem dX6_hasRoom_61 : decode cX6_hasRoom 61 = .ok (.getfield 53, 3) := by decide +kernel
theorem dX6_hasRoom_64 : decode cX6_hasRoom 64 = .ok (.lload_n 3, 1) := by decide +kernel
theorem dX6_hasRoom_65 : decode cX6_hasRoom 65 = .ok (.lcmp, 1) := by decide +kernel
theorem dX6_hasRoom_66 : decode cX6_hasRoom 66 = .ok (.ifCond .lt 17, 3) := by decide +kernel
theorem dX6_hasRoom_69 : decode cX6_hasRoom 69 = .ok (.aload_n 0, 1) := by decide +kernel
theorem dX6_hasRoom_70 : decode cX6_hasRoom 70 = .ok (.getfield 53, 3) := by decide +kernel
theorem dX6_hasRoom_73 : decode cX6_hasRoom 73 = .ok (.lload_n 3, 1) := by decide +kernel
theorem dX6_hasRoom_74 : decode cX6_hasRoom 74 = .ok (.lcmp, 1) := by decide +kernel
theorem dX6_hasRoom_75 : decode cX6_hasRoom 75 = .ok (.ifCond .ne 12, 3) := by decide +kernel
theorem dX6_hasRoom_78 : decode cX6_hasRoom 78 = .ok (.iload_n 2, 1) := by decide +kernel
theorem dX6_hasRoom_79 : decode cX6_hasRoom 79 = .ok (.iconst 5, 1) := by decide +kernel
theorem dX6_hasRoom_80 : decode cX6_hasRoom 80 = .ok (.if_icmp .gt 7, 3) := by decide +kernel
theorem dX6_hasRoom_83 : decode cX6_hasRoom 83 = .ok (.iconst 1, 1) := by decide +kernel
theorem dX6_hasRoom_84 : decode cX6_hasRoom 84 = .ok (.goto 4, 3) := by decide +kernel
theorem dX6_hasRoom_87 : decode cX6_hasRoom 87 = .ok (.iconst 0, 1) := by decide +kernel
theorem dX6_hasRoom_88 : decode cX6_hasRoom 88 = .ok (.ireturn, 1) := by decide +kernel
theorem dX6_takeCharacter_0 : decode cX6_takeCharacter 0 = .ok (.aload_n 0, 1) := by decide +kernel
theorem dX6_takeCharacter_1 : decode cX6_takeCharacter 1 = .ok (.iload_n 1, 1) := by decide +kernel
theorem dX6_takeCharacter_2 : decode cX6_takeCharacter 2 = .ok (.iconst 1, 1) := by decide +kernel
theorem dX6_takeCharacter_3 : decode cX6_takeCharacter 3 = .ok (.iadd, 1) := by decide +kernel
theorem dX6_takeCharacter_4 : decode cX6_takeCharacter 4 = .ok (.bipush 39, 2) := by decide +kernel
theorem dX6_takeCharacter_6 : decode cX6_takeCharacter 6 = .ok (.invokevirtual 99, 3) := by decide +kernel
theorem dX6_takeCharacter_9 : decode cX6_takeCharacter 9 = .ok (.istore_n 2, 1) := by decide +kernel
theorem dX6_takeCharacter_10 : decode cX6_takeCharacter 10 = .ok (.iload_n 2, 1) := by decide +kernel
theorem dX6_takeCharacter_11 : decode cX6_takeCharacter 11 = .ok (.ifCond .lt 32, 3) := by decide +kernel
theorem dX6_takeCharacter_14 : decode cX6_takeCharacter 14 = .ok (.aload_n 0, 1) := by decide +kernel
theorem dX6_takeCharacter_15 : decode cX6_takeCharacter 15 = .ok (.getfield 24, 3) := by decide +kernel
theorem dX6_takeCharacter_18 : decode cX6_takeCharacter 18 = .ok (.iload_n 2, 1) := by decide +kernel
theorem dX6_takeCharacter_19 : decode cX6_takeCharacter 19 = .ok (.invokevirtual 49, 3) := by decide +kernel
theorem dX6_takeCharacter_22 : decode cX6_takeCharacter 22 = .ok (.bipush 39, 2) := by decide +kernel
theorem dX6_takeCharacter_24 : decode cX6_takeCharacter 24 = .ok (.if_icmp .ne 19, 3) := by decide +kernel
theorem dX6_takeCharacter_27 : decode cX6_takeCharacter 27 = .ok (.aload_n 0, 1) := by decide +kernel
theorem dX6_takeCharacter_28 : decode cX6_takeCharacter 28 = .ok (.getfield 24, 3) := by decide +kernel
theorem dX6_takeCharacter_31 : decode cX6_takeCharacter 31 = .ok (.iload_n 2, 1) := by decide +kernel
theorem dX6_takeCharacter_32 : decode cX6_takeCharacter 32 = .ok (.iconst 1, 1) := by decide +kernel
theorem dX6_takeCharacter_33 : decode cX6_takeCharacter 33 = .ok (.iadd, 1) := by decide +kernel
theorem dX6_takeCharacter_34 : decode cX6_takeCharacter 34 = .ok (.invokevirtual 49, 3) := by decide +kernel
theorem dX6_takeCharacter_37 : decode cX6_takeCharacter 37 = .ok (.invokestatic 71, 3) := by decide +kernel
theorem dX6_takeCharacter_40 : decode cX6_takeCharacter 40 = .ok (.ifCond .eq 5, 3) := by decide +kernel
theorem dX6_takeCharacter_43 : decode cX6_takeCharacter 43 = .ok (.iconst (-1), 1) := by decide +kernel
theorem dX6_takeCharacter_44 : decode cX6_takeCharacter 44 = .ok (.ireturn, 1) := by decide +kernel
theorem dX6_takeCharacter_45 : decode cX6_takeCharacter 45 = .ok (.aload_n 0, 1) := by decide +kernel
theorem dX6_takeCharacter_46 : decode cX6_takeCharacter 46 = .ok (.iload_n 2, 1) := by decide +kernel
theorem dX6_takeCharacter_47 : decode cX6_takeCharacter 47 = .ok (.iconst 1, 1) := by decide +kernel
theorem dX6_takeCharacter_48 : decode cX6_takeCharacter 48 = .ok (.iadd, 1) := by decide +kernel
theorem dX6_takeCharacter_49 : decode cX6_takeCharacter 49 = .ok (.putfield 60, 3) := by decide +kernel
theorem dX6_takeCharacter_52 : decode cX6_takeCharacter 52 = .ok (.iconst 2, 1) := by decide +kernel
theorem dX6_takeCharacter_53 : decode cX6_takeCharacter 53 = .ok (.ireturn, 1) := by decide +kernel
theorem dX6_takeText_0 : decode cX6_takeText 0 = .ok (.iload_n 1, 1) := by decide +kernel
theorem dX6_takeText_1 : decode cX6_takeText 1 = .ok (.iconst 1, 1) := by decide +kernel
theorem dX6_takeText_2 : decode cX6_takeText 2 = .ok (.iadd, 1) := by decide +kernel
theorem dX6_takeText_3 : decode cX6_takeText 3 = .ok (.istore_n 2, 1) := by decide +kernel
theorem dX6_takeText_4 : decode cX6_takeText 4 = .ok (.iconst 0, 1) := by decide +kernel
theorem dX6_takeText_5 : decode cX6_takeText 5 = .ok (.istore_n 3, 1) := by decide +kernel
theorem dX6_takeText_6 : decode cX6_takeText 6 = .ok (.iload_n 3, 1) := by decide +kernel
theorem dX6_takeText_7 : decode cX6_takeText 7 = .ok (.aload_n 0, 1) := by decide +kernel
theorem dX6_takeText_8 : decode cX6_takeText 8 = .ok (.getfield 24, 3) := by decide +kernel
theorem dX6_takeText_11 : decode cX6_takeText 11 = .ok (.invokevirtual 48, 3) := by decide +kernel
theorem dX6_takeText_14 : decode cX6_takeText 14 = .ok (.if_icmp .ge 45, 3) := by decide +kernel
theorem dX6_takeText_17 : decode cX6_takeText 17 = .ok (.aload_n 0, 1) := by decide +kernel
theorem dX6_takeText_18 : decode cX6_takeText 18 = .ok (.getfield 24, 3) := by decide +kernel
theorem dX6_takeText_21 : decode cX6_takeText 21 = .ok (.iload_n 2, 1) := by decide +kernel
theorem dX6_takeText_22 : decode cX6_takeText 22 = .ok (.invokevirtual 49, 3) := by decide +kernel
theorem dX6_takeText_25 : decode cX6_takeText 25 = .ok (.bipush 34, 2) := by decide +kernel
theorem dX6_takeText_27 : decode cX6_takeText 27 = .ok (.if_icmp .ne 12, 3) := by decide +kernel
theorem dX6_takeText_30 : decode cX6_takeText 30 = .ok (.aload_n 0, 1) := by decide +kernel
theorem dX6_takeText_31 : decode cX6_takeText 31 = .ok (.iload_n 2, 1) := by decide +kernel
theorem dX6_takeText_32 : decode cX6_takeText 32 = .ok (.iconst 1, 1) := by decide +kernel
theorem dX6_takeText_33 : decode cX6_takeText 33 = .ok (.iadd, 1) := by decide +kernel
theorem dX6_takeText_34 : decode cX6_takeText 34 = .ok (.putfield 60, 3) := by decide +kernel
theorem dX6_takeText_37 : decode cX6_takeText 37 = .ok (.iconst 3, 1) := by decide +kernel
theorem dX6_takeText_38 : decode cX6_takeText 38 = .ok (.ireturn, 1) := by decide +kernel
theorem dX6_takeText_39 : decode cX6_takeText 39 = .ok (.aload_n 0, 1) := by decide +kernel
theorem dX6_takeText_40 : decode cX6_takeText 40 = .ok (.iload_n 2, 1) := by decide +kernel
theorem dX6_takeText_41 : decode cX6_takeText 41 = .ok (.bipush 34, 2) := by decide +kernel
theorem dX6_takeText_43 : decode cX6_takeText 43 = .ok (.invokevirtual 99, 3) := by decide +kernel
theorem dX6_takeText_46 : decode cX6_takeText 46 = .ok (.istore_n 2, 1) := by decide +kernel
theorem dX6_takeText_47 : decode cX6_takeText 47 = .ok (.iload_n 2, 1) := by decide +kernel
theorem dX6_takeText_48 : decode cX6_takeText 48 = .ok (.ifCond .ge 5, 3) := by decide +kernel
theorem dX6_takeText_51 : decode cX6_takeText 51 = .ok (.iconst (-1), 1) := by decide +kernel
theorem dX6_takeText_52 : decode cX6_takeText 52 = .ok (.ireturn, 1) := by decide +kernel
theorem dX6_takeText_53 : decode cX6_takeText 53 = .ok (.iinc 3 1, 3) := by decide +kernel
theorem dX6_takeText_56 : decode cX6_takeText 56 = .ok (.goto (-50), 3) := by decide +kernel
theorem dX6_takeText_59 : decode cX6_takeText 59 = .ok (.iconst (-1), 1) := by decide +kernel
theorem dX6_takeText_60 : decode cX6_takeText 60 = .ok (.ireturn, 1) := by decide +kernel
theorem dX6_behindCharacter_0 : decode cX6_behindCharacter 0 = .ok (.aload_n 0, 1) := by decide +kernel
theorem dX6_behindCharacter_1 : decode cX6_behindCharacter 1 = .ok (.getfield 24, 3) := by decide +kernel
theorem dX6_behindCharacter_4 : decode cX6_behindCharacter 4 = .ok (.iload_n 1, 1) := by decide +kernel
theorem dX6_behindCharacter_5 : decode cX6_behindCharacter 5 = .ok (.invokevirtual 49, 3) := by decide +kernel
theorem dX6_behindCharacter_8 : decode cX6_behindCharacter 8 = .ok (.istore_n 3, 1) := by decide +kernel
theorem dX6_behindCharacter_9 : decode cX6_behindCharacter 9 = .ok (.iload_n 3, 1) := by decide +kernel
theorem dX6_behindCharacter_10 : decode cX6_behindCharacter 10 = .ok (.invokestatic 102, 3) := by decide +kernel
theorem dX6_behindCharacter_13 : decode cX6_behindCharacter 13 = .ok (.ifCond .eq 8, 3) := by decide +kernel
theorem dX6_behindCharacter_16 : decode cX6_behindCharacter 16 = .ok (.iload_n 3, 1) := by decide +kernel
theorem dX6_behindCharacter_17 : decode cX6_behindCharacter 17 = .ok (.iload_n 2, 1) := by decide +kernel
theorem dX6_behindCharacter_18 : decode cX6_behindCharacter 18 = .ok (.if_icmp .ne 5, 3) := by decide +kernel
theorem dX6_behindCharacter_21 : decode cX6_behindCharacter 21 = .ok (.iconst (-1), 1) := by decide +kernel
theorem dX6_behindCharacter_22 : decode cX6_behindCharacter 22 = .ok (.ireturn, 1) := by decide +kernel
theorem dX6_behindCharacter_23 : decode cX6_behindCharacter 23 = .ok (.iload_n 3, 1) := by decide +kernel
theorem dX6_behindCharacter_24 : decode cX6_behindCharacter 24 = .ok (.bipush 92, 2) := by decide +kernel
theorem dX6_behindCharacter_26 : decode cX6_behindCharacter 26 = .ok (.if_icmp .eq 13, 3) := by decide +kernel
theorem dX6_behindCharacter_29 : decode cX6_behindCharacter 29 = .ok (.aload_n 0, 1) := by decide +kernel
theorem dX6_behindCharacter_30 : decode cX6_behindCharacter 30 = .ok (.iload_n 3, 1) := by decide +kernel
theorem dX6_behindCharacter_31 : decode cX6_behindCharacter 31 = .ok (.i2l, 1) := by decide +kernel
theorem dX6_behindCharacter_32 : decode cX6_behindCharacter 32 = .ok (.putfield 53, 3) := by decide +kernel
theorem dX6_behindCharacter_35 : decode cX6_behindCharacter 35 = .ok (.iload_n 1, 1) := by decide +kernel
theorem dX6_behindCharacter_36 : decode cX6_behindCharacter 36 = .ok (.iconst 1, 1) := by decide +kernel
theorem dX6_behindCharacter_37 : decode cX6_behindCharacter 37 = .ok (.iadd, 1) := by decide +kernel
theorem dX6_behindCharacter_38 : decode cX6_behindCharacter 38 = .ok (.ireturn, 1) := by decide +kernel
theorem dX6_behindCharacter_39 : decode cX6_behindCharacter 39 = .ok (.aload_n 0, 1) := by decide +kernel
theorem dX6_behindCharacter_40 : decode cX6_behindCharacter 40 = .ok (.getfield 24, 3) := by decide +kernel
theorem dX6_behindCharacter_43 : decode cX6_behindCharacter 43 = .ok (.iload_n 1, 1) := by decide +kernel
theorem dX6_behindCharacter_44 : decode cX6_behindCharacter 44 = .ok (.iconst 1, 1) := by decide +kernel
theorem dX6_behindCharacter_45 : decode cX6_behindCharacter 45 = .ok (.iadd, 1) := by decide +kernel
theorem dX6_behindCharacter_46 : decode cX6_behindCharacter 46 = .ok (.invokevirtual 49, 3) := by decide +kernel
theorem dX6_behindCharacter_49 : decode cX6_behindCharacter 49 = .ok (.istore 4, 2) := by decide +kernel
theorem dX6_behindCharacter_51 : decode cX6_behindCharacter 51 = .ok (.iload 4, 2) := by decide +kernel
theorem dX6_behindCharacter_53 : decode cX6_behindCharacter 53 = .ok (.invokestatic 102, 3) := by decide +kernel
theorem dX6_behindCharacter_56 : decode cX6_behindCharacter 56 = .ok (.ifCond .ne 5, 3) := by decide +kernel
theorem dX6_behindCharacter_59 : decode cX6_behindCharacter 59 = .ok (.iconst (-1), 1) := by decide +kernel
theorem dX6_behindCharacter_60 : decode cX6_behindCharacter 60 = .ok (.ireturn, 1) := by decide +kernel
theorem dX6_behindCharacter_61 : decode cX6_behindCharacter 61 = .ok (.aload_n 0, 1) := by decide +kernel
theorem dX6_behindCharacter_62 : decode cX6_behindCharacter 62 = .ok (.iload 4, 2) := by decide +kernel
theorem dX6_behindCharacter_64 : decode cX6_behindCharacter 64 = .ok (.invokestatic 105, 3) := by decide +kernel
theorem dX6_behindCharacter_67 : decode cX6_behindCharacter 67 = .ok (.i2l, 1) := by decide +kernel
theorem dX6_behindCharacter_68 : decode cX6_behindCharacter 68 = .ok (.putfield 53, 3) := by decide +kernel
theorem dX6_behindCharacter_71 : decode cX6_behindCharacter 71 = .ok (.iload_n 1, 1) := by decide +kernel
theorem dX6_behindCharacter_72 : decode cX6_behindCharacter 72 = .ok (.iconst 2, 1) := by decide +kernel
theorem dX6_behindCharacter_73 : decode cX6_behindCharacter 73 = .ok (.iadd, 1) := by decide +kernel
theorem dX6_behindCharacter_74 : decode cX6_behindCharacter 74 = .ok (.ireturn, 1) := by decide +kernel
theorem dX6_worthOfEscape_0 : decode cX6_worthOfEscape 0 = .ok (.iload_n 0, 1) := by decide +kernel
theorem dX6_worthOfEscape_1 : decode cX6_worthOfEscape 1 = .ok (.lookupswitch 43 #[(48, 41), (110, 35), (116, 38)], 35) := by decide +kernel
theorem dX6_worthOfEscape_36 : decode cX6_worthOfEscape 36 = .ok (.bipush 10, 2) := by decide +kernel
theorem dX6_worthOfEscape_38 : decode cX6_worthOfEscape 38 = .ok (.ireturn, 1) := by decide +kernel
theorem dX6_worthOfEscape_39 : decode cX6_worthOfEscape 39 = .ok (.bipush 9, 2) := by decide +kernel
theorem dX6_worthOfEscape_41 : decode cX6_worthOfEscape 41 = .ok (.ireturn, 1) := by decide +kernel
theorem dX6_worthOfEscape_42 : decode cX6_worthOfEscape 42 = .ok (.iconst 0, 1) := by decide +kernel
theorem dX6_worthOfEscape_43 : decode cX6_worthOfEscape 43 = .ok (.ireturn, 1) := by decide +kernel
theorem dX6_worthOfEscape_44 : decode cX6_worthOfEscape 44 = .ok (.iload_n 0, 1) := by decide +kernel
theorem dX6_worthOfEscape_45 : decode cX6_worthOfEscape 45 = .ok (.ireturn, 1) := by decide +kernel
theorem dX6_takeSign_0 : decode cX6_takeSign 0 = .ok (.aload_n 0, 1) := by decide +kernel
theorem dX6_takeSign_1 : decode cX6_takeSign 1 = .ok (.iload_n 1, 1) := by decide +kernel
theorem dX6_takeSign_2 : decode cX6_takeSign 2 = .ok (.iconst 1, 1) := by decide +kernel
theorem dX6_takeSign_3 : decode cX6_takeSign 3 = .ok (.iadd, 1) := by decide +kernel
theorem dX6_takeSign_4 : decode cX6_takeSign 4 = .ok (.putfield 60, 3) := by decide +kernel
theorem dX6_takeSign_7 : decode cX6_takeSign 7 = .ok (.iload_n 2, 1) := by decide +kernel
theorem dX6_takeSign_8 : decode cX6_takeSign 8 = .ok (.lookupswitch 185 #[(36, 156), (37, 156), (38, 156), (40, 156), (41, 156), (42, 156), (43, 156), (44, 156), (45, 156), (47, 156), (58, 156), (60, 158), (62, 158), (91, 156), (93, 156), (94, 156), (124, 156), (126, 156)], 156) := by decide +kernel
theorem dX6_takeSign_164 : decode cX6_takeSign 164 = .ok (.iload_n 2, 1) := by decide +kernel
theorem dX6_takeSign_165 : decode cX6_takeSign 165 = .ok (.ireturn, 1) := by decide +kernel
theorem dX6_takeSign_166 : decode cX6_takeSign 166 = .ok (.aload_n 0, 1) := by decide +kernel
theorem dX6_takeSign_167 : decode cX6_takeSign 167 = .ok (.iload_n 1, 1) := by decide +kernel
theorem dX6_takeSign_168 : decode cX6_takeSign 168 = .ok (.iconst 2, 1) := by decide +kernel
theorem dX6_takeSign_169 : decode cX6_takeSign 169 = .ok (.iadd, 1) := by decide +kernel
theorem dX6_takeSign_170 : decode cX6_takeSign 170 = .ok (.putfield 60, 3) := by decide +kernel
theorem dX6_takeSign_173 : decode cX6_takeSign 173 = .ok (.aload_n 0, 1) := by decide +kernel
theorem dX6_takeSign_174 : decode cX6_takeSign 174 = .ok (.getfield 24, 3) := by decide +kernel
theorem dX6_takeSign_177 : decode cX6_takeSign 177 = .ok (.iload_n 1, 1) := by decide +kernel
theorem dX6_takeSign_178 : decode cX6_takeSign 178 = .ok (.iconst 1, 1) := by decide +kernel
theorem dX6_takeSign_179 : decode cX6_takeSign 179 = .ok (.iadd, 1) := by decide +kernel
theorem dX6_takeSign_180 : decode cX6_takeSign 180 = .ok (.invokevirtual 49, 3) := by decide +kernel
theorem dX6_takeSign_183 : decode cX6_takeSign 183 = .ok (.iload_n 2, 1) := by decide +kernel
theorem dX6_takeSign_184 : decode cX6_takeSign 184 = .ok (.if_icmp .ne 7, 3) := by decide +kernel
theorem dX6_takeSign_187 : decode cX6_takeSign 187 = .ok (.iload_n 2, 1) := by decide +kernel
theorem dX6_takeSign_188 : decode cX6_takeSign 188 = .ok (.goto 4, 3) := by decide +kernel
theorem dX6_takeSign_191 : decode cX6_takeSign 191 = .ok (.iconst (-1), 1) := by decide +kernel
theorem dX6_takeSign_192 : decode cX6_takeSign 192 = .ok (.ireturn, 1) := by decide +kernel
theorem dX6_takeSign_193 : decode cX6_takeSign 193 = .ok (.iconst (-1), 1) := by decide +kernel
theorem dX6_takeSign_194 : decode cX6_takeSign 194 = .ok (.ireturn, 1) := by decide +kernel
theorem dX7_init_0 : decode cX7_init 0 = .ok (.aload_n 0, 1) := by decide +kernel
theorem dX7_init_1 : decode cX7_init 1 = .ok (.invokespecial 1, 3) := by decide +kernel
theorem dX7_init_4 : decode cX7_init 4 = .ok (.aload_n 0, 1) := by decide +kernel
theorem dX7_init_5 : decode cX7_init 5 = .ok (.new 7, 3) := by decide +kernel
theorem dX7_init_8 : decode cX7_init 8 = .ok (.dup, 1) := by decide +kernel
theorem dX7_init_9 : decode cX7_init 9 = .ok (.invokespecial 9, 3) := by decide +kernel
theorem dX7_init_12 : decode cX7_init 12 = .ok (.putfield 10, 3) := by decide +kernel
theorem dX7_init_15 : decode cX7_init 15 = .ok (.aload_n 0, 1) := by decide +kernel
theorem dX7_init_16 : decode cX7_init 16 = .ok (.new 16, 3) := by decide +kernel
theorem dX7_init_19 : decode cX7_init 19 = .ok (.dup, 1) := by decide +kernel
theorem dX7_init_20 : decode cX7_init 20 = .ok (.sipush 1024, 3) := by decide +kernel
theorem dX7_init_23 : decode cX7_init 23 = .ok (.sipush 1024, 3) := by decide +kernel
theorem dX7_init_26 : decode cX7_init 26 = .ok (.invokespecial 18, 3) := by decide +kernel
theorem dX7_init_29 : decode cX7_init 29 = .ok (.putfield 21, 3) := by decide +kernel
theorem dX7_init_32 : decode cX7_init 32 = .ok (.aload_n 0, 1) := by decide +kernel
theorem dX7_init_33 : decode cX7_init 33 = .ok (.new 25, 3) := by decide +kernel
theorem dX7_init_36 : decode cX7_init 36 = .ok (.dup, 1) := by decide +kernel
theorem dX7_init_37 : decode cX7_init 37 = .ok (.aload_n 0, 1) := by decide +kernel
theorem dX7_init_38 : decode cX7_init 38 = .ok (.getfield 21, 3) := by decide +kernel
theorem dX7_init_41 : decode cX7_init 41 = .ok (.invokespecial 27, 3) := by decide +kernel
theorem dX7_init_44 : decode cX7_init 44 = .ok (.putfield 30, 3) := by decide +kernel
theorem dX7_init_47 : decode cX7_init 47 = .ok (.aload_n 0, 1) := by decide +kernel
theorem dX7_init_48 : decode cX7_init 48 = .ok (.new 34, 3) := by decide +kernel
theorem dX7_init_51 : decode cX7_init 51 = .ok (.dup, 1) := by decide +kernel
theorem dX7_init_52 : decode cX7_init 52 = .ok (.invokespecial 36, 3) := by decide +kernel
theorem dX7_init_55 : decode cX7_init 55 = .ok (.putfield 37, 3) := by decide +kernel
theorem dX7_init_58 : decode cX7_init 58 = .ok (.aload_n 0, 1) := by decide +kernel
theorem dX7_init_59 : decode cX7_init 59 = .ok (.new 41, 3) := by decide +kernel
theorem dX7_init_62 : decode cX7_init 62 = .ok (.dup, 1) := by decide +kernel
theorem dX7_init_63 : decode cX7_init 63 = .ok (.invokespecial 43, 3) := by decide +kernel
theorem dX7_init_66 : decode cX7_init 66 = .ok (.putfield 44, 3) := by decide +kernel
theorem dX7_init_69 : decode cX7_init 69 = .ok (.aload_n 0, 1) := by decide +kernel
theorem dX7_init_70 : decode cX7_init 70 = .ok (.new 16, 3) := by decide +kernel
theorem dX7_init_73 : decode cX7_init 73 = .ok (.dup, 1) := by decide +kernel
theorem dX7_init_74 : decode cX7_init 74 = .ok (.sipush 256, 3) := by decide +kernel
theorem dX7_init_77 : decode cX7_init 77 = .ok (.ldc 48, 2) := by decide +kernel
theorem dX7_init_79 : decode cX7_init 79 = .ok (.invokespecial 18, 3) := by decide +kernel
theorem dX7_init_82 : decode cX7_init 82 = .ok (.putfield 49, 3) := by decide +kernel
theorem dX7_init_85 : decode cX7_init 85 = .ok (.return_, 1) := by decide +kernel
theorem dX7_type_0 : decode cX7_type 0 = .ok (.iload_n 3, 1) := by decide +kernel
theorem dX7_type_1 : decode cX7_type 1 = .ok (.iconst 1, 1) := by decide +kernel
theorem dX7_type_2 : decode cX7_type 2 = .ok (.if_icmp .lt 23, 3) := by decide +kernel
theorem dX7_type_5 : decode cX7_type 5 = .ok (.iload_n 3, 1) := by decide +kernel
theorem dX7_type_6 : decode cX7_type 6 = .ok (.bipush 8, 2) := by decide +kernel
theorem dX7_type_8 : decode cX7_type 8 = .ok (.if_icmp .gt 17, 3) := by decide +kernel
theorem dX7_type_11 : decode cX7_type 11 = .ok (.aload_n 0, 1) := by decide +kernel
theorem dX7_type_12 : decode cX7_type 12 = .ok (.getfield 49, 3) := by decide +kernel
theorem dX7_type_15 : decode cX7_type 15 = .ok (.invokevirtual 52, 3) := by decide +kernel
theorem dX7_type_18 : decode cX7_type 18 = .ok (.iload_n 3, 1) := by decide +kernel
theorem dX7_type_19 : decode cX7_type 19 = .ok (.iadd, 1) := by decide +kernel
theorem dX7_type_20 : decode cX7_type 20 = .ok (.ldc 48, 2) := by decide +kernel
theorem dX7_type_22 : decode cX7_type 22 = .ok (.if_icmp .le 5, 3) := by decide +kernel
theorem dX7_type_25 : decode cX7_type 25 = .ok (.iconst 0, 1) := by decide +kernel
theorem dX7_type_26 : decode cX7_type 26 = .ok (.ireturn, 1) := by decide +kernel
theorem dX7_type_27 : decode cX7_type 27 = .ok (.iload_n 3, 1) := by decide +kernel
theorem dX7_type_28 : decode cX7_type 28 = .ok (.iconst 1, 1) := by decide +kernel
theorem dX7_type_29 : decode cX7_type 29 = .ok (.isub, 1) := by decide +kernel
theorem dX7_type_30 : decode cX7_type 30 = .ok (.istore 4, 2) := by decide +kernel
theorem dX7_type_32 : decode cX7_type 32 = .ok (.iload 4, 2) := by decide +kernel
theorem dX7_type_34 : decode cX7_type 34 = .ok (.ifCond .lt 29, 3) := by decide +kernel
theorem dX7_type_37 : decode cX7_type 37 = .ok (.aload_n 0, 1) := by decide +kernel
theorem dX7_type_38 : decode cX7_type 38 = .ok (.getfield 49, 3) := by decide +kernel
theorem dX7_type_41 : decode cX7_type 41 = .ok (.lload_n 1, 1) := by decide +kernel
theorem dX7_type_42 : decode cX7_type 42 = .ok (.bipush 8, 2) := by decide +kernel
theorem dX7_type_44 : decode cX7_type 44 = .ok (.iload 4, 2) := by decide +kernel
theorem dX7_type_46 : decode cX7_type 46 = .ok (.imul, 1) := by decide +kernel
theorem dX7_type_47 : decode cX7_type 47 = .ok (.lushr, 1) := by decide +kernel
theorem dX7_type_48 : decode cX7_type 48 = .ok (.l2i, 1) := by decide +kernel
theorem dX7_type_49 : decode cX7_type 49 = .ok (.sipush 255, 3) := by decide +kernel
theorem dX7_type_52 : decode cX7_type 52 = .ok (.iand, 1) := by decide +kernel
theorem dX7_type_53 : decode cX7_type 53 = .ok (.invokevirtual 56, 3) := by decide +kernel
theorem dX7_type_56 : decode cX7_type 56 = .ok (.pop, 1) := by decide +kernel
theorem dX7_type_57 : decode cX7_type 57 = .ok (.iinc 4 (-1), 3) := by decide +kernel
theorem dX7_type_60 : decode cX7_type 60 = .ok (.goto (-28), 3) := by decide +kernel
theorem dX7_type_63 : decode cX7_type 63 = .ok (.iconst 1, 1) := by decide +kernel
theorem dX7_type_64 : decode cX7_type 64 = .ok (.ireturn, 1) := by decide +kernel
theorem dX7_begin_0 : decode cX7_begin 0 = .ok (.aload_n 0, 1) := by decide +kernel
theorem dX7_begin_1 : decode cX7_begin 1 = .ok (.aload_n 0, 1) := by decide +kernel
theorem dX7_begin_2 : decode cX7_begin 2 = .ok (.getfield 10, 3) := by decide +kernel
theorem dX7_begin_5 : decode cX7_begin 5 = .ok (.aload_n 0, 1) := by decide +kernel
theorem dX7_begin_6 : decode cX7_begin 6 = .ok (.getfield 49, 3) := by decide +kernel
theorem dX7_begin_9 : decode cX7_begin 9 = .ok (.invokevirtual 60, 3) := by decide +kernel
theorem dX7_begin_12 : decode cX7_begin 12 = .ok (.putfield 49, 3) := by decide +kernel
theorem dX7_begin_15 : decode cX7_begin 15 = .ok (.aload_n 0, 1) := by decide +kernel
theorem dX7_begin_16 : decode cX7_begin 16 = .ok (.getfield 49, 3) := by decide +kernel
theorem dX7_begin_19 : decode cX7_begin 19 = .ok (.invokevirtual 64, 3) := by decide +kernel
theorem dX7_begin_22 : decode cX7_begin 22 = .ok (.aload_n 0, 1) := by decide +kernel
theorem dX7_begin_23 : decode cX7_begin 23 = .ok (.getfield 37, 3) := by decide +kernel
theorem dX7_begin_26 : decode cX7_begin 26 = .ok (.invokevirtual 67, 3) := by decide +kernel
theorem dX7_begin_29 : decode cX7_begin 29 = .ok (.aload_n 0, 1) := by decide +kernel
theorem dX7_begin_30 : decode cX7_begin 30 = .ok (.getfield 44, 3) := by decide +kernel
theorem dX7_begin_33 : decode cX7_begin 33 = .ok (.invokevirtual 68, 3) := by decide +kernel
theorem dX7_begin_36 : decode cX7_begin 36 = .ok (.aload_n 0, 1) := by decide +kernel
theorem dX7_begin_37 : decode cX7_begin 37 = .ok (.iconst 0, 1) := by decide +kernel
theorem dX7_begin_38 : decode cX7_begin 38 = .ok (.putfield 69, 3) := by decide +kernel
theorem dX7_begin_41 : decode cX7_begin 41 = .ok (.aload_n 0, 1) := by decide +kernel
theorem dX7_begin_42 : decode cX7_begin 42 = .ok (.iconst 0, 1) := by decide +kernel
theorem dX7_begin_43 : decode cX7_begin 43 = .ok (.putfield 73, 3) := by decide +kernel
theorem dX7_begin_46 : decode cX7_begin 46 = .ok (.aload_n 0, 1) := by decide +kernel
theorem dX7_begin_47 : decode cX7_begin 47 = .ok (.iconst 0, 1) := by decide +kernel
theorem dX7_begin_48 : decode cX7_begin 48 = .ok (.putfield 76, 3) := by decide +kernel
theorem dX7_begin_51 : decode cX7_begin 51 = .ok (.aload_n 0, 1) := by decide +kernel
theorem dX7_begin_52 : decode cX7_begin 52 = .ok (.iconst 0, 1) := by decide +kernel
theorem dX7_begin_53 : decode cX7_begin 53 = .ok (.putfield 79, 3) := by decide +kernel
theorem dX7_begin_56 : decode cX7_begin 56 = .ok (.aload_n 0, 1) := by decide +kernel
theorem dX7_begin_57 : decode cX7_begin 57 = .ok (.iconst 0, 1) := by decide +kernel
theorem dX7_begin_58 : decode cX7_begin 58 = .ok (.putfield 82, 3) := by decide +kernel
theorem dX7_begin_61 : decode cX7_begin 61 = .ok (.aload_n 0, 1) := by decide +kernel
theorem dX7_begin_62 : decode cX7_begin 62 = .ok (.iconst 1, 1) := by decide +kernel
theorem dX7_begin_63 : decode cX7_begin 63 = .ok (.putfield 85, 3) := by decide +kernel
theorem dX7_begin_66 : decode cX7_begin 66 = .ok (.aload_n 0, 1) := by decide +kernel
theorem dX7_begin_67 : decode cX7_begin 67 = .ok (.iconst 0, 1) := by decide +kernel
theorem dX7_begin_68 : decode cX7_begin 68 = .ok (.putfield 89, 3) := by decide +kernel
theorem dX7_begin_71 : decode cX7_begin 71 = .ok (.aload_n 0, 1) := by decide +kernel
theorem dX7_begin_72 : decode cX7_begin 72 = .ok (.getfield 10, 3) := by decide +kernel
theorem dX7_begin_75 : decode cX7_begin 75 = .ok (.invokevirtual 92, 3) := by decide +kernel
theorem dX7_begin_78 : decode cX7_begin 78 = .ok (.ireturn, 1) := by decide +kernel
theorem dX7_next_0 : decode cX7_next 0 = .ok (.aload_n 0, 1) := by decide +kernel
theorem dX7_next_1 : decode cX7_next 1 = .ok (.iconst 0, 1) := by decide +kernel
theorem dX7_next_2 : decode cX7_next 2 = .ok (.putfield 89, 3) := by decide +kernel
theorem dX7_next_5 : decode cX7_next 5 = .ok (.aload_n 0, 1) := by decide +kernel
theorem dX7_next_6 : decode cX7_next 6 = .ok (.getfield 85, 3) := by decide +kernel
theorem dX7_next_9 : decode cX7_next 9 = .ok (.ifCond .ne 5, 3) := by decide +kernel
theorem dX7_next_12 : decode cX7_next 12 = .ok (.iconst (-1), 1) := by decide +kernel
theorem dX7_next_13 : decode cX7_next 13 = .ok (.ireturn, 1) := by decide +kernel
theorem dX7_next_14 : decode cX7_next 14 = .ok (.iconst 0, 1) := by decide +kernel
theorem dX7_next_15 : decode cX7_next 15 = .ok (.istore_n 1, 1) := by decide +kernel
theorem dX7_next_16 : decode cX7_next 16 = .ok (.iconst 0, 1) := by decide +kernel
theorem dX7_next_17 : decode cX7_next 17 = .ok (.istore_n 2, 1) := by decide +kernel
theorem dX7_next_18 : decode cX7_next 18 = .ok (.iload_n 2, 1) := by decide +kernel
theorem dX7_next_19 : decode cX7_next 19 = .ok (.ldc 95, 2) := by decide +kernel
theorem dX7_next_21 : decode cX7_next 21 = .ok (.if_icmp .ge 36, 3) := by decide +kernel
theorem dX7_next_24 : decode cX7_next 24 = .ok (.iload_n 1, 1) := by decide +kernel
theorem dX7_next_25 : decode cX7_next 25 = .ok (.ifCond .ne 32, 3) := by decide +kernel
theorem dX7_next_28 : decode cX7_next 28 = .ok (.aload_n 0, 1) := by decide +kernel
theorem dX7_next_29 : decode cX7_next 29 = .ok (.getfield 69, 3) := by decide +kernel
theorem dX7_next_32 : decode cX7_next 32 = .ok (.aload_n 0, 1) := by decide +kernel
theorem dX7_next_33 : decode cX7_next 33 = .ok (.invokevirtual 96, 3) := by decide +kernel
theorem dX7_next_36 : decode cX7_next 36 = .ok (.if_icmp .ge 10, 3) := by decide +kernel
theorem dX7_next_39 : decode cX7_next 39 = .ok (.aload_n 0, 1) := by decide +kernel
theorem dX7_next_40 : decode cX7_next 40 = .ok (.invokevirtual 99, 3) := by decide +kernel
theorem dX7_next_43 : decode cX7_next 43 = .ok (.goto 7, 3) := by decide +kernel
theorem dX7_next_46 : decode cX7_next 46 = .ok (.aload_n 0, 1) := by decide +kernel
theorem dX7_next_47 : decode cX7_next 47 = .ok (.invokevirtual 102, 3) := by decide +kernel
theorem dX7_next_50 : decode cX7_next 50 = .ok (.istore_n 1, 1) := by decide +kernel
theorem dX7_next_51 : decode cX7_next 51 = .ok (.iinc 2 1, 3) := by decide +kernel
theorem dX7_next_54 : decode cX7_next 54 = .ok (.goto (-36), 3) := by decide +kernel
theorem dX7_next_57 : decode cX7_next 57 = .ok (.aload_n 0, 1) := by decide +kernel
theorem dX7_next_58 : decode cX7_next 58 = .ok (.iload_n 1, 1) := by decide +kernel
theorem dX7_next_59 : decode cX7_next 59 = .ok (.iconst 1, 1) := by decide +kernel
theorem dX7_next_60 : decode cX7_next 60 = .ok (.if_icmp .ne 7, 3) := by decide +kernel
theorem dX7_next_63 : decode cX7_next 63 = .ok (.iconst 1, 1) := by decide +kernel
theorem dX7_next_64 : decode cX7_next 64 = .ok (.goto 4, 3) := by decide +kernel
theorem dX7_next_67 : decode cX7_next 67 = .ok (.iconst 0, 1) := by decide +kernel
theorem dX7_next_68 : decode cX7_next 68 = .ok (.putfield 89, 3) := by decide +kernel
theorem dX7_next_71 : decode cX7_next 71 = .ok (.aload_n 0, 1) := by decide +kernel
theorem dX7_next_72 : decode cX7_next 72 = .ok (.getfield 89, 3) := by decide +kernel
theorem dX7_next_75 : decode cX7_next 75 = .ok (.ifCond .eq 11, 3) := by decide +kernel
theorem dX7_next_78 : decode cX7_next 78 = .ok (.aload_n 0, 1) := by decide +kernel
theorem dX7_next_79 : decode cX7_next 79 = .ok (.getfield 21, 3) := by decide +kernel
theorem dX7_next_82 : decode cX7_next 82 = .ok (.invokevirtual 52, 3) := by decide +kernel
theorem dX7_next_85 : decode cX7_next 85 = .ok (.ireturn, 1) := by decide +kernel
theorem dX7_next_86 : decode cX7_next 86 = .ok (.aload_n 0, 1) := by decide +kernel
theorem dX7_next_87 : decode cX7_next 87 = .ok (.iconst 0, 1) := by decide +kernel
theorem dX7_next_88 : decode cX7_next 88 = .ok (.putfield 85, 3) := by decide +kernel
theorem dX7_next_91 : decode cX7_next 91 = .ok (.aload_n 0, 1) := by decide +kernel
theorem dX7_next_92 : decode cX7_next 92 = .ok (.getfield 37, 3) := by decide +kernel
theorem dX7_next_95 : decode cX7_next 95 = .ok (.invokevirtual 67, 3) := by decide +kernel
theorem dX7_next_98 : decode cX7_next 98 = .ok (.aload_n 0, 1) := by decide +kernel
theorem dX7_next_99 : decode cX7_next 99 = .ok (.getfield 82, 3) := by decide +kernel
theorem dX7_next_102 : decode cX7_next 102 = .ok (.ifCond .eq 13, 3) := by decide +kernel
theorem dX7_next_105 : decode cX7_next 105 = .ok (.new 105, 3) := by decide +kernel
theorem dX7_next_108 : decode cX7_next 108 = .ok (.dup, 1) := by decide +kernel
theorem dX7_next_109 : decode cX7_next 109 = .ok (.ldc 107, 2) := by decide +kernel
theorem dX7_next_111 : decode cX7_next 111 = .ok (.invokespecial 109, 3) := by decide +kernel
theorem dX7_next_114 : decode cX7_next 114 = .ok (.athrow, 1) := by decide +kernel
theorem dX7_next_115 : decode cX7_next 115 = .ok (.aload_n 0, 1) := by decide +kernel
theorem dX7_next_116 : decode cX7_next 116 = .ok (.iconst 0, 1) := by decide +kernel
theorem dX7_next_117 : decode cX7_next 117 = .ok (.putfield 79, 3) := by decide +kernel
theorem dX7_next_120 : decode cX7_next 120 = .ok (.iconst (-1), 1) := by decide +kernel
theorem dX7_next_121 : decode cX7_next 121 = .ok (.ireturn, 1) := by decide +kernel
theorem dX7_octet_0 : decode cX7_octet 0 = .ok (.aload_n 0, 1) := by decide +kernel
theorem dX7_octet_1 : decode cX7_octet 1 = .ok (.getfield 89, 3) := by decide +kernel
theorem dX7_octet_4 : decode cX7_octet 4 = .ok (.ifCond .eq 14, 3) := by decide +kernel
theorem dX7_octet_7 : decode cX7_octet 7 = .ok (.aload_n 0, 1) := by decide +kernel
theorem dX7_octet_8 : decode cX7_octet 8 = .ok (.getfield 21, 3) := by decide +kernel
theorem dX7_octet_11 : decode cX7_octet 11 = .ok (.iload_n 1, 1) := by decide +kernel
theorem dX7_octet_12 : decode cX7_octet 12 = .ok (.invokevirtual 112, 3) := by decide +kernel
theorem dX7_octet_15 : decode cX7_octet 15 = .ok (.goto 4, 3) := by decide +kernel
theorem dX7_octet_18 : decode cX7_octet 18 = .ok (.iconst (-1), 1) := by decide +kernel
theorem dX7_octet_19 : decode cX7_octet 19 = .ok (.ireturn, 1) := by decide +kernel
theorem dX7_line_0 : decode cX7_line 0 = .ok (.aload_n 0, 1) := by decide +kernel
theorem dX7_line_1 : decode cX7_line 1 = .ok (.getfield 79, 3) := by decide +kernel
theorem dX7_line_4 : decode cX7_line 4 = .ok (.ireturn, 1) := by decide +kernel
theorem dX7_fault_0 : decode cX7_fault 0 = .ok (.aload_n 0, 1) := by decide +kernel
theorem dX7_fault_1 : decode cX7_fault 1 = .ok (.getfield 82, 3) := by decide +kernel
theorem dX7_fault_4 : decode cX7_fault 4 = .ok (.ireturn, 1) := by decide +kernel
theorem dX7_depth_0 : decode cX7_depth 0 = .ok (.aload_n 0, 1) := by decide +kernel
theorem dX7_depth_1 : decode cX7_depth 1 = .ok (.getfield 37, 3) := by decide +kernel
theorem dX7_depth_4 : decode cX7_depth 4 = .ok (.invokevirtual 116, 3) := by decide +kernel
theorem dX7_depth_7 : decode cX7_depth 7 = .ok (.ireturn, 1) := by decide +kernel
theorem dX7_limit_0 : decode cX7_limit 0 = .ok (.aload_n 0, 1) := by decide +kernel
theorem dX7_limit_1 : decode cX7_limit 1 = .ok (.getfield 37, 3) := by decide +kernel
theorem dX7_limit_4 : decode cX7_limit 4 = .ok (.invokevirtual 117, 3) := by decide +kernel
theorem dX7_limit_7 : decode cX7_limit 7 = .ok (.astore_n 1, 1) := by decide +kernel
theorem dX7_limit_8 : decode cX7_limit 8 = .ok (.aload_n 1, 1) := by decide +kernel
theorem dX7_limit_9 : decode cX7_limit 9 = .ok (.ifnonnull 13, 3) := by decide +kernel
theorem dX7_limit_12 : decode cX7_limit 12 = .ok (.aload_n 0, 1) := by decide +kernel
theorem dX7_limit_13 : decode cX7_limit 13 = .ok (.getfield 10, 3) := by decide +kernel
theorem dX7_limit_16 : decode cX7_limit 16 = .ok (.invokevirtual 92, 3) := by decide +kernel
theorem dX7_limit_19 : decode cX7_limit 19 = .ok (.goto 7, 3) := by decide +kernel
theorem dX7_limit_22 : decode cX7_limit 22 = .ok (.aload_n 1, 1) := by decide +kernel
theorem dX7_limit_23 : decode cX7_limit 23 = .ok (.getfield 121, 3) := by decide +kernel
theorem dX7_limit_26 : decode cX7_limit 26 = .ok (.ireturn, 1) := by decide +kernel
theorem dX7_readLine_0 : decode cX7_readLine 0 = .ok (.aload_n 0, 1) := by decide +kernel
theorem dX7_readLine_1 : decode cX7_readLine 1 = .ok (.getfield 69, 3) := by decide +kernel
theorem dX7_readLine_4 : decode cX7_readLine 4 = .ok (.istore_n 1, 1) := by decide +kernel
theorem dX7_readLine_5 : decode cX7_readLine 5 = .ok (.aload_n 0, 1) := by decide +kernel
theorem dX7_readLine_6 : decode cX7_readLine 6 = .ok (.dup, 1) := by decide +kernel
theorem dX7_readLine_7 : decode cX7_readLine 7 = .ok (.getfield 69, 3) := by decide +kernel
theorem dX7_readLine_10 : decode cX7_readLine 10 = .ok (.iconst 1, 1) := by decide +kernel
theorem dX7_readLine_11 : decode cX7_readLine 11 = .ok (.iadd, 1) := by decide +kernel
theorem dX7_readLine_12 : decode cX7_readLine 12 = .ok (.putfield 69, 3) := by decide +kernel
theorem dX7_readLine_15 : decode cX7_readLine 15 = .ok (.aload_n 0, 1) := by decide +kernel
theorem dX7_readLine_16 : decode cX7_readLine 16 = .ok (.getfield 37, 3) := by decide +kernel
theorem dX7_readLine_19 : decode cX7_readLine 19 = .ok (.invokevirtual 117, 3) := by decide +kernel
theorem dX7_readLine_22 : decode cX7_readLine 22 = .ok (.astore_n 2, 1) := by decide +kernel
theorem dX7_readLine_23 : decode cX7_readLine 23 = .ok (.aload_n 0, 1) := by decide +kernel
theorem dX7_readLine_24 : decode cX7_readLine 24 = .ok (.aload_n 2, 1) := by decide +kernel
theorem dX7_readLine_25 : decode cX7_readLine 25 = .ok (.ifnonnull 9, 3) := by decide +kernel
theorem dX7_readLine_28 : decode cX7_readLine 28 = .ok (.iload_n 1, 1) := by decide +kernel
theorem dX7_readLine_29 : decode cX7_readLine 29 = .ok (.iconst 1, 1) := by decide +kernel
theorem dX7_readLine_30 : decode cX7_readLine 30 = .ok (.iadd, 1) := by decide +kernel
theorem dX7_readLine_31 : decode cX7_readLine 31 = .ok (.goto 7, 3) := by decide +kernel
theorem dX7_readLine_34 : decode cX7_readLine 34 = .ok (.aload_n 2, 1) := by decide +kernel
theorem dX7_readLine_35 : decode cX7_readLine 35 = .ok (.getfield 126, 3) := by decide +kernel
theorem dX7_readLine_38 : decode cX7_readLine 38 = .ok (.putfield 79, 3) := by decide +kernel
theorem dX7_readLine_41 : decode cX7_readLine 41 = .ok (.aload_n 0, 1) := by decide +kernel
theorem dX7_readLine_42 : decode cX7_readLine 42 = .ok (.dup, 1) := by decide +kernel
theorem dX7_readLine_43 : decode cX7_readLine 43 = .ok (.getfield 73, 3) := by decide +kernel
theorem dX7_readLine_46 : decode cX7_readLine 46 = .ok (.iconst 1, 1) := by decide +kernel
theorem dX7_readLine_47 : decode cX7_readLine 47 = .ok (.iadd, 1) := by decide +kernel
theorem dX7_readLine_48 : decode cX7_readLine 48 = .ok (.putfield 73, 3) := by decide +kernel
theorem dX7_readLine_51 : decode cX7_readLine 51 = .ok (.aload_n 0, 1) := by decide +kernel
theorem dX7_readLine_52 : decode cX7_readLine 52 = .ok (.getfield 73, 3) := by decide +kernel
theorem dX7_readLine_55 : decode cX7_readLine 55 = .ok (.ldc 48, 2) := by decide +kernel
theorem dX7_readLine_57 : decode cX7_readLine 57 = .ok (.if_icmp .gt 11, 3) := by decide +kernel
theorem dX7_readLine_60 : decode cX7_readLine 60 = .ok (.aload_n 0, 1) := by decide +kernel
theorem dX7_readLine_61 : decode cX7_readLine 61 = .ok (.iload_n 1, 1) := by decide +kernel
theorem dX7_readLine_62 : decode cX7_readLine 62 = .ok (.invokevirtual 129, 3) := by decide +kernel
theorem dX7_readLine_65 : decode cX7_readLine 65 = .ok (.ifCond .ne 9, 3) := by decide +kernel
theorem dX7_readLine_68 : decode cX7_readLine 68 = .ok (.aload_n 0, 1) := by decide +kernel
theorem dX7_readLine_69 : decode cX7_readLine 69 = .ok (.iconst 5, 1) := by decide +kernel
theorem dX7_readLine_70 : decode cX7_readLine 70 = .ok (.invokevirtual 132, 3) := by decide +kernel
theorem dX7_readLine_73 : decode cX7_readLine 73 = .ok (.ireturn, 1) := by decide +kernel
theorem dX7_readLine_74 : decode cX7_readLine 74 = .ok (.aload_n 0, 1) := by decide +kernel
theorem dX7_readLine_75 : decode cX7_readLine 75 = .ok (.getfield 30, 3) := by decide +kernel
theorem dX7_readLine_78 : decode cX7_readLine 78 = .ok (.invokevirtual 135, 3) := by decide +kernel
theorem dX7_readLine_81 : decode cX7_readLine 81 = .ok (.ifCond .ne 9, 3) := by decide +kernel
theorem dX7_readLine_84 : decode cX7_readLine 84 = .ok (.aload_n 0, 1) := by decide +kernel
theorem dX7_readLine_85 : decode cX7_readLine 85 = .ok (.iconst 1, 1) := by decide +kernel
theorem dX7_readLine_86 : decode cX7_readLine 86 = .ok (.invokevirtual 132, 3) := by decide +kernel
theorem dX7_readLine_89 : decode cX7_readLine 89 = .ok (.ireturn, 1) := by decide +kernel
theorem dX7_readLine_90 : decode cX7_readLine 90 = .ok (.aload_n 0, 1) := by decide +kernel
theorem dX7_readLine_91 : decode cX7_readLine 91 = .ok (.getfield 30, 3) := by decide +kernel
theorem dX7_readLine_94 : decode cX7_readLine 94 = .ok (.iconst 0, 1) := by decide +kernel
theorem dX7_readLine_95 : decode cX7_readLine 95 = .ok (.invokevirtual 139, 3) := by decide +kernel
theorem dX7_readLine_98 : decode cX7_readLine 98 = .ok (.iconst 1, 1) := by decide +kernel
theorem dX7_readLine_99 : decode cX7_readLine 99 = .ok (.if_icmp .eq 5, 3) := by decide +kernel
theorem dX7_readLine_102 : decode cX7_readLine 102 = .ok (.iconst 1, 1) := by decide +kernel
theorem dX7_readLine_103 : decode cX7_readLine 103 = .ok (.ireturn, 1) := by decide +kernel
theorem dX7_readLine_104 : decode cX7_readLine 104 = .ok (.aload_n 0, 1) := by decide +kernel
theorem dX7_readLine_105 : decode cX7_readLine 105 = .ok (.getfield 21, 3) := by decide +kernel
theorem dX7_readLine_108 : decode cX7_readLine 108 = .ok (.aload_n 0, 1) := by decide +kernel
theorem dX7_readLine_109 : decode cX7_readLine 109 = .ok (.getfield 30, 3) := by decide +kernel
theorem dX7_readLine_112 : decode cX7_readLine 112 = .ok (.iconst 0, 1) := by decide +kernel
theorem dX7_readLine_113 : decode cX7_readLine 113 = .ok (.invokevirtual 142, 3) := by decide +kernel
theorem dX7_readLine_116 : decode cX7_readLine 116 = .ok (.aload_n 0, 1) := by decide +kernel
theorem dX7_readLine_117 : decode cX7_readLine 117 = .ok (.getfield 30, 3) := by decide +kernel
theorem dX7_readLine_120 : decode cX7_readLine 120 = .ok (.iconst 0, 1) := by decide +kernel
theorem dX7_readLine_121 : decode cX7_readLine 121 = .ok (.invokevirtual 145, 3) := by decide +kernel
theorem dX7_readLine_124 : decode cX7_readLine 124 = .ok (.invokestatic 148, 3) := by decide +kernel
theorem dX7_readLine_127 : decode cX7_readLine 127 = .ok (.istore_n 3, 1) := by decide +kernel
theorem dX7_readLine_128 : decode cX7_readLine 128 = .ok (.iload_n 3, 1) := by decide +kernel
theorem dX7_readLine_129 : decode cX7_readLine 129 = .ok (.ifCond .eq 9, 3) := by decide +kernel
theorem dX7_readLine_132 : decode cX7_readLine 132 = .ok (.aload_n 0, 1) := by decide +kernel
theorem dX7_readLine_133 : decode cX7_readLine 133 = .ok (.iload_n 3, 1) := by decide +kernel
theorem dX7_readLine_134 : decode cX7_readLine 134 = .ok (.invokevirtual 152, 3) := by decide +kernel
theorem dX7_readLine_137 : decode cX7_readLine 137 = .ok (.ireturn, 1) := by decide +kernel
theorem dX7_readLine_138 : decode cX7_readLine 138 = .ok (.aload_n 0, 1) := by decide +kernel
theorem dX7_readLine_139 : decode cX7_readLine 139 = .ok (.iconst 0, 1) := by decide +kernel
theorem dX7_readLine_140 : decode cX7_readLine 140 = .ok (.invokevirtual 155, 3) := by decide +kernel
theorem dX7_readLine_143 : decode cX7_readLine 143 = .ok (.astore 4, 2) := by decide +kernel
theorem dX7_readLine_145 : decode cX7_readLine 145 = .ok (.aload 4, 2) := by decide +kernel
theorem dX7_readLine_147 : decode cX7_readLine 147 = .ok (.ifnonnull 7, 3) := by decide +kernel
theorem dX7_readLine_150 : decode cX7_readLine 150 = .ok (.iconst 1, 1) := by decide +kernel
theorem dX7_readLine_151 : decode cX7_readLine 151 = .ok (.goto 9, 3) := by decide +kernel
theorem dX7_readLine_154 : decode cX7_readLine 154 = .ok (.aload_n 0, 1) := by decide +kernel
theorem dX7_readLine_155 : decode cX7_readLine 155 = .ok (.aload 4, 2) := by decide +kernel
theorem dX7_readLine_157 : decode cX7_readLine 157 = .ok (.invokevirtual 159, 3) := by decide +kernel
theorem dX7_readLine_160 : decode cX7_readLine 160 = .ok (.ireturn, 1) := by decide +kernel
theorem dX7_fill_0 : decode cX7_fill 0 = .ok (.aload_n 0, 1) := by decide +kernel
theorem dX7_fill_1 : decode cX7_fill 1 = .ok (.getfield 10, 3) := by decide +kernel
theorem dX7_fill_4 : decode cX7_fill 4 = .ok (.iload_n 1, 1) := by decide +kernel
theorem dX7_fill_5 : decode cX7_fill 5 = .ok (.invokevirtual 163, 3) := by decide +kernel
theorem dX7_fill_8 : decode cX7_fill 8 = .ok (.istore_n 2, 1) := by decide +kernel
theorem dX7_fill_9 : decode cX7_fill 9 = .ok (.aload_n 0, 1) := by decide +kernel
theorem dX7_fill_10 : decode cX7_fill 10 = .ok (.getfield 10, 3) := by decide +kernel
theorem dX7_fill_13 : decode cX7_fill 13 = .ok (.iload_n 1, 1) := by decide +kernel
theorem dX7_fill_14 : decode cX7_fill 14 = .ok (.invokevirtual 164, 3) := by decide +kernel
theorem dX7_fill_17 : decode cX7_fill 17 = .ok (.istore_n 3, 1) := by decide +kernel
theorem dX7_fill_18 : decode cX7_fill 18 = .ok (.aload_n 0, 1) := by decide +kernel
theorem dX7_fill_19 : decode cX7_fill 19 = .ok (.getfield 21, 3) := by decide +kernel
theorem dX7_fill_22 : decode cX7_fill 22 = .ok (.invokevirtual 64, 3) := by decide +kernel
theorem dX7_fill_25 : decode cX7_fill 25 = .ok (.iload_n 3, 1) := by decide +kernel
theorem dX7_fill_26 : decode cX7_fill 26 = .ok (.iload_n 2, 1) := by decide +kernel
theorem dX7_fill_27 : decode cX7_fill 27 = .ok (.isub, 1) := by decide +kernel
theorem dX7_fill_28 : decode cX7_fill 28 = .ok (.sipush 1024, 3) := by decide +kernel
theorem dX7_fill_31 : decode cX7_fill 31 = .ok (.if_icmp .le 5, 3) := by decide +kernel
theorem dX7_fill_34 : decode cX7_fill 34 = .ok (.iconst 0, 1) := by decide +kernel
theorem dX7_fill_35 : decode cX7_fill 35 = .ok (.ireturn, 1) := by decide +kernel
theorem dX7_fill_36 : decode cX7_fill 36 = .ok (.aload_n 0, 1) := by decide +kernel
theorem dX7_fill_37 : decode cX7_fill 37 = .ok (.getfield 37, 3) := by decide +kernel
theorem dX7_fill_40 : decode cX7_fill 40 = .ok (.invokevirtual 165, 3) := by decide +kernel
theorem dX7_fill_43 : decode cX7_fill 43 = .ok (.astore 4, 2) := by decide +kernel
theorem dX7_fill_45 : decode cX7_fill 45 = .ok (.aload 4, 2) := by decide +kernel
theorem dX7_fill_47 : decode cX7_fill 47 = .ok (.ifnonnull 20, 3) := by decide +kernel
theorem dX7_fill_50 : decode cX7_fill 50 = .ok (.aload_n 0, 1) := by decide +kernel
theorem dX7_fill_51 : decode cX7_fill 51 = .ok (.getfield 21, 3) := by decide +kernel
theorem dX7_fill_54 : decode cX7_fill 54 = .ok (.aload_n 0, 1) := by decide +kernel
theorem dX7_fill_55 : decode cX7_fill 55 = .ok (.getfield 10, 3) := by decide +kernel
theorem dX7_fill_58 : decode cX7_fill 58 = .ok (.invokevirtual 168, 3) := by decide +kernel
theorem dX7_fill_61 : decode cX7_fill 61 = .ok (.iload_n 2, 1) := by decide +kernel
theorem dX7_fill_62 : decode cX7_fill 62 = .ok (.iload_n 3, 1) := by decide +kernel
theorem dX7_fill_63 : decode cX7_fill 63 = .ok (.invokevirtual 172, 3) := by decide +kernel
theorem dX7_fill_66 : decode cX7_fill 66 = .ok (.ireturn, 1) := by decide +kernel
theorem dX7_fill_67 : decode cX7_fill 67 = .ok (.aload 4, 2) := by decide +kernel
theorem dX7_fill_69 : decode cX7_fill 69 = .ok (.aload_n 0, 1) := by decide +kernel
theorem dX7_fill_70 : decode cX7_fill 70 = .ok (.getfield 10, 3) := by decide +kernel
theorem dX7_fill_73 : decode cX7_fill 73 = .ok (.invokevirtual 168, 3) := by decide +kernel
theorem dX7_fill_76 : decode cX7_fill 76 = .ok (.iload_n 2, 1) := by decide +kernel
theorem dX7_fill_77 : decode cX7_fill 77 = .ok (.iload_n 3, 1) := by decide +kernel
theorem dX7_fill_78 : decode cX7_fill 78 = .ok (.aload_n 0, 1) := by decide +kernel
theorem dX7_fill_79 : decode cX7_fill 79 = .ok (.getfield 21, 3) := by decide +kernel
theorem dX7_fill_82 : decode cX7_fill 82 = .ok (.invokevirtual 176, 3) := by decide +kernel
theorem dX7_fill_85 : decode cX7_fill 85 = .ok (.ireturn, 1) := by decide +kernel
theorem dX7_obey_0 : decode cX7_obey 0 = .ok (.iload_n 1, 1) := by decide +kernel
theorem dX7_obey_1 : decode cX7_obey 1 = .ok (.tableswitch 64 1 6 #[39, 44, 49, 54, 64, 59], 39) := by decide +kernel
theorem dX7_obey_40 : decode cX7_obey 40 = .ok (.aload_n 0, 1) := by decide +kernel
theorem dX7_obey_41 : decode cX7_obey 41 = .ok (.invokevirtual 180, 3) := by decide +kernel
theorem dX7_obey_44 : decode cX7_obey 44 = .ok (.ireturn, 1) := by decide +kernel
theorem dX7_obey_45 : decode cX7_obey 45 = .ok (.aload_n 0, 1) := by decide +kernel
theorem dX7_obey_46 : decode cX7_obey 46 = .ok (.invokevirtual 183, 3) := by decide +kernel
theorem dX7_obey_49 : decode cX7_obey 49 = .ok (.ireturn, 1) := by decide +kernel
theorem dX7_obey_50 : decode cX7_obey 50 = .ok (.aload_n 0, 1) := by decide +kernel
theorem dX7_obey_51 : decode cX7_obey 51 = .ok (.invokevirtual 186, 3) := by decide +kernel
theorem dX7_obey_54 : decode cX7_obey 54 = .ok (.ireturn, 1) := by decide +kernel
theorem dX7_obey_55 : decode cX7_obey 55 = .ok (.aload_n 0, 1) := by decide +kernel
theorem dX7_obey_56 : decode cX7_obey 56 = .ok (.invokevirtual 189, 3) := by decide +kernel
theorem dX7_obey_59 : decode cX7_obey 59 = .ok (.ireturn, 1) := by decide +kernel
theorem dX7_obey_60 : decode cX7_obey 60 = .ok (.aload_n 0, 1) := by decide +kernel
theorem dX7_obey_61 : decode cX7_obey 61 = .ok (.invokevirtual 192, 3) := by decide +kernel
theorem dX7_obey_64 : decode cX7_obey 64 = .ok (.ireturn, 1) := by decide +kernel
theorem dX7_obey_65 : decode cX7_obey 65 = .ok (.aload_n 0, 1) := by decide +kernel
theorem dX7_obey_66 : decode cX7_obey 66 = .ok (.bipush 6, 2) := by decide +kernel
theorem dX7_obey_68 : decode cX7_obey 68 = .ok (.invokevirtual 132, 3) := by decide +kernel
theorem dX7_obey_71 : decode cX7_obey 71 = .ok (.ireturn, 1) := by decide +kernel
theorem dX7_readIf_0 : decode cX7_readIf 0 = .ok (.aload_n 0, 1) := by decide +kernel
theorem dX7_readIf_1 : decode cX7_readIf 1 = .ok (.invokevirtual 96, 3) := by decide +kernel
theorem dX7_readIf_4 : decode cX7_readIf 4 = .ok (.istore_n 1, 1) := by decide +kernel
theorem dX7_readIf_5 : decode cX7_readIf 5 = .ok (.aload_n 0, 1) := by decide +kernel
theorem dX7_readIf_6 : decode cX7_readIf 6 = .ok (.getfield 37, 3) := by decide +kernel
theorem dX7_readIf_9 : decode cX7_readIf 9 = .ok (.invokevirtual 195, 3) := by decide +kernel
theorem dX7_readIf_12 : decode cX7_readIf 12 = .ok (.ifCond .ne 24, 3) := by decide +kernel
theorem dX7_readIf_15 : decode cX7_readIf 15 = .ok (.aload_n 0, 1) := by decide +kernel
theorem dX7_readIf_16 : decode cX7_readIf 16 = .ok (.aload_n 0, 1) := by decide +kernel
theorem dX7_readIf_17 : decode cX7_readIf 17 = .ok (.getfield 10, 3) := by decide +kernel
theorem dX7_readIf_20 : decode cX7_readIf 20 = .ok (.aload_n 0, 1) := by decide +kernel
theorem dX7_readIf_21 : decode cX7_readIf 21 = .ok (.getfield 69, 3) := by decide +kernel
theorem dX7_readIf_24 : decode cX7_readIf 24 = .ok (.iload_n 1, 1) := by decide +kernel
theorem dX7_readIf_25 : decode cX7_readIf 25 = .ok (.iconst 1, 1) := by decide +kernel
theorem dX7_readIf_26 : decode cX7_readIf 26 = .ok (.iconst 0, 1) := by decide +kernel
theorem dX7_readIf_27 : decode cX7_readIf 27 = .ok (.invokevirtual 198, 3) := by decide +kernel
theorem dX7_readIf_30 : decode cX7_readIf 30 = .ok (.invokevirtual 202, 3) := by decide +kernel
theorem dX7_readIf_33 : decode cX7_readIf 33 = .ok (.ifCond .eq 10, 3) := by decide +kernel
theorem dX7_readIf_36 : decode cX7_readIf 36 = .ok (.aload_n 0, 1) := by decide +kernel
theorem dX7_readIf_37 : decode cX7_readIf 37 = .ok (.bipush 6, 2) := by decide +kernel
theorem dX7_readIf_39 : decode cX7_readIf 39 = .ok (.invokevirtual 132, 3) := by decide +kernel
theorem dX7_readIf_42 : decode cX7_readIf 42 = .ok (.ireturn, 1) := by decide +kernel
theorem dX7_readIf_43 : decode cX7_readIf 43 = .ok (.aload_n 0, 1) := by decide +kernel
theorem dX7_readIf_44 : decode cX7_readIf 44 = .ok (.invokevirtual 205, 3) := by decide +kernel
theorem dX7_readIf_47 : decode cX7_readIf 47 = .ok (.ifCond .ne 9, 3) := by decide +kernel
theorem dX7_readIf_50 : decode cX7_readIf 50 = .ok (.aload_n 0, 1) := by decide +kernel
theorem dX7_readIf_51 : decode cX7_readIf 51 = .ok (.iconst 1, 1) := by decide +kernel
theorem dX7_readIf_52 : decode cX7_readIf 52 = .ok (.invokevirtual 132, 3) := by decide +kernel
theorem dX7_readIf_55 : decode cX7_readIf 55 = .ok (.ireturn, 1) := by decide +kernel
theorem dX7_readIf_56 : decode cX7_readIf 56 = .ok (.aload_n 0, 1) := by decide +kernel
theorem dX7_readIf_57 : decode cX7_readIf 57 = .ok (.getfield 30, 3) := by decide +kernel
theorem dX7_readIf_60 : decode cX7_readIf 60 = .ok (.invokevirtual 208, 3) := by decide +kernel
theorem dX7_readIf_63 : decode cX7_readIf 63 = .ok (.lconst 0, 1) := by decide +kernel
theorem dX7_readIf_64 : decode cX7_readIf 64 = .ok (.lcmp, 1) := by decide +kernel
theorem dX7_readIf_65 : decode cX7_readIf 65 = .ok (.ifCond .eq 14, 3) := by decide +kernel
theorem dX7_readIf_68 : decode cX7_readIf 68 = .ok (.aload_n 0, 1) := by decide +kernel
theorem dX7_readIf_69 : decode cX7_readIf 69 = .ok (.getfield 37, 3) := by decide +kernel
theorem dX7_readIf_72 : decode cX7_readIf 72 = .ok (.iconst 1, 1) := by decide +kernel
theorem dX7_readIf_73 : decode cX7_readIf 73 = .ok (.invokevirtual 212, 3) := by decide +kernel
theorem dX7_readIf_76 : decode cX7_readIf 76 = .ok (.pop, 1) := by decide +kernel
theorem dX7_readIf_77 : decode cX7_readIf 77 = .ok (.iconst 0, 1) := by decide +kernel
theorem dX7_readIf_78 : decode cX7_readIf 78 = .ok (.ireturn, 1) := by decide +kernel
theorem dX7_readIf_79 : decode cX7_readIf 79 = .ok (.aload_n 0, 1) := by decide +kernel
theorem dX7_readIf_80 : decode cX7_readIf 80 = .ok (.getfield 10, 3) := by decide +kernel
theorem dX7_readIf_83 : decode cX7_readIf 83 = .ok (.aload_n 0, 1) := by decide +kernel
theorem dX7_readIf_84 : decode cX7_readIf 84 = .ok (.getfield 69, 3) := by decide +kernel
theorem dX7_readIf_87 : decode cX7_readIf 87 = .ok (.iload_n 1, 1) := by decide +kernel
theorem dX7_readIf_88 : decode cX7_readIf 88 = .ok (.iconst 1, 1) := by decide +kernel
theorem dX7_readIf_89 : decode cX7_readIf 89 = .ok (.iconst 1, 1) := by decide +kernel
theorem dX7_readIf_90 : decode cX7_readIf 90 = .ok (.invokevirtual 198, 3) := by decide +kernel
theorem dX7_readIf_93 : decode cX7_readIf 93 = .ok (.istore_n 2, 1) := by decide +kernel
theorem dX7_readIf_94 : decode cX7_readIf 94 = .ok (.iload_n 2, 1) := by decide +kernel
theorem dX7_readIf_95 : decode cX7_readIf 95 = .ok (.ifCond .ge 8, 3) := by decide +kernel
theorem dX7_readIf_98 : decode cX7_readIf 98 = .ok (.aload_n 0, 1) := by decide +kernel
theorem dX7_readIf_99 : decode cX7_readIf 99 = .ok (.invokevirtual 216, 3) := by decide +kernel
theorem dX7_readIf_102 : decode cX7_readIf 102 = .ok (.ireturn, 1) := by decide +kernel
theorem dX7_readIf_103 : decode cX7_readIf 103 = .ok (.aload_n 0, 1) := by decide +kernel
theorem dX7_readIf_104 : decode cX7_readIf 104 = .ok (.iload_n 2, 1) := by decide +kernel
theorem dX7_readIf_105 : decode cX7_readIf 105 = .ok (.iconst 1, 1) := by decide +kernel
theorem dX7_readIf_106 : decode cX7_readIf 106 = .ok (.iadd, 1) := by decide +kernel
theorem dX7_readIf_107 : decode cX7_readIf 107 = .ok (.putfield 69, 3) := by decide +kernel
theorem dX7_readIf_110 : decode cX7_readIf 110 = .ok (.aload_n 0, 1) := by decide +kernel
theorem dX7_readIf_111 : decode cX7_readIf 111 = .ok (.getfield 10, 3) := by decide +kernel
theorem dX7_readIf_114 : decode cX7_readIf 114 = .ok (.iload_n 2, 1) := by decide +kernel
theorem dX7_readIf_115 : decode cX7_readIf 115 = .ok (.invokevirtual 219, 3) := by decide +kernel
theorem dX7_readIf_118 : decode cX7_readIf 118 = .ok (.iconst 2, 1) := by decide +kernel
theorem dX7_readIf_119 : decode cX7_readIf 119 = .ok (.if_icmp .ne 12, 3) := by decide +kernel
theorem dX7_readIf_122 : decode cX7_readIf 122 = .ok (.aload_n 0, 1) := by decide +kernel
theorem dX7_readIf_123 : decode cX7_readIf 123 = .ok (.getfield 37, 3) := by decide +kernel
theorem dX7_readIf_126 : decode cX7_readIf 126 = .ok (.iconst 2, 1) := by decide +kernel
theorem dX7_readIf_127 : decode cX7_readIf 127 = .ok (.invokevirtual 212, 3) := by decide +kernel
theorem dX7_readIf_130 : decode cX7_readIf 130 = .ok (.pop, 1) := by decide +kernel
theorem dX7_readIf_131 : decode cX7_readIf 131 = .ok (.iconst 0, 1) := by decide +kernel
theorem dX7_readIf_132 : decode cX7_readIf 132 = .ok (.ireturn, 1) := by decide +kernel
theorem dX7_readElse_0 : decode cX7_readElse 0 = .ok (.aload_n 0, 1) := by decide +kernel
theorem dX7_readElse_1 : decode cX7_readElse 1 = .ok (.getfield 37, 3) := by decide +kernel
theorem dX7_readElse_4 : decode cX7_readElse 4 = .ok (.invokevirtual 222, 3) := by decide +kernel
theorem dX7_readElse_7 : decode cX7_readElse 7 = .ok (.iconst 1, 1) := by decide +kernel
theorem dX7_readElse_8 : decode cX7_readElse 8 = .ok (.if_icmp .eq 10, 3) := by decide +kernel
theorem dX7_readElse_11 : decode cX7_readElse 11 = .ok (.aload_n 0, 1) := by decide +kernel
theorem dX7_readElse_12 : decode cX7_readElse 12 = .ok (.bipush 6, 2) := by decide +kernel
theorem dX7_readElse_14 : decode cX7_readElse 14 = .ok (.invokevirtual 132, 3) := by decide +kernel
theorem dX7_readElse_17 : decode cX7_readElse 17 = .ok (.ireturn, 1) := by decide +kernel
theorem dX7_readElse_18 : decode cX7_readElse 18 = .ok (.aload_n 0, 1) := by decide +kernel
theorem dX7_readElse_19 : decode cX7_readElse 19 = .ok (.getfield 10, 3) := by decide +kernel
theorem dX7_readElse_22 : decode cX7_readElse 22 = .ok (.aload_n 0, 1) := by decide +kernel
theorem dX7_readElse_23 : decode cX7_readElse 23 = .ok (.getfield 69, 3) := by decide +kernel
theorem dX7_readElse_26 : decode cX7_readElse 26 = .ok (.aload_n 0, 1) := by decide +kernel
theorem dX7_readElse_27 : decode cX7_readElse 27 = .ok (.invokevirtual 96, 3) := by decide +kernel
theorem dX7_readElse_30 : decode cX7_readElse 30 = .ok (.iconst 1, 1) := by decide +kernel
theorem dX7_readElse_31 : decode cX7_readElse 31 = .ok (.iconst 0, 1) := by decide +kernel
theorem dX7_readElse_32 : decode cX7_readElse 32 = .ok (.invokevirtual 198, 3) := by decide +kernel
theorem dX7_readElse_35 : decode cX7_readElse 35 = .ok (.istore_n 1, 1) := by decide +kernel
theorem dX7_readElse_36 : decode cX7_readElse 36 = .ok (.aload_n 0, 1) := by decide +kernel
theorem dX7_readElse_37 : decode cX7_readElse 37 = .ok (.iload_n 1, 1) := by decide +kernel
theorem dX7_readElse_38 : decode cX7_readElse 38 = .ok (.invokevirtual 202, 3) := by decide +kernel
theorem dX7_readElse_41 : decode cX7_readElse 41 = .ok (.ifCond .eq 10, 3) := by decide +kernel
theorem dX7_readElse_44 : decode cX7_readElse 44 = .ok (.aload_n 0, 1) := by decide +kernel
theorem dX7_readElse_45 : decode cX7_readElse 45 = .ok (.bipush 6, 2) := by decide +kernel
theorem dX7_readElse_47 : decode cX7_readElse 47 = .ok (.invokevirtual 132, 3) := by decide +kernel
theorem dX7_readElse_50 : decode cX7_readElse 50 = .ok (.ireturn, 1) := by decide +kernel
theorem dX7_readElse_51 : decode cX7_readElse 51 = .ok (.aload_n 0, 1) := by decide +kernel
theorem dX7_readElse_52 : decode cX7_readElse 52 = .ok (.getfield 30, 3) := by decide +kernel
theorem dX7_readElse_55 : decode cX7_readElse 55 = .ok (.invokevirtual 225, 3) := by decide +kernel
theorem dX7_readElse_58 : decode cX7_readElse 58 = .ok (.iconst 1, 1) := by decide +kernel
theorem dX7_readElse_59 : decode cX7_readElse 59 = .ok (.if_icmp .eq 9, 3) := by decide +kernel
theorem dX7_readElse_62 : decode cX7_readElse 62 = .ok (.aload_n 0, 1) := by decide +kernel
theorem dX7_readElse_63 : decode cX7_readElse 63 = .ok (.iconst 1, 1) := by decide +kernel
theorem dX7_readElse_64 : decode cX7_readElse 64 = .ok (.invokevirtual 132, 3) := by decide +kernel
theorem dX7_readElse_67 : decode cX7_readElse 67 = .ok (.ireturn, 1) := by decide +kernel
theorem dX7_readElse_68 : decode cX7_readElse 68 = .ok (.iload_n 1, 1) := by decide +kernel
theorem dX7_readElse_69 : decode cX7_readElse 69 = .ok (.ifCond .ge 8, 3) := by decide +kernel
theorem dX7_readElse_72 : decode cX7_readElse 72 = .ok (.aload_n 0, 1) := by decide +kernel
theorem dX7_readElse_73 : decode cX7_readElse 73 = .ok (.invokevirtual 216, 3) := by decide +kernel
end
section
theorem dX7_readElse_76 : decode cX7_readElse 76 = .ok (.ireturn, 1) := by decide +kernel
theorem dX7_readElse_77 : decode cX7_readElse 77 = .ok (.aload_n 0, 1) := by decide +kernel
theorem dX7_readElse_78 : decode cX7_readElse 78 = .ok (.iload_n 1, 1) := by decide +kernel
theorem dX7_readElse_79 : decode cX7_readElse 79 = .ok (.iconst 1, 1) := by decide +kernel
theorem dX7_readElse_80 : decode cX7_readElse 80 = .ok (.iadd, 1) := by decide +kernel
theorem dX7_readElse_81 : decode cX7_readElse 81 = .ok (.putfield 69, 3) := by decide +kernel
theorem dX7_readElse_84 : decode cX7_readElse 84 = .ok (.aload_n 0, 1) := by decide +kernel
theorem dX7_readElse_85 : decode cX7_readElse 85 = .ok (.getfield 37, 3) := by decide +kernel
theorem dX7_readElse_88 : decode cX7_readElse 88 = .ok (.invokevirtual 226, 3) := by decide +kernel
theorem dX7_readElse_91 : decode cX7_readElse 91 = .ok (.iconst 0, 1) := by decide +kernel
theorem dX7_readElse_92 : decode cX7_readElse 92 = .ok (.ireturn, 1) := by decide +kernel
theorem dX7_readEndif_0 : decode cX7_readEndif 0 = .ok (.aload_n 0, 1) := by decide +kernel
theorem dX7_readEndif_1 : decode cX7_readEndif 1 = .ok (.getfield 37, 3) := by decide +kernel
theorem dX7_readEndif_4 : decode cX7_readEndif 4 = .ok (.invokevirtual 222, 3) := by decide +kernel
theorem dX7_readEndif_7 : decode cX7_readEndif 7 = .ok (.iconst 1, 1) := by decide +kernel
theorem dX7_readEndif_8 : decode cX7_readEndif 8 = .ok (.if_icmp .eq 21, 3) := by decide +kernel
theorem dX7_readEndif_11 : decode cX7_readEndif 11 = .ok (.aload_n 0, 1) := by decide +kernel
theorem dX7_readEndif_12 : decode cX7_readEndif 12 = .ok (.getfield 37, 3) := by decide +kernel
theorem dX7_readEndif_15 : decode cX7_readEndif 15 = .ok (.invokevirtual 222, 3) := by decide +kernel
theorem dX7_readEndif_18 : decode cX7_readEndif 18 = .ok (.iconst 2, 1) := by decide +kernel
theorem dX7_readEndif_19 : decode cX7_readEndif 19 = .ok (.if_icmp .eq 10, 3) := by decide +kernel
theorem dX7_readEndif_22 : decode cX7_readEndif 22 = .ok (.aload_n 0, 1) := by decide +kernel
theorem dX7_readEndif_23 : decode cX7_readEndif 23 = .ok (.bipush 6, 2) := by decide +kernel
theorem dX7_readEndif_25 : decode cX7_readEndif 25 = .ok (.invokevirtual 132, 3) := by decide +kernel
theorem dX7_readEndif_28 : decode cX7_readEndif 28 = .ok (.ireturn, 1) := by decide +kernel
theorem dX7_readEndif_29 : decode cX7_readEndif 29 = .ok (.aload_n 0, 1) := by decide +kernel
theorem dX7_readEndif_30 : decode cX7_readEndif 30 = .ok (.getfield 30, 3) := by decide +kernel
theorem dX7_readEndif_33 : decode cX7_readEndif 33 = .ok (.invokevirtual 225, 3) := by decide +kernel
theorem dX7_readEndif_36 : decode cX7_readEndif 36 = .ok (.iconst 1, 1) := by decide +kernel
theorem dX7_readEndif_37 : decode cX7_readEndif 37 = .ok (.if_icmp .eq 9, 3) := by decide +kernel
theorem dX7_readEndif_40 : decode cX7_readEndif 40 = .ok (.aload_n 0, 1) := by decide +kernel
theorem dX7_readEndif_41 : decode cX7_readEndif 41 = .ok (.iconst 1, 1) := by decide +kernel
theorem dX7_readEndif_42 : decode cX7_readEndif 42 = .ok (.invokevirtual 132, 3) := by decide +kernel
theorem dX7_readEndif_45 : decode cX7_readEndif 45 = .ok (.ireturn, 1) := by decide +kernel
theorem dX7_readEndif_46 : decode cX7_readEndif 46 = .ok (.aload_n 0, 1) := by decide +kernel
theorem dX7_readEndif_47 : decode cX7_readEndif 47 = .ok (.getfield 37, 3) := by decide +kernel
theorem dX7_readEndif_50 : decode cX7_readEndif 50 = .ok (.invokevirtual 226, 3) := by decide +kernel
theorem dX7_readEndif_53 : decode cX7_readEndif 53 = .ok (.iconst 0, 1) := by decide +kernel
theorem dX7_readEndif_54 : decode cX7_readEndif 54 = .ok (.ireturn, 1) := by decide +kernel
theorem dX7_readRept_0 : decode cX7_readRept 0 = .ok (.aload_n 0, 1) := by decide +kernel
theorem dX7_readRept_1 : decode cX7_readRept 1 = .ok (.getfield 10, 3) := by decide +kernel
theorem dX7_readRept_4 : decode cX7_readRept 4 = .ok (.aload_n 0, 1) := by decide +kernel
theorem dX7_readRept_5 : decode cX7_readRept 5 = .ok (.getfield 69, 3) := by decide +kernel
theorem dX7_readRept_8 : decode cX7_readRept 8 = .ok (.aload_n 0, 1) := by decide +kernel
theorem dX7_readRept_9 : decode cX7_readRept 9 = .ok (.invokevirtual 96, 3) := by decide +kernel
theorem dX7_readRept_12 : decode cX7_readRept 12 = .ok (.iconst 4, 1) := by decide +kernel
theorem dX7_readRept_13 : decode cX7_readRept 13 = .ok (.iconst 0, 1) := by decide +kernel
theorem dX7_readRept_14 : decode cX7_readRept 14 = .ok (.invokevirtual 198, 3) := by decide +kernel
theorem dX7_readRept_17 : decode cX7_readRept 17 = .ok (.istore_n 1, 1) := by decide +kernel
theorem dX7_readRept_18 : decode cX7_readRept 18 = .ok (.aload_n 0, 1) := by decide +kernel
theorem dX7_readRept_19 : decode cX7_readRept 19 = .ok (.getfield 37, 3) := by decide +kernel
theorem dX7_readRept_22 : decode cX7_readRept 22 = .ok (.invokevirtual 195, 3) := by decide +kernel
theorem dX7_readRept_25 : decode cX7_readRept 25 = .ok (.ifCond .ne 11, 3) := by decide +kernel
theorem dX7_readRept_28 : decode cX7_readRept 28 = .ok (.aload_n 0, 1) := by decide +kernel
theorem dX7_readRept_29 : decode cX7_readRept 29 = .ok (.iload_n 1, 1) := by decide +kernel
theorem dX7_readRept_30 : decode cX7_readRept 30 = .ok (.invokevirtual 202, 3) := by decide +kernel
theorem dX7_readRept_33 : decode cX7_readRept 33 = .ok (.ifCond .eq 10, 3) := by decide +kernel
theorem dX7_readRept_36 : decode cX7_readRept 36 = .ok (.aload_n 0, 1) := by decide +kernel
theorem dX7_readRept_37 : decode cX7_readRept 37 = .ok (.bipush 6, 2) := by decide +kernel
theorem dX7_readRept_39 : decode cX7_readRept 39 = .ok (.invokevirtual 132, 3) := by decide +kernel
theorem dX7_readRept_42 : decode cX7_readRept 42 = .ok (.ireturn, 1) := by decide +kernel
theorem dX7_readRept_43 : decode cX7_readRept 43 = .ok (.aload_n 0, 1) := by decide +kernel
theorem dX7_readRept_44 : decode cX7_readRept 44 = .ok (.invokevirtual 205, 3) := by decide +kernel
theorem dX7_readRept_47 : decode cX7_readRept 47 = .ok (.ifCond .ne 9, 3) := by decide +kernel
theorem dX7_readRept_50 : decode cX7_readRept 50 = .ok (.aload_n 0, 1) := by decide +kernel
theorem dX7_readRept_51 : decode cX7_readRept 51 = .ok (.iconst 1, 1) := by decide +kernel
theorem dX7_readRept_52 : decode cX7_readRept 52 = .ok (.invokevirtual 132, 3) := by decide +kernel
theorem dX7_readRept_55 : decode cX7_readRept 55 = .ok (.ireturn, 1) := by decide +kernel
theorem dX7_readRept_56 : decode cX7_readRept 56 = .ok (.aload_n 0, 1) := by decide +kernel
theorem dX7_readRept_57 : decode cX7_readRept 57 = .ok (.getfield 30, 3) := by decide +kernel
theorem dX7_readRept_60 : decode cX7_readRept 60 = .ok (.invokevirtual 208, 3) := by decide +kernel
theorem dX7_readRept_63 : decode cX7_readRept 63 = .ok (.lstore_n 2, 1) := by decide +kernel
theorem dX7_readRept_64 : decode cX7_readRept 64 = .ok (.lload_n 2, 1) := by decide +kernel
theorem dX7_readRept_65 : decode cX7_readRept 65 = .ok (.lconst 0, 1) := by decide +kernel
theorem dX7_readRept_66 : decode cX7_readRept 66 = .ok (.lcmp, 1) := by decide +kernel
theorem dX7_readRept_67 : decode cX7_readRept 67 = .ok (.ifCond .lt 11, 3) := by decide +kernel
theorem dX7_readRept_70 : decode cX7_readRept 70 = .ok (.lload_n 2, 1) := by decide +kernel
theorem dX7_readRept_71 : decode cX7_readRept 71 = .ok (.ldc2_w 229, 3) := by decide +kernel
theorem dX7_readRept_74 : decode cX7_readRept 74 = .ok (.lcmp, 1) := by decide +kernel
theorem dX7_readRept_75 : decode cX7_readRept 75 = .ok (.ifCond .le 10, 3) := by decide +kernel
theorem dX7_readRept_78 : decode cX7_readRept 78 = .ok (.aload_n 0, 1) := by decide +kernel
theorem dX7_readRept_79 : decode cX7_readRept 79 = .ok (.bipush 7, 2) := by decide +kernel
theorem dX7_readRept_81 : decode cX7_readRept 81 = .ok (.invokevirtual 132, 3) := by decide +kernel
theorem dX7_readRept_84 : decode cX7_readRept 84 = .ok (.ireturn, 1) := by decide +kernel
theorem dX7_readRept_85 : decode cX7_readRept 85 = .ok (.iload_n 1, 1) := by decide +kernel
theorem dX7_readRept_86 : decode cX7_readRept 86 = .ok (.ifCond .ge 8, 3) := by decide +kernel
theorem dX7_readRept_89 : decode cX7_readRept 89 = .ok (.aload_n 0, 1) := by decide +kernel
theorem dX7_readRept_90 : decode cX7_readRept 90 = .ok (.invokevirtual 216, 3) := by decide +kernel
theorem dX7_readRept_93 : decode cX7_readRept 93 = .ok (.ireturn, 1) := by decide +kernel
theorem dX7_readRept_94 : decode cX7_readRept 94 = .ok (.lload_n 2, 1) := by decide +kernel
theorem dX7_readRept_95 : decode cX7_readRept 95 = .ok (.lconst 0, 1) := by decide +kernel
theorem dX7_readRept_96 : decode cX7_readRept 96 = .ok (.lcmp, 1) := by decide +kernel
theorem dX7_readRept_97 : decode cX7_readRept 97 = .ok (.ifCond .le 52, 3) := by decide +kernel
theorem dX7_readRept_100 : decode cX7_readRept 100 = .ok (.aload_n 0, 1) := by decide +kernel
theorem dX7_readRept_101 : decode cX7_readRept 101 = .ok (.getfield 69, 3) := by decide +kernel
theorem dX7_readRept_104 : decode cX7_readRept 104 = .ok (.iload_n 1, 1) := by decide +kernel
theorem dX7_readRept_105 : decode cX7_readRept 105 = .ok (.if_icmp .ge 44, 3) := by decide +kernel
theorem dX7_readRept_108 : decode cX7_readRept 108 = .ok (.aload_n 0, 1) := by decide +kernel
theorem dX7_readRept_109 : decode cX7_readRept 109 = .ok (.getfield 37, 3) := by decide +kernel
theorem dX7_readRept_112 : decode cX7_readRept 112 = .ok (.iconst 4, 1) := by decide +kernel
theorem dX7_readRept_113 : decode cX7_readRept 113 = .ok (.invokevirtual 212, 3) := by decide +kernel
theorem dX7_readRept_116 : decode cX7_readRept 116 = .ok (.astore 4, 2) := by decide +kernel
theorem dX7_readRept_118 : decode cX7_readRept 118 = .ok (.aload 4, 2) := by decide +kernel
theorem dX7_readRept_120 : decode cX7_readRept 120 = .ok (.ifnull 29, 3) := by decide +kernel
theorem dX7_readRept_123 : decode cX7_readRept 123 = .ok (.aload 4, 2) := by decide +kernel
theorem dX7_readRept_125 : decode cX7_readRept 125 = .ok (.lload_n 2, 1) := by decide +kernel
theorem dX7_readRept_126 : decode cX7_readRept 126 = .ok (.l2i, 1) := by decide +kernel
theorem dX7_readRept_127 : decode cX7_readRept 127 = .ok (.putfield 231, 3) := by decide +kernel
theorem dX7_readRept_130 : decode cX7_readRept 130 = .ok (.aload 4, 2) := by decide +kernel
theorem dX7_readRept_132 : decode cX7_readRept 132 = .ok (.aload_n 0, 1) := by decide +kernel
theorem dX7_readRept_133 : decode cX7_readRept 133 = .ok (.getfield 69, 3) := by decide +kernel
theorem dX7_readRept_136 : decode cX7_readRept 136 = .ok (.iload_n 1, 1) := by decide +kernel
theorem dX7_readRept_137 : decode cX7_readRept 137 = .ok (.iload_n 1, 1) := by decide +kernel
theorem dX7_readRept_138 : decode cX7_readRept 138 = .ok (.iconst 1, 1) := by decide +kernel
theorem dX7_readRept_139 : decode cX7_readRept 139 = .ok (.iadd, 1) := by decide +kernel
theorem dX7_readRept_140 : decode cX7_readRept 140 = .ok (.aload_n 0, 1) := by decide +kernel
theorem dX7_readRept_141 : decode cX7_readRept 141 = .ok (.getfield 79, 3) := by decide +kernel
theorem dX7_readRept_144 : decode cX7_readRept 144 = .ok (.invokevirtual 234, 3) := by decide +kernel
theorem dX7_readRept_147 : decode cX7_readRept 147 = .ok (.iconst 0, 1) := by decide +kernel
theorem dX7_readRept_148 : decode cX7_readRept 148 = .ok (.ireturn, 1) := by decide +kernel
theorem dX7_readRept_149 : decode cX7_readRept 149 = .ok (.aload_n 0, 1) := by decide +kernel
theorem dX7_readRept_150 : decode cX7_readRept 150 = .ok (.iload_n 1, 1) := by decide +kernel
theorem dX7_readRept_151 : decode cX7_readRept 151 = .ok (.iconst 1, 1) := by decide +kernel
theorem dX7_readRept_152 : decode cX7_readRept 152 = .ok (.iadd, 1) := by decide +kernel
theorem dX7_readRept_153 : decode cX7_readRept 153 = .ok (.putfield 69, 3) := by decide +kernel
theorem dX7_readRept_156 : decode cX7_readRept 156 = .ok (.iconst 0, 1) := by decide +kernel
theorem dX7_readRept_157 : decode cX7_readRept 157 = .ok (.ireturn, 1) := by decide +kernel
theorem dX7_readMacro_0 : decode cX7_readMacro 0 = .ok (.aload_n 0, 1) := by decide +kernel
theorem dX7_readMacro_1 : decode cX7_readMacro 1 = .ok (.getfield 37, 3) := by decide +kernel
theorem dX7_readMacro_4 : decode cX7_readMacro 4 = .ok (.invokevirtual 117, 3) := by decide +kernel
theorem dX7_readMacro_7 : decode cX7_readMacro 7 = .ok (.ifnull 10, 3) := by decide +kernel
theorem dX7_readMacro_10 : decode cX7_readMacro 10 = .ok (.aload_n 0, 1) := by decide +kernel
theorem dX7_readMacro_11 : decode cX7_readMacro 11 = .ok (.bipush 6, 2) := by decide +kernel
theorem dX7_readMacro_13 : decode cX7_readMacro 13 = .ok (.invokevirtual 132, 3) := by decide +kernel
theorem dX7_readMacro_16 : decode cX7_readMacro 16 = .ok (.ireturn, 1) := by decide +kernel
theorem dX7_readMacro_17 : decode cX7_readMacro 17 = .ok (.aload_n 0, 1) := by decide +kernel
theorem dX7_readMacro_18 : decode cX7_readMacro 18 = .ok (.getfield 30, 3) := by decide +kernel
theorem dX7_readMacro_21 : decode cX7_readMacro 21 = .ok (.iconst 1, 1) := by decide +kernel
theorem dX7_readMacro_22 : decode cX7_readMacro 22 = .ok (.invokevirtual 139, 3) := by decide +kernel
theorem dX7_readMacro_25 : decode cX7_readMacro 25 = .ok (.iconst 1, 1) := by decide +kernel
theorem dX7_readMacro_26 : decode cX7_readMacro 26 = .ok (.if_icmp .ne 17, 3) := by decide +kernel
theorem dX7_readMacro_29 : decode cX7_readMacro 29 = .ok (.aload_n 0, 1) := by decide +kernel
theorem dX7_readMacro_30 : decode cX7_readMacro 30 = .ok (.iconst 1, 1) := by decide +kernel
theorem dX7_readMacro_31 : decode cX7_readMacro 31 = .ok (.invokevirtual 238, 3) := by decide +kernel
theorem dX7_readMacro_34 : decode cX7_readMacro 34 = .ok (.ifCond .eq 9, 3) := by decide +kernel
theorem dX7_readMacro_37 : decode cX7_readMacro 37 = .ok (.aload_n 0, 1) := by decide +kernel
theorem dX7_readMacro_38 : decode cX7_readMacro 38 = .ok (.iconst 3, 1) := by decide +kernel
theorem dX7_readMacro_39 : decode cX7_readMacro 39 = .ok (.invokevirtual 132, 3) := by decide +kernel
theorem dX7_readMacro_42 : decode cX7_readMacro 42 = .ok (.ireturn, 1) := by decide +kernel
theorem dX7_readMacro_43 : decode cX7_readMacro 43 = .ok (.aload_n 0, 1) := by decide +kernel
theorem dX7_readMacro_44 : decode cX7_readMacro 44 = .ok (.invokevirtual 241, 3) := by decide +kernel
theorem dX7_readMacro_47 : decode cX7_readMacro 47 = .ok (.ifCond .ne 9, 3) := by decide +kernel
theorem dX7_readMacro_50 : decode cX7_readMacro 50 = .ok (.aload_n 0, 1) := by decide +kernel
theorem dX7_readMacro_51 : decode cX7_readMacro 51 = .ok (.iconst 1, 1) := by decide +kernel
theorem dX7_readMacro_52 : decode cX7_readMacro 52 = .ok (.invokevirtual 132, 3) := by decide +kernel
theorem dX7_readMacro_55 : decode cX7_readMacro 55 = .ok (.ireturn, 1) := by decide +kernel
theorem dX7_readMacro_56 : decode cX7_readMacro 56 = .ok (.aload_n 0, 1) := by decide +kernel
theorem dX7_readMacro_57 : decode cX7_readMacro 57 = .ok (.getfield 10, 3) := by decide +kernel
theorem dX7_readMacro_60 : decode cX7_readMacro 60 = .ok (.aload_n 0, 1) := by decide +kernel
theorem dX7_readMacro_61 : decode cX7_readMacro 61 = .ok (.getfield 69, 3) := by decide +kernel
theorem dX7_readMacro_64 : decode cX7_readMacro 64 = .ok (.aload_n 0, 1) := by decide +kernel
theorem dX7_readMacro_65 : decode cX7_readMacro 65 = .ok (.getfield 10, 3) := by decide +kernel
theorem dX7_readMacro_68 : decode cX7_readMacro 68 = .ok (.invokevirtual 92, 3) := by decide +kernel
theorem dX7_readMacro_71 : decode cX7_readMacro 71 = .ok (.bipush 6, 2) := by decide +kernel
theorem dX7_readMacro_73 : decode cX7_readMacro 73 = .ok (.iconst 0, 1) := by decide +kernel
theorem dX7_readMacro_74 : decode cX7_readMacro 74 = .ok (.invokevirtual 198, 3) := by decide +kernel
theorem dX7_readMacro_77 : decode cX7_readMacro 77 = .ok (.istore_n 1, 1) := by decide +kernel
theorem dX7_readMacro_78 : decode cX7_readMacro 78 = .ok (.iload_n 1, 1) := by decide +kernel
theorem dX7_readMacro_79 : decode cX7_readMacro 79 = .ok (.ifCond .ge 8, 3) := by decide +kernel
theorem dX7_readMacro_82 : decode cX7_readMacro 82 = .ok (.aload_n 0, 1) := by decide +kernel
theorem dX7_readMacro_83 : decode cX7_readMacro 83 = .ok (.invokevirtual 216, 3) := by decide +kernel
theorem dX7_readMacro_86 : decode cX7_readMacro 86 = .ok (.ireturn, 1) := by decide +kernel
theorem dX7_readMacro_87 : decode cX7_readMacro 87 = .ok (.aload_n 0, 1) := by decide +kernel
theorem dX7_readMacro_88 : decode cX7_readMacro 88 = .ok (.getfield 44, 3) := by decide +kernel
theorem dX7_readMacro_91 : decode cX7_readMacro 91 = .ok (.new 244, 3) := by decide +kernel
theorem dX7_readMacro_94 : decode cX7_readMacro 94 = .ok (.dup, 1) := by decide +kernel
theorem dX7_readMacro_95 : decode cX7_readMacro 95 = .ok (.aload_n 0, 1) := by decide +kernel
theorem dX7_readMacro_96 : decode cX7_readMacro 96 = .ok (.getfield 30, 3) := by decide +kernel
theorem dX7_readMacro_99 : decode cX7_readMacro 99 = .ok (.aload_n 0, 1) := by decide +kernel
theorem dX7_readMacro_100 : decode cX7_readMacro 100 = .ok (.getfield 10, 3) := by decide +kernel
theorem dX7_readMacro_103 : decode cX7_readMacro 103 = .ok (.aload_n 0, 1) := by decide +kernel
theorem dX7_readMacro_104 : decode cX7_readMacro 104 = .ok (.getfield 69, 3) := by decide +kernel
theorem dX7_readMacro_107 : decode cX7_readMacro 107 = .ok (.iconst 1, 1) := by decide +kernel
theorem dX7_readMacro_108 : decode cX7_readMacro 108 = .ok (.isub, 1) := by decide +kernel
theorem dX7_readMacro_109 : decode cX7_readMacro 109 = .ok (.invokevirtual 163, 3) := by decide +kernel
theorem dX7_readMacro_112 : decode cX7_readMacro 112 = .ok (.aload_n 0, 1) := by decide +kernel
theorem dX7_readMacro_113 : decode cX7_readMacro 113 = .ok (.getfield 69, 3) := by decide +kernel
theorem dX7_readMacro_116 : decode cX7_readMacro 116 = .ok (.iload_n 1, 1) := by decide +kernel
theorem dX7_readMacro_117 : decode cX7_readMacro 117 = .ok (.invokespecial 246, 3) := by decide +kernel
theorem dX7_readMacro_120 : decode cX7_readMacro 120 = .ok (.invokevirtual 249, 3) := by decide +kernel
theorem dX7_readMacro_123 : decode cX7_readMacro 123 = .ok (.pop, 1) := by decide +kernel
theorem dX7_readMacro_124 : decode cX7_readMacro 124 = .ok (.aload_n 0, 1) := by decide +kernel
theorem dX7_readMacro_125 : decode cX7_readMacro 125 = .ok (.iload_n 1, 1) := by decide +kernel
theorem dX7_readMacro_126 : decode cX7_readMacro 126 = .ok (.iconst 1, 1) := by decide +kernel
theorem dX7_readMacro_127 : decode cX7_readMacro 127 = .ok (.iadd, 1) := by decide +kernel
theorem dX7_readMacro_128 : decode cX7_readMacro 128 = .ok (.putfield 69, 3) := by decide +kernel
theorem dX7_readMacro_131 : decode cX7_readMacro 131 = .ok (.iconst 0, 1) := by decide +kernel
theorem dX7_readMacro_132 : decode cX7_readMacro 132 = .ok (.ireturn, 1) := by decide +kernel
theorem dX7_readMacroLines_0 : decode cX7_readMacroLines 0 = .ok (.aload_n 0, 1) := by decide +kernel
theorem dX7_readMacroLines_1 : decode cX7_readMacroLines 1 = .ok (.getfield 37, 3) := by decide +kernel
theorem dX7_readMacroLines_4 : decode cX7_readMacroLines 4 = .ok (.invokevirtual 253, 3) := by decide +kernel
theorem dX7_readMacroLines_7 : decode cX7_readMacroLines 7 = .ok (.astore_n 2, 1) := by decide +kernel
theorem dX7_readMacroLines_8 : decode cX7_readMacroLines 8 = .ok (.aload_n 2, 1) := by decide +kernel
theorem dX7_readMacroLines_9 : decode cX7_readMacroLines 9 = .ok (.ifnull 19, 3) := by decide +kernel
theorem dX7_readMacroLines_12 : decode cX7_readMacroLines 12 = .ok (.aload_n 2, 1) := by decide +kernel
theorem dX7_readMacroLines_13 : decode cX7_readMacroLines 13 = .ok (.aload_n 0, 1) := by decide +kernel
theorem dX7_readMacroLines_14 : decode cX7_readMacroLines 14 = .ok (.getfield 21, 3) := by decide +kernel
theorem dX7_readMacroLines_17 : decode cX7_readMacroLines 17 = .ok (.aload_n 0, 1) := by decide +kernel
theorem dX7_readMacroLines_18 : decode cX7_readMacroLines 18 = .ok (.getfield 30, 3) := by decide +kernel
theorem dX7_readMacroLines_21 : decode cX7_readMacroLines 21 = .ok (.aload_n 1, 1) := by decide +kernel
theorem dX7_readMacroLines_22 : decode cX7_readMacroLines 22 = .ok (.invokevirtual 256, 3) := by decide +kernel
theorem dX7_readMacroLines_25 : decode cX7_readMacroLines 25 = .ok (.ifCond .ne 10, 3) := by decide +kernel
theorem dX7_readMacroLines_28 : decode cX7_readMacroLines 28 = .ok (.aload_n 0, 1) := by decide +kernel
theorem dX7_readMacroLines_29 : decode cX7_readMacroLines 29 = .ok (.bipush 6, 2) := by decide +kernel
theorem dX7_readMacroLines_31 : decode cX7_readMacroLines 31 = .ok (.invokevirtual 132, 3) := by decide +kernel
theorem dX7_readMacroLines_34 : decode cX7_readMacroLines 34 = .ok (.ireturn, 1) := by decide +kernel
theorem dX7_readMacroLines_35 : decode cX7_readMacroLines 35 = .ok (.aload_n 2, 1) := by decide +kernel
theorem dX7_readMacroLines_36 : decode cX7_readMacroLines 36 = .ok (.aload_n 0, 1) := by decide +kernel
theorem dX7_readMacroLines_37 : decode cX7_readMacroLines 37 = .ok (.getfield 76, 3) := by decide +kernel
theorem dX7_readMacroLines_40 : decode cX7_readMacroLines 40 = .ok (.putfield 260, 3) := by decide +kernel
theorem dX7_readMacroLines_43 : decode cX7_readMacroLines 43 = .ok (.aload_n 0, 1) := by decide +kernel
theorem dX7_readMacroLines_44 : decode cX7_readMacroLines 44 = .ok (.dup, 1) := by decide +kernel
theorem dX7_readMacroLines_45 : decode cX7_readMacroLines 45 = .ok (.getfield 76, 3) := by decide +kernel
theorem dX7_readMacroLines_48 : decode cX7_readMacroLines 48 = .ok (.iconst 1, 1) := by decide +kernel
theorem dX7_readMacroLines_49 : decode cX7_readMacroLines 49 = .ok (.iadd, 1) := by decide +kernel
theorem dX7_readMacroLines_50 : decode cX7_readMacroLines 50 = .ok (.putfield 76, 3) := by decide +kernel
theorem dX7_readMacroLines_53 : decode cX7_readMacroLines 53 = .ok (.aload_n 2, 1) := by decide +kernel
theorem dX7_readMacroLines_54 : decode cX7_readMacroLines 54 = .ok (.aload_n 1, 1) := by decide +kernel
theorem dX7_readMacroLines_55 : decode cX7_readMacroLines 55 = .ok (.getfield 263, 3) := by decide +kernel
theorem dX7_readMacroLines_58 : decode cX7_readMacroLines 58 = .ok (.aload_n 1, 1) := by decide +kernel
theorem dX7_readMacroLines_59 : decode cX7_readMacroLines 59 = .ok (.getfield 266, 3) := by decide +kernel
theorem dX7_readMacroLines_62 : decode cX7_readMacroLines 62 = .ok (.aload_n 0, 1) := by decide +kernel
theorem dX7_readMacroLines_63 : decode cX7_readMacroLines 63 = .ok (.getfield 69, 3) := by decide +kernel
theorem dX7_readMacroLines_66 : decode cX7_readMacroLines 66 = .ok (.aload_n 0, 1) := by decide +kernel
theorem dX7_readMacroLines_67 : decode cX7_readMacroLines 67 = .ok (.getfield 79, 3) := by decide +kernel
theorem dX7_readMacroLines_70 : decode cX7_readMacroLines 70 = .ok (.invokevirtual 234, 3) := by decide +kernel
theorem dX7_readMacroLines_73 : decode cX7_readMacroLines 73 = .ok (.aload_n 0, 1) := by decide +kernel
theorem dX7_readMacroLines_74 : decode cX7_readMacroLines 74 = .ok (.getfield 37, 3) := by decide +kernel
theorem dX7_readMacroLines_77 : decode cX7_readMacroLines 77 = .ok (.bipush 6, 2) := by decide +kernel
theorem dX7_readMacroLines_79 : decode cX7_readMacroLines 79 = .ok (.invokevirtual 212, 3) := by decide +kernel
theorem dX7_readMacroLines_82 : decode cX7_readMacroLines 82 = .ok (.pop, 1) := by decide +kernel
theorem dX7_readMacroLines_83 : decode cX7_readMacroLines 83 = .ok (.aload_n 0, 1) := by decide +kernel
theorem dX7_readMacroLines_84 : decode cX7_readMacroLines 84 = .ok (.aload_n 1, 1) := by decide +kernel
theorem dX7_readMacroLines_85 : decode cX7_readMacroLines 85 = .ok (.getfield 263, 3) := by decide +kernel
theorem dX7_readMacroLines_88 : decode cX7_readMacroLines 88 = .ok (.putfield 69, 3) := by decide +kernel
theorem dX7_readMacroLines_91 : decode cX7_readMacroLines 91 = .ok (.iconst 0, 1) := by decide +kernel
theorem dX7_readMacroLines_92 : decode cX7_readMacroLines 92 = .ok (.ireturn, 1) := by decide +kernel
theorem dX7_endLines_0 : decode cX7_endLines 0 = .ok (.aload_n 0, 1) := by decide +kernel
theorem dX7_endLines_1 : decode cX7_endLines 1 = .ok (.getfield 37, 3) := by decide +kernel
theorem dX7_endLines_4 : decode cX7_endLines 4 = .ok (.invokevirtual 267, 3) := by decide +kernel
theorem dX7_endLines_7 : decode cX7_endLines 7 = .ok (.astore_n 1, 1) := by decide +kernel
theorem dX7_endLines_8 : decode cX7_endLines 8 = .ok (.aload_n 1, 1) := by decide +kernel
theorem dX7_endLines_9 : decode cX7_endLines 9 = .ok (.ifnonnull 5, 3) := by decide +kernel
theorem dX7_endLines_12 : decode cX7_endLines 12 = .ok (.iconst 2, 1) := by decide +kernel
theorem dX7_endLines_13 : decode cX7_endLines 13 = .ok (.ireturn, 1) := by decide +kernel
theorem dX7_endLines_14 : decode cX7_endLines 14 = .ok (.aload_n 1, 1) := by decide +kernel
theorem dX7_endLines_15 : decode cX7_endLines 15 = .ok (.invokevirtual 270, 3) := by decide +kernel
theorem dX7_endLines_18 : decode cX7_endLines 18 = .ok (.ifCond .ne 27, 3) := by decide +kernel
theorem dX7_endLines_21 : decode cX7_endLines 21 = .ok (.aload_n 0, 1) := by decide +kernel
theorem dX7_endLines_22 : decode cX7_endLines 22 = .ok (.getfield 37, 3) := by decide +kernel
theorem dX7_endLines_25 : decode cX7_endLines 25 = .ok (.invokevirtual 117, 3) := by decide +kernel
theorem dX7_endLines_28 : decode cX7_endLines 28 = .ok (.ifnonnull 10, 3) := by decide +kernel
theorem dX7_endLines_31 : decode cX7_endLines 31 = .ok (.aload_n 0, 1) := by decide +kernel
theorem dX7_endLines_32 : decode cX7_endLines 32 = .ok (.invokevirtual 216, 3) := by decide +kernel
theorem dX7_endLines_35 : decode cX7_endLines 35 = .ok (.goto 9, 3) := by decide +kernel
theorem dX7_endLines_38 : decode cX7_endLines 38 = .ok (.aload_n 0, 1) := by decide +kernel
theorem dX7_endLines_39 : decode cX7_endLines 39 = .ok (.bipush 6, 2) := by decide +kernel
theorem dX7_endLines_41 : decode cX7_endLines 41 = .ok (.invokevirtual 132, 3) := by decide +kernel
theorem dX7_endLines_44 : decode cX7_endLines 44 = .ok (.ireturn, 1) := by decide +kernel
theorem dX7_endLines_45 : decode cX7_endLines 45 = .ok (.aload_n 1, 1) := by decide +kernel
theorem dX7_endLines_46 : decode cX7_endLines 46 = .ok (.dup, 1) := by decide +kernel
theorem dX7_endLines_47 : decode cX7_endLines 47 = .ok (.getfield 231, 3) := by decide +kernel
theorem dX7_endLines_50 : decode cX7_endLines 50 = .ok (.iconst 1, 1) := by decide +kernel
theorem dX7_endLines_51 : decode cX7_endLines 51 = .ok (.isub, 1) := by decide +kernel
theorem dX7_endLines_52 : decode cX7_endLines 52 = .ok (.putfield 231, 3) := by decide +kernel
theorem dX7_endLines_55 : decode cX7_endLines 55 = .ok (.aload_n 1, 1) := by decide +kernel
theorem dX7_endLines_56 : decode cX7_endLines 56 = .ok (.getfield 273, 3) := by decide +kernel
theorem dX7_endLines_59 : decode cX7_endLines 59 = .ok (.iconst 4, 1) := by decide +kernel
theorem dX7_endLines_60 : decode cX7_endLines 60 = .ok (.if_icmp .ne 20, 3) := by decide +kernel
theorem dX7_endLines_63 : decode cX7_endLines 63 = .ok (.aload_n 1, 1) := by decide +kernel
theorem dX7_endLines_64 : decode cX7_endLines 64 = .ok (.getfield 231, 3) := by decide +kernel
theorem dX7_endLines_67 : decode cX7_endLines 67 = .ok (.ifCond .le 13, 3) := by decide +kernel
theorem dX7_endLines_70 : decode cX7_endLines 70 = .ok (.aload_n 0, 1) := by decide +kernel
theorem dX7_endLines_71 : decode cX7_endLines 71 = .ok (.aload_n 1, 1) := by decide +kernel
theorem dX7_endLines_72 : decode cX7_endLines 72 = .ok (.getfield 275, 3) := by decide +kernel
theorem dX7_endLines_75 : decode cX7_endLines 75 = .ok (.putfield 69, 3) := by decide +kernel
theorem dX7_endLines_78 : decode cX7_endLines 78 = .ok (.iconst 0, 1) := by decide +kernel
theorem dX7_endLines_79 : decode cX7_endLines 79 = .ok (.ireturn, 1) := by decide +kernel
theorem dX7_endLines_80 : decode cX7_endLines 80 = .ok (.aload_n 0, 1) := by decide +kernel
theorem dX7_endLines_81 : decode cX7_endLines 81 = .ok (.aload_n 1, 1) := by decide +kernel
theorem dX7_endLines_82 : decode cX7_endLines 82 = .ok (.getfield 276, 3) := by decide +kernel
theorem dX7_endLines_85 : decode cX7_endLines 85 = .ok (.putfield 69, 3) := by decide +kernel
theorem dX7_endLines_88 : decode cX7_endLines 88 = .ok (.aload_n 0, 1) := by decide +kernel
theorem dX7_endLines_89 : decode cX7_endLines 89 = .ok (.getfield 37, 3) := by decide +kernel
theorem dX7_endLines_92 : decode cX7_endLines 92 = .ok (.invokevirtual 226, 3) := by decide +kernel
theorem dX7_endLines_95 : decode cX7_endLines 95 = .ok (.iconst 0, 1) := by decide +kernel
theorem dX7_endLines_96 : decode cX7_endLines 96 = .ok (.ireturn, 1) := by decide +kernel
theorem dX7_tell_0 : decode cX7_tell 0 = .ok (.aload_n 0, 1) := by decide +kernel
theorem dX7_tell_1 : decode cX7_tell 1 = .ok (.iload_n 1, 1) := by decide +kernel
theorem dX7_tell_2 : decode cX7_tell 2 = .ok (.putfield 82, 3) := by decide +kernel
theorem dX7_tell_5 : decode cX7_tell 5 = .ok (.iconst 2, 1) := by decide +kernel
theorem dX7_tell_6 : decode cX7_tell 6 = .ok (.ireturn, 1) := by decide +kernel
theorem dX7_tellUnended_0 : decode cX7_tellUnended 0 = .ok (.aload_n 0, 1) := by decide +kernel
theorem dX7_tellUnended_1 : decode cX7_tellUnended 1 = .ok (.aload_n 0, 1) := by decide +kernel
theorem dX7_tellUnended_2 : decode cX7_tellUnended 2 = .ok (.getfield 10, 3) := by decide +kernel
theorem dX7_tellUnended_5 : decode cX7_tellUnended 5 = .ok (.invokevirtual 92, 3) := by decide +kernel
theorem dX7_tellUnended_8 : decode cX7_tellUnended 8 = .ok (.putfield 79, 3) := by decide +kernel
theorem dX7_tellUnended_11 : decode cX7_tellUnended 11 = .ok (.aload_n 0, 1) := by decide +kernel
theorem dX7_tellUnended_12 : decode cX7_tellUnended 12 = .ok (.bipush 6, 2) := by decide +kernel
theorem dX7_tellUnended_14 : decode cX7_tellUnended 14 = .ok (.invokevirtual 132, 3) := by decide +kernel
theorem dX7_tellUnended_17 : decode cX7_tellUnended 17 = .ok (.ireturn, 1) := by decide +kernel
theorem dX7_isEndMissing_0 : decode cX7_isEndMissing 0 = .ok (.iload_n 1, 1) := by decide +kernel
theorem dX7_isEndMissing_1 : decode cX7_isEndMissing 1 = .ok (.ifCond .ge 17, 3) := by decide +kernel
theorem dX7_isEndMissing_4 : decode cX7_isEndMissing 4 = .ok (.aload_n 0, 1) := by decide +kernel
theorem dX7_isEndMissing_5 : decode cX7_isEndMissing 5 = .ok (.getfield 37, 3) := by decide +kernel
theorem dX7_isEndMissing_8 : decode cX7_isEndMissing 8 = .ok (.invokevirtual 117, 3) := by decide +kernel
theorem dX7_isEndMissing_11 : decode cX7_isEndMissing 11 = .ok (.ifnull 7, 3) := by decide +kernel
theorem dX7_isEndMissing_14 : decode cX7_isEndMissing 14 = .ok (.iconst 1, 1) := by decide +kernel
theorem dX7_isEndMissing_15 : decode cX7_isEndMissing 15 = .ok (.goto 4, 3) := by decide +kernel
theorem dX7_isEndMissing_18 : decode cX7_isEndMissing 18 = .ok (.iconst 0, 1) := by decide +kernel
theorem dX7_isEndMissing_19 : decode cX7_isEndMissing 19 = .ok (.ireturn, 1) := by decide +kernel
theorem dX7_isNumberAlone_0 : decode cX7_isNumberAlone 0 = .ok (.aload_n 0, 1) := by decide +kernel
theorem dX7_isNumberAlone_1 : decode cX7_isNumberAlone 1 = .ok (.getfield 30, 3) := by decide +kernel
theorem dX7_isNumberAlone_4 : decode cX7_isNumberAlone 4 = .ok (.invokevirtual 225, 3) := by decide +kernel
theorem dX7_isNumberAlone_7 : decode cX7_isNumberAlone 7 = .ok (.iconst 2, 1) := by decide +kernel
theorem dX7_isNumberAlone_8 : decode cX7_isNumberAlone 8 = .ok (.if_icmp .ne 19, 3) := by decide +kernel
theorem dX7_isNumberAlone_11 : decode cX7_isNumberAlone 11 = .ok (.aload_n 0, 1) := by decide +kernel
theorem dX7_isNumberAlone_12 : decode cX7_isNumberAlone 12 = .ok (.getfield 30, 3) := by decide +kernel
theorem dX7_isNumberAlone_15 : decode cX7_isNumberAlone 15 = .ok (.iconst 1, 1) := by decide +kernel
theorem dX7_isNumberAlone_16 : decode cX7_isNumberAlone 16 = .ok (.invokevirtual 139, 3) := by decide +kernel
theorem dX7_isNumberAlone_19 : decode cX7_isNumberAlone 19 = .ok (.iconst 2, 1) := by decide +kernel
theorem dX7_isNumberAlone_20 : decode cX7_isNumberAlone 20 = .ok (.if_icmp .ne 7, 3) := by decide +kernel
theorem dX7_isNumberAlone_23 : decode cX7_isNumberAlone 23 = .ok (.iconst 1, 1) := by decide +kernel
theorem dX7_isNumberAlone_24 : decode cX7_isNumberAlone 24 = .ok (.goto 4, 3) := by decide +kernel
theorem dX7_isNumberAlone_27 : decode cX7_isNumberAlone 27 = .ok (.iconst 0, 1) := by decide +kernel
theorem dX7_isNumberAlone_28 : decode cX7_isNumberAlone 28 = .ok (.ireturn, 1) := by decide +kernel
theorem dX7_isHeading_0 : decode cX7_isHeading 0 = .ok (.aload_n 0, 1) := by decide +kernel
theorem dX7_isHeading_1 : decode cX7_isHeading 1 = .ok (.getfield 30, 3) := by decide +kernel
theorem dX7_isHeading_4 : decode cX7_isHeading 4 = .ok (.invokevirtual 225, 3) := by decide +kernel
theorem dX7_isHeading_7 : decode cX7_isHeading 7 = .ok (.istore_n 1, 1) := by decide +kernel
theorem dX7_isHeading_8 : decode cX7_isHeading 8 = .ok (.aload_n 0, 1) := by decide +kernel
theorem dX7_isHeading_9 : decode cX7_isHeading 9 = .ok (.getfield 30, 3) := by decide +kernel
theorem dX7_isHeading_12 : decode cX7_isHeading 12 = .ok (.iconst 1, 1) := by decide +kernel
theorem dX7_isHeading_13 : decode cX7_isHeading 13 = .ok (.invokevirtual 139, 3) := by decide +kernel
theorem dX7_isHeading_16 : decode cX7_isHeading 16 = .ok (.iconst 1, 1) := by decide +kernel
theorem dX7_isHeading_17 : decode cX7_isHeading 17 = .ok (.if_icmp .ne 14, 3) := by decide +kernel
theorem dX7_isHeading_20 : decode cX7_isHeading 20 = .ok (.iload_n 1, 1) := by decide +kernel
theorem dX7_isHeading_21 : decode cX7_isHeading 21 = .ok (.iconst 2, 1) := by decide +kernel
theorem dX7_isHeading_22 : decode cX7_isHeading 22 = .ok (.if_icmp .le 11, 3) := by decide +kernel
theorem dX7_isHeading_25 : decode cX7_isHeading 25 = .ok (.iload_n 1, 1) := by decide +kernel
theorem dX7_isHeading_26 : decode cX7_isHeading 26 = .ok (.iconst 2, 1) := by decide +kernel
theorem dX7_isHeading_27 : decode cX7_isHeading 27 = .ok (.irem, 1) := by decide +kernel
theorem dX7_isHeading_28 : decode cX7_isHeading 28 = .ok (.ifCond .ne 5, 3) := by decide +kernel
theorem dX7_isHeading_31 : decode cX7_isHeading 31 = .ok (.iconst 0, 1) := by decide +kernel
theorem dX7_isHeading_32 : decode cX7_isHeading 32 = .ok (.ireturn, 1) := by decide +kernel
theorem dX7_isHeading_33 : decode cX7_isHeading 33 = .ok (.iconst 2, 1) := by decide +kernel
theorem dX7_isHeading_34 : decode cX7_isHeading 34 = .ok (.istore_n 2, 1) := by decide +kernel
theorem dX7_isHeading_35 : decode cX7_isHeading 35 = .ok (.iload_n 2, 1) := by decide +kernel
theorem dX7_isHeading_36 : decode cX7_isHeading 36 = .ok (.iload_n 1, 1) := by decide +kernel
theorem dX7_isHeading_37 : decode cX7_isHeading 37 = .ok (.if_icmp .ge 34, 3) := by decide +kernel
theorem dX7_isHeading_40 : decode cX7_isHeading 40 = .ok (.aload_n 0, 1) := by decide +kernel
theorem dX7_isHeading_41 : decode cX7_isHeading 41 = .ok (.getfield 30, 3) := by decide +kernel
theorem dX7_isHeading_44 : decode cX7_isHeading 44 = .ok (.iload_n 2, 1) := by decide +kernel
theorem dX7_isHeading_45 : decode cX7_isHeading 45 = .ok (.invokevirtual 139, 3) := by decide +kernel
theorem dX7_isHeading_48 : decode cX7_isHeading 48 = .ok (.iload_n 2, 1) := by decide +kernel
theorem dX7_isHeading_49 : decode cX7_isHeading 49 = .ok (.iconst 2, 1) := by decide +kernel
theorem dX7_isHeading_50 : decode cX7_isHeading 50 = .ok (.irem, 1) := by decide +kernel
theorem dX7_isHeading_51 : decode cX7_isHeading 51 = .ok (.ifCond .ne 7, 3) := by decide +kernel
theorem dX7_isHeading_54 : decode cX7_isHeading 54 = .ok (.iconst 1, 1) := by decide +kernel
theorem dX7_isHeading_55 : decode cX7_isHeading 55 = .ok (.goto 5, 3) := by decide +kernel
theorem dX7_isHeading_58 : decode cX7_isHeading 58 = .ok (.bipush 44, 2) := by decide +kernel
theorem dX7_isHeading_60 : decode cX7_isHeading 60 = .ok (.if_icmp .eq 5, 3) := by decide +kernel
theorem dX7_isHeading_63 : decode cX7_isHeading 63 = .ok (.iconst 0, 1) := by decide +kernel
theorem dX7_isHeading_64 : decode cX7_isHeading 64 = .ok (.ireturn, 1) := by decide +kernel
theorem dX7_isHeading_65 : decode cX7_isHeading 65 = .ok (.iinc 2 1, 3) := by decide +kernel
theorem dX7_isHeading_68 : decode cX7_isHeading 68 = .ok (.goto (-33), 3) := by decide +kernel
theorem dX7_isHeading_71 : decode cX7_isHeading 71 = .ok (.iconst 1, 1) := by decide +kernel
theorem dX7_isHeading_72 : decode cX7_isHeading 72 = .ok (.ireturn, 1) := by decide +kernel
theorem dX7_isTaken_0 : decode cX7_isTaken 0 = .ok (.aload_n 0, 1) := by decide +kernel
theorem dX7_isTaken_1 : decode cX7_isTaken 1 = .ok (.getfield 21, 3) := by decide +kernel
theorem dX7_isTaken_4 : decode cX7_isTaken 4 = .ok (.aload_n 0, 1) := by decide +kernel
theorem dX7_isTaken_5 : decode cX7_isTaken 5 = .ok (.getfield 30, 3) := by decide +kernel
theorem dX7_isTaken_8 : decode cX7_isTaken 8 = .ok (.iload_n 1, 1) := by decide +kernel
theorem dX7_isTaken_9 : decode cX7_isTaken 9 = .ok (.invokevirtual 142, 3) := by decide +kernel
theorem dX7_isTaken_12 : decode cX7_isTaken 12 = .ok (.aload_n 0, 1) := by decide +kernel
theorem dX7_isTaken_13 : decode cX7_isTaken 13 = .ok (.getfield 30, 3) := by decide +kernel
theorem dX7_isTaken_16 : decode cX7_isTaken 16 = .ok (.iload_n 1, 1) := by decide +kernel
theorem dX7_isTaken_17 : decode cX7_isTaken 17 = .ok (.invokevirtual 145, 3) := by decide +kernel
theorem dX7_isTaken_20 : decode cX7_isTaken 20 = .ok (.invokestatic 148, 3) := by decide +kernel
theorem dX7_isTaken_23 : decode cX7_isTaken 23 = .ok (.ifCond .ne 11, 3) := by decide +kernel
theorem dX7_isTaken_26 : decode cX7_isTaken 26 = .ok (.aload_n 0, 1) := by decide +kernel
theorem dX7_isTaken_27 : decode cX7_isTaken 27 = .ok (.iload_n 1, 1) := by decide +kernel
theorem dX7_isTaken_28 : decode cX7_isTaken 28 = .ok (.invokevirtual 155, 3) := by decide +kernel
theorem dX7_isTaken_31 : decode cX7_isTaken 31 = .ok (.ifnull 7, 3) := by decide +kernel
theorem dX7_isTaken_34 : decode cX7_isTaken 34 = .ok (.iconst 1, 1) := by decide +kernel
theorem dX7_isTaken_35 : decode cX7_isTaken 35 = .ok (.goto 4, 3) := by decide +kernel
theorem dX7_isTaken_38 : decode cX7_isTaken 38 = .ok (.iconst 0, 1) := by decide +kernel
theorem dX7_isTaken_39 : decode cX7_isTaken 39 = .ok (.ireturn, 1) := by decide +kernel
theorem dX7_macroNamed_0 : decode cX7_macroNamed 0 = .ok (.aload_n 0, 1) := by decide +kernel
theorem dX7_macroNamed_1 : decode cX7_macroNamed 1 = .ok (.getfield 30, 3) := by decide +kernel
theorem dX7_macroNamed_4 : decode cX7_macroNamed 4 = .ok (.iload_n 1, 1) := by decide +kernel
theorem dX7_macroNamed_5 : decode cX7_macroNamed 5 = .ok (.invokevirtual 142, 3) := by decide +kernel
theorem dX7_macroNamed_8 : decode cX7_macroNamed 8 = .ok (.istore_n 2, 1) := by decide +kernel
theorem dX7_macroNamed_9 : decode cX7_macroNamed 9 = .ok (.aload_n 0, 1) := by decide +kernel
theorem dX7_macroNamed_10 : decode cX7_macroNamed 10 = .ok (.getfield 30, 3) := by decide +kernel
theorem dX7_macroNamed_13 : decode cX7_macroNamed 13 = .ok (.iload_n 1, 1) := by decide +kernel
theorem dX7_macroNamed_14 : decode cX7_macroNamed 14 = .ok (.invokevirtual 145, 3) := by decide +kernel
theorem dX7_macroNamed_17 : decode cX7_macroNamed 17 = .ok (.iload_n 2, 1) := by decide +kernel
theorem dX7_macroNamed_18 : decode cX7_macroNamed 18 = .ok (.isub, 1) := by decide +kernel
theorem dX7_macroNamed_19 : decode cX7_macroNamed 19 = .ok (.istore_n 3, 1) := by decide +kernel
theorem dX7_macroNamed_20 : decode cX7_macroNamed 20 = .ok (.iconst 0, 1) := by decide +kernel
theorem dX7_macroNamed_21 : decode cX7_macroNamed 21 = .ok (.istore 4, 2) := by decide +kernel
theorem dX7_macroNamed_23 : decode cX7_macroNamed 23 = .ok (.iload 4, 2) := by decide +kernel
theorem dX7_macroNamed_25 : decode cX7_macroNamed 25 = .ok (.aload_n 0, 1) := by decide +kernel
theorem dX7_macroNamed_26 : decode cX7_macroNamed 26 = .ok (.getfield 44, 3) := by decide +kernel
theorem dX7_macroNamed_29 : decode cX7_macroNamed 29 = .ok (.invokevirtual 279, 3) := by decide +kernel
theorem dX7_macroNamed_32 : decode cX7_macroNamed 32 = .ok (.if_icmp .ge 59, 3) := by decide +kernel
theorem dX7_macroNamed_35 : decode cX7_macroNamed 35 = .ok (.aload_n 0, 1) := by decide +kernel
theorem dX7_macroNamed_36 : decode cX7_macroNamed 36 = .ok (.getfield 44, 3) := by decide +kernel
theorem dX7_macroNamed_39 : decode cX7_macroNamed 39 = .ok (.iload 4, 2) := by decide +kernel
theorem dX7_macroNamed_41 : decode cX7_macroNamed 41 = .ok (.invokevirtual 280, 3) := by decide +kernel
theorem dX7_macroNamed_44 : decode cX7_macroNamed 44 = .ok (.checkcast 244, 3) := by decide +kernel
theorem dX7_macroNamed_47 : decode cX7_macroNamed 47 = .ok (.astore 5, 2) := by decide +kernel
theorem dX7_macroNamed_49 : decode cX7_macroNamed 49 = .ok (.aload 5, 2) := by decide +kernel
theorem dX7_macroNamed_51 : decode cX7_macroNamed 51 = .ok (.getfield 284, 3) := by decide +kernel
theorem dX7_macroNamed_54 : decode cX7_macroNamed 54 = .ok (.iload_n 3, 1) := by decide +kernel
theorem dX7_macroNamed_55 : decode cX7_macroNamed 55 = .ok (.if_icmp .ne 30, 3) := by decide +kernel
theorem dX7_macroNamed_58 : decode cX7_macroNamed 58 = .ok (.aload_n 0, 1) := by decide +kernel
theorem dX7_macroNamed_59 : decode cX7_macroNamed 59 = .ok (.getfield 10, 3) := by decide +kernel
theorem dX7_macroNamed_62 : decode cX7_macroNamed 62 = .ok (.invokevirtual 168, 3) := by decide +kernel
theorem dX7_macroNamed_65 : decode cX7_macroNamed 65 = .ok (.aload 5, 2) := by decide +kernel
theorem dX7_macroNamed_67 : decode cX7_macroNamed 67 = .ok (.getfield 287, 3) := by decide +kernel
theorem dX7_macroNamed_70 : decode cX7_macroNamed 70 = .ok (.iload_n 3, 1) := by decide +kernel
theorem dX7_macroNamed_71 : decode cX7_macroNamed 71 = .ok (.aload_n 0, 1) := by decide +kernel
theorem dX7_macroNamed_72 : decode cX7_macroNamed 72 = .ok (.getfield 21, 3) := by decide +kernel
theorem dX7_macroNamed_75 : decode cX7_macroNamed 75 = .ok (.iload_n 2, 1) := by decide +kernel
theorem dX7_macroNamed_76 : decode cX7_macroNamed 76 = .ok (.invokevirtual 290, 3) := by decide +kernel
theorem dX7_macroNamed_79 : decode cX7_macroNamed 79 = .ok (.ifCond .eq 6, 3) := by decide +kernel
theorem dX7_macroNamed_82 : decode cX7_macroNamed 82 = .ok (.aload 5, 2) := by decide +kernel
theorem dX7_macroNamed_84 : decode cX7_macroNamed 84 = .ok (.areturn, 1) := by decide +kernel
theorem dX7_macroNamed_85 : decode cX7_macroNamed 85 = .ok (.iinc 4 1, 3) := by decide +kernel
theorem dX7_macroNamed_88 : decode cX7_macroNamed 88 = .ok (.goto (-65), 3) := by decide +kernel
theorem dX7_macroNamed_91 : decode cX7_macroNamed 91 = .ok (.aconst_null, 1) := by decide +kernel
theorem dX7_macroNamed_92 : decode cX7_macroNamed 92 = .ok (.areturn, 1) := by decide +kernel
theorem dX7_wordIn_0 : decode cX7_wordIn 0 = .ok (.iconst 1, 1) := by decide +kernel
theorem dX7_wordIn_1 : decode cX7_wordIn 1 = .ok (.istore_n 3, 1) := by decide +kernel
theorem dX7_wordIn_2 : decode cX7_wordIn 2 = .ok (.iload_n 3, 1) := by decide +kernel
theorem dX7_wordIn_3 : decode cX7_wordIn 3 = .ok (.bipush 7, 2) := by decide +kernel
theorem dX7_wordIn_5 : decode cX7_wordIn 5 = .ok (.if_icmp .gt 24, 3) := by decide +kernel
theorem dX7_wordIn_8 : decode cX7_wordIn 8 = .ok (.aload_n 0, 1) := by decide +kernel
theorem dX7_wordIn_9 : decode cX7_wordIn 9 = .ok (.iload_n 3, 1) := by decide +kernel
theorem dX7_wordIn_10 : decode cX7_wordIn 10 = .ok (.invokestatic 294, 3) := by decide +kernel
theorem dX7_wordIn_13 : decode cX7_wordIn 13 = .ok (.iload_n 1, 1) := by decide +kernel
theorem dX7_wordIn_14 : decode cX7_wordIn 14 = .ok (.iload_n 2, 1) := by decide +kernel
theorem dX7_wordIn_15 : decode cX7_wordIn 15 = .ok (.invokevirtual 298, 3) := by decide +kernel
theorem dX7_wordIn_18 : decode cX7_wordIn 18 = .ok (.ifCond .eq 5, 3) := by decide +kernel
theorem dX7_wordIn_21 : decode cX7_wordIn 21 = .ok (.iload_n 3, 1) := by decide +kernel
theorem dX7_wordIn_22 : decode cX7_wordIn 22 = .ok (.ireturn, 1) := by decide +kernel
theorem dX7_wordIn_23 : decode cX7_wordIn 23 = .ok (.iinc 3 1, 3) := by decide +kernel
theorem dX7_wordIn_26 : decode cX7_wordIn 26 = .ok (.goto (-24), 3) := by decide +kernel
theorem dX7_wordIn_29 : decode cX7_wordIn 29 = .ok (.iconst 0, 1) := by decide +kernel
theorem dX7_wordIn_30 : decode cX7_wordIn 30 = .ok (.ireturn, 1) := by decide +kernel
theorem dX7_spelling_0 : decode cX7_spelling 0 = .ok (.iload_n 0, 1) := by decide +kernel
theorem dX7_spelling_1 : decode cX7_spelling 1 = .ok (.tableswitch 63 1 6 #[39, 43, 47, 51, 55, 59], 39) := by decide +kernel
theorem dX7_spelling_40 : decode cX7_spelling 40 = .ok (.ldc_w 302, 3) := by decide +kernel
theorem dX7_spelling_43 : decode cX7_spelling 43 = .ok (.areturn, 1) := by decide +kernel
theorem dX7_spelling_44 : decode cX7_spelling 44 = .ok (.ldc_w 304, 3) := by decide +kernel
theorem dX7_spelling_47 : decode cX7_spelling 47 = .ok (.areturn, 1) := by decide +kernel
theorem dX7_spelling_48 : decode cX7_spelling 48 = .ok (.ldc_w 306, 3) := by decide +kernel
theorem dX7_spelling_51 : decode cX7_spelling 51 = .ok (.areturn, 1) := by decide +kernel
theorem dX7_spelling_52 : decode cX7_spelling 52 = .ok (.ldc_w 308, 3) := by decide +kernel
theorem dX7_spelling_55 : decode cX7_spelling 55 = .ok (.areturn, 1) := by decide +kernel
theorem dX7_spelling_56 : decode cX7_spelling 56 = .ok (.ldc_w 310, 3) := by decide +kernel
theorem dX7_spelling_59 : decode cX7_spelling 59 = .ok (.areturn, 1) := by decide +kernel
theorem dX7_spelling_60 : decode cX7_spelling 60 = .ok (.ldc_w 312, 3) := by decide +kernel
theorem dX7_spelling_63 : decode cX7_spelling 63 = .ok (.areturn, 1) := by decide +kernel
theorem dX7_spelling_64 : decode cX7_spelling 64 = .ok (.ldc_w 314, 3) := by decide +kernel
theorem dX7_spelling_67 : decode cX7_spelling 67 = .ok (.areturn, 1) := by decide +kernel
theorem dX7_endWord_0 : decode cX7_endWord 0 = .ok (.iload_n 0, 1) := by decide +kernel
theorem dX7_endWord_1 : decode cX7_endWord 1 = .ok (.lookupswitch 31 #[(1, 27), (4, 29)], 27) := by decide +kernel
theorem dX7_endWord_28 : decode cX7_endWord 28 = .ok (.iconst 3, 1) := by decide +kernel
theorem dX7_endWord_29 : decode cX7_endWord 29 = .ok (.ireturn, 1) := by decide +kernel
theorem dX7_endWord_30 : decode cX7_endWord 30 = .ok (.iconst 5, 1) := by decide +kernel
theorem dX7_endWord_31 : decode cX7_endWord 31 = .ok (.ireturn, 1) := by decide +kernel
theorem dX7_endWord_32 : decode cX7_endWord 32 = .ok (.bipush 7, 2) := by decide +kernel
theorem dX7_endWord_34 : decode cX7_endWord 34 = .ok (.ireturn, 1) := by decide +kernel
theorem dX7_isBlank_0 : decode cX7_isBlank 0 = .ok (.iload_n 0, 1) := by decide +kernel
theorem dX7_isBlank_1 : decode cX7_isBlank 1 = .ok (.bipush 9, 2) := by decide +kernel
theorem dX7_isBlank_3 : decode cX7_isBlank 3 = .ok (.if_icmp .eq 9, 3) := by decide +kernel
theorem dX7_isBlank_6 : decode cX7_isBlank 6 = .ok (.iload_n 0, 1) := by decide +kernel
theorem dX7_isBlank_7 : decode cX7_isBlank 7 = .ok (.bipush 32, 2) := by decide +kernel
theorem dX7_isBlank_9 : decode cX7_isBlank 9 = .ok (.if_icmp .ne 7, 3) := by decide +kernel
theorem dX7_isBlank_12 : decode cX7_isBlank 12 = .ok (.iconst 1, 1) := by decide +kernel
theorem dX7_isBlank_13 : decode cX7_isBlank 13 = .ok (.goto 4, 3) := by decide +kernel
theorem dX7_isBlank_16 : decode cX7_isBlank 16 = .ok (.iconst 0, 1) := by decide +kernel
theorem dX7_isBlank_17 : decode cX7_isBlank 17 = .ok (.ireturn, 1) := by decide +kernel
theorem dX7_isDigit_0 : decode cX7_isDigit 0 = .ok (.iload_n 0, 1) := by decide +kernel
theorem dX7_isDigit_1 : decode cX7_isDigit 1 = .ok (.bipush 48, 2) := by decide +kernel
theorem dX7_isDigit_3 : decode cX7_isDigit 3 = .ok (.if_icmp .lt 13, 3) := by decide +kernel
theorem dX7_isDigit_6 : decode cX7_isDigit 6 = .ok (.iload_n 0, 1) := by decide +kernel
theorem dX7_isDigit_7 : decode cX7_isDigit 7 = .ok (.bipush 57, 2) := by decide +kernel
theorem dX7_isDigit_9 : decode cX7_isDigit 9 = .ok (.if_icmp .gt 7, 3) := by decide +kernel
theorem dX7_isDigit_12 : decode cX7_isDigit 12 = .ok (.iconst 1, 1) := by decide +kernel
theorem dX7_isDigit_13 : decode cX7_isDigit 13 = .ok (.goto 4, 3) := by decide +kernel
theorem dX7_isDigit_16 : decode cX7_isDigit 16 = .ok (.iconst 0, 1) := by decide +kernel
theorem dX7_isDigit_17 : decode cX7_isDigit 17 = .ok (.ireturn, 1) := by decide +kernel
theorem dX7_isNameByte_0 : decode cX7_isNameByte 0 = .ok (.iload_n 0, 1) := by decide +kernel
theorem dX7_isNameByte_1 : decode cX7_isNameByte 1 = .ok (.bipush 97, 2) := by decide +kernel
theorem dX7_isNameByte_3 : decode cX7_isNameByte 3 = .ok (.if_icmp .lt 9, 3) := by decide +kernel
theorem dX7_isNameByte_6 : decode cX7_isNameByte 6 = .ok (.iload_n 0, 1) := by decide +kernel
theorem dX7_isNameByte_7 : decode cX7_isNameByte 7 = .ok (.bipush 122, 2) := by decide +kernel
theorem dX7_isNameByte_9 : decode cX7_isNameByte 9 = .ok (.if_icmp .le 34, 3) := by decide +kernel
theorem dX7_isNameByte_12 : decode cX7_isNameByte 12 = .ok (.iload_n 0, 1) := by decide +kernel
theorem dX7_isNameByte_13 : decode cX7_isNameByte 13 = .ok (.bipush 65, 2) := by decide +kernel
theorem dX7_isNameByte_15 : decode cX7_isNameByte 15 = .ok (.if_icmp .lt 9, 3) := by decide +kernel
theorem dX7_isNameByte_18 : decode cX7_isNameByte 18 = .ok (.iload_n 0, 1) := by decide +kernel
theorem dX7_isNameByte_19 : decode cX7_isNameByte 19 = .ok (.bipush 90, 2) := by decide +kernel
theorem dX7_isNameByte_21 : decode cX7_isNameByte 21 = .ok (.if_icmp .le 22, 3) := by decide +kernel
theorem dX7_isNameByte_24 : decode cX7_isNameByte 24 = .ok (.iload_n 0, 1) := by decide +kernel
theorem dX7_isNameByte_25 : decode cX7_isNameByte 25 = .ok (.invokestatic 316, 3) := by decide +kernel
theorem dX7_isNameByte_28 : decode cX7_isNameByte 28 = .ok (.ifCond .ne 15, 3) := by decide +kernel
theorem dX7_isNameByte_31 : decode cX7_isNameByte 31 = .ok (.iload_n 0, 1) := by decide +kernel
theorem dX7_isNameByte_32 : decode cX7_isNameByte 32 = .ok (.bipush 95, 2) := by decide +kernel
theorem dX7_isNameByte_34 : decode cX7_isNameByte 34 = .ok (.if_icmp .eq 9, 3) := by decide +kernel
theorem dX7_isNameByte_37 : decode cX7_isNameByte 37 = .ok (.iload_n 0, 1) := by decide +kernel
theorem dX7_isNameByte_38 : decode cX7_isNameByte 38 = .ok (.bipush 46, 2) := by decide +kernel
theorem dX7_isNameByte_40 : decode cX7_isNameByte 40 = .ok (.if_icmp .ne 7, 3) := by decide +kernel
theorem dX7_isNameByte_43 : decode cX7_isNameByte 43 = .ok (.iconst 1, 1) := by decide +kernel
theorem dX7_isNameByte_44 : decode cX7_isNameByte 44 = .ok (.goto 4, 3) := by decide +kernel
theorem dX7_isNameByte_47 : decode cX7_isNameByte 47 = .ok (.iconst 0, 1) := by decide +kernel
theorem dX7_isNameByte_48 : decode cX7_isNameByte 48 = .ok (.ireturn, 1) := by decide +kernel
theorem dX7_isPrintable_0 : decode cX7_isPrintable 0 = .ok (.iload_n 0, 1) := by decide +kernel
theorem dX7_isPrintable_1 : decode cX7_isPrintable 1 = .ok (.bipush 32, 2) := by decide +kernel
theorem dX7_isPrintable_3 : decode cX7_isPrintable 3 = .ok (.if_icmp .lt 13, 3) := by decide +kernel
theorem dX7_isPrintable_6 : decode cX7_isPrintable 6 = .ok (.iload_n 0, 1) := by decide +kernel
theorem dX7_isPrintable_7 : decode cX7_isPrintable 7 = .ok (.bipush 126, 2) := by decide +kernel
theorem dX7_isPrintable_9 : decode cX7_isPrintable 9 = .ok (.if_icmp .gt 7, 3) := by decide +kernel
theorem dX7_isPrintable_12 : decode cX7_isPrintable 12 = .ok (.iconst 1, 1) := by decide +kernel
theorem dX7_isPrintable_13 : decode cX7_isPrintable 13 = .ok (.goto 4, 3) := by decide +kernel
theorem dX7_isPrintable_16 : decode cX7_isPrintable 16 = .ok (.iconst 0, 1) := by decide +kernel
theorem dX7_isPrintable_17 : decode cX7_isPrintable 17 = .ok (.ireturn, 1) := by decide +kernel
theorem dX7_digitIn_0 : decode cX7_digitIn 0 = .ok (.iconst (-1), 1) := by decide +kernel
theorem dX7_digitIn_1 : decode cX7_digitIn 1 = .ok (.istore_n 2, 1) := by decide +kernel
theorem dX7_digitIn_2 : decode cX7_digitIn 2 = .ok (.iload_n 1, 1) := by decide +kernel
theorem dX7_digitIn_3 : decode cX7_digitIn 3 = .ok (.invokestatic 316, 3) := by decide +kernel
theorem dX7_digitIn_6 : decode cX7_digitIn 6 = .ok (.ifCond .eq 11, 3) := by decide +kernel
theorem dX7_digitIn_9 : decode cX7_digitIn 9 = .ok (.iload_n 1, 1) := by decide +kernel
theorem dX7_digitIn_10 : decode cX7_digitIn 10 = .ok (.bipush 48, 2) := by decide +kernel
theorem dX7_digitIn_12 : decode cX7_digitIn 12 = .ok (.isub, 1) := by decide +kernel
theorem dX7_digitIn_13 : decode cX7_digitIn 13 = .ok (.istore_n 2, 1) := by decide +kernel
theorem dX7_digitIn_14 : decode cX7_digitIn 14 = .ok (.goto 46, 3) := by decide +kernel
theorem dX7_digitIn_17 : decode cX7_digitIn 17 = .ok (.iload_n 1, 1) := by decide +kernel
theorem dX7_digitIn_18 : decode cX7_digitIn 18 = .ok (.bipush 97, 2) := by decide +kernel
theorem dX7_digitIn_20 : decode cX7_digitIn 20 = .ok (.if_icmp .lt 20, 3) := by decide +kernel
theorem dX7_digitIn_23 : decode cX7_digitIn 23 = .ok (.iload_n 1, 1) := by decide +kernel
theorem dX7_digitIn_24 : decode cX7_digitIn 24 = .ok (.bipush 102, 2) := by decide +kernel
theorem dX7_digitIn_26 : decode cX7_digitIn 26 = .ok (.if_icmp .gt 14, 3) := by decide +kernel
theorem dX7_digitIn_29 : decode cX7_digitIn 29 = .ok (.iload_n 1, 1) := by decide +kernel
theorem dX7_digitIn_30 : decode cX7_digitIn 30 = .ok (.bipush 97, 2) := by decide +kernel
theorem dX7_digitIn_32 : decode cX7_digitIn 32 = .ok (.isub, 1) := by decide +kernel
theorem dX7_digitIn_33 : decode cX7_digitIn 33 = .ok (.bipush 10, 2) := by decide +kernel
theorem dX7_digitIn_35 : decode cX7_digitIn 35 = .ok (.iadd, 1) := by decide +kernel
theorem dX7_digitIn_36 : decode cX7_digitIn 36 = .ok (.istore_n 2, 1) := by decide +kernel
theorem dX7_digitIn_37 : decode cX7_digitIn 37 = .ok (.goto 23, 3) := by decide +kernel
theorem dX7_digitIn_40 : decode cX7_digitIn 40 = .ok (.iload_n 1, 1) := by decide +kernel
theorem dX7_digitIn_41 : decode cX7_digitIn 41 = .ok (.bipush 65, 2) := by decide +kernel
theorem dX7_digitIn_43 : decode cX7_digitIn 43 = .ok (.if_icmp .lt 17, 3) := by decide +kernel
theorem dX7_digitIn_46 : decode cX7_digitIn 46 = .ok (.iload_n 1, 1) := by decide +kernel
theorem dX7_digitIn_47 : decode cX7_digitIn 47 = .ok (.bipush 70, 2) := by decide +kernel
theorem dX7_digitIn_49 : decode cX7_digitIn 49 = .ok (.if_icmp .gt 11, 3) := by decide +kernel
theorem dX7_digitIn_52 : decode cX7_digitIn 52 = .ok (.iload_n 1, 1) := by decide +kernel
theorem dX7_digitIn_53 : decode cX7_digitIn 53 = .ok (.bipush 65, 2) := by decide +kernel
theorem dX7_digitIn_55 : decode cX7_digitIn 55 = .ok (.isub, 1) := by decide +kernel
theorem dX7_digitIn_56 : decode cX7_digitIn 56 = .ok (.bipush 10, 2) := by decide +kernel
theorem dX7_digitIn_58 : decode cX7_digitIn 58 = .ok (.iadd, 1) := by decide +kernel
theorem dX7_digitIn_59 : decode cX7_digitIn 59 = .ok (.istore_n 2, 1) := by decide +kernel
theorem dX7_digitIn_60 : decode cX7_digitIn 60 = .ok (.iload_n 2, 1) := by decide +kernel
theorem dX7_digitIn_61 : decode cX7_digitIn 61 = .ok (.iload_n 0, 1) := by decide +kernel
theorem dX7_digitIn_62 : decode cX7_digitIn 62 = .ok (.if_icmp .ge 7, 3) := by decide +kernel
theorem dX7_digitIn_65 : decode cX7_digitIn 65 = .ok (.iload_n 2, 1) := by decide +kernel
theorem dX7_digitIn_66 : decode cX7_digitIn 66 = .ok (.goto 4, 3) := by decide +kernel
theorem dX7_digitIn_69 : decode cX7_digitIn 69 = .ok (.iconst (-1), 1) := by decide +kernel
theorem dX7_digitIn_70 : decode cX7_digitIn 70 = .ok (.ireturn, 1) := by decide +kernel
theorem dX8_init_0 : decode cX8_init 0 = .ok (.aload_n 0, 1) := by decide +kernel
theorem dX8_init_1 : decode cX8_init 1 = .ok (.invokespecial 1, 3) := by decide +kernel
theorem dX8_init_4 : decode cX8_init 4 = .ok (.aload_n 0, 1) := by decide +kernel
theorem dX8_init_5 : decode cX8_init 5 = .ok (.ldc 9, 2) := by decide +kernel
theorem dX8_init_7 : decode cX8_init 7 = .ok (.newarray .byte, 2) := by decide +kernel
theorem dX8_init_9 : decode cX8_init 9 = .ok (.putfield 10, 3) := by decide +kernel
theorem dX8_init_12 : decode cX8_init 12 = .ok (.aload_n 0, 1) := by decide +kernel
theorem dX8_init_13 : decode cX8_init 13 = .ok (.ldc 9, 2) := by decide +kernel
theorem dX8_init_15 : decode cX8_init 15 = .ok (.newarray .byte, 2) := by decide +kernel
theorem dX8_init_17 : decode cX8_init 17 = .ok (.putfield 14, 3) := by decide +kernel
theorem dX8_init_20 : decode cX8_init 20 = .ok (.aload_n 0, 1) := by decide +kernel
theorem dX8_init_21 : decode cX8_init 21 = .ok (.iconst 1, 1) := by decide +kernel
theorem dX8_init_22 : decode cX8_init 22 = .ok (.putfield 17, 3) := by decide +kernel
theorem dX8_init_25 : decode cX8_init 25 = .ok (.aload_n 0, 1) := by decide +kernel
theorem dX8_init_26 : decode cX8_init 26 = .ok (.sipush 1100, 3) := by decide +kernel
theorem dX8_init_29 : decode cX8_init 29 = .ok (.newarray .byte, 2) := by decide +kernel
theorem dX8_init_31 : decode cX8_init 31 = .ok (.putfield 21, 3) := by decide +kernel
theorem dX8_init_34 : decode cX8_init 34 = .ok (.aload_n 0, 1) := by decide +kernel
theorem dX8_init_35 : decode cX8_init 35 = .ok (.bipush 24, 2) := by decide +kernel
theorem dX8_init_37 : decode cX8_init 37 = .ok (.newarray .int, 2) := by decide +kernel
theorem dX8_init_39 : decode cX8_init 39 = .ok (.putfield 24, 3) := by decide +kernel
theorem dX8_init_42 : decode cX8_init 42 = .ok (.aload_n 0, 1) := by decide +kernel
theorem dX8_init_43 : decode cX8_init 43 = .ok (.bipush 24, 2) := by decide +kernel
theorem dX8_init_45 : decode cX8_init 45 = .ok (.newarray .int, 2) := by decide +kernel
theorem dX8_init_47 : decode cX8_init 47 = .ok (.putfield 28, 3) := by decide +kernel
theorem dX8_init_50 : decode cX8_init 50 = .ok (.aload_n 0, 1) := by decide +kernel
theorem dX8_init_51 : decode cX8_init 51 = .ok (.bipush 24, 2) := by decide +kernel
theorem dX8_init_53 : decode cX8_init 53 = .ok (.newarray .int, 2) := by decide +kernel
theorem dX8_init_55 : decode cX8_init 55 = .ok (.putfield 31, 3) := by decide +kernel
theorem dX8_init_58 : decode cX8_init 58 = .ok (.aload_n 0, 1) := by decide +kernel
theorem dX8_init_59 : decode cX8_init 59 = .ok (.bipush 24, 2) := by decide +kernel
theorem dX8_init_61 : decode cX8_init 61 = .ok (.newarray .int, 2) := by decide +kernel
theorem dX8_init_63 : decode cX8_init 63 = .ok (.putfield 34, 3) := by decide +kernel
theorem dX8_init_66 : decode cX8_init 66 = .ok (.aload_n 0, 1) := by decide +kernel
theorem dX8_init_67 : decode cX8_init 67 = .ok (.bipush 24, 2) := by decide +kernel
theorem dX8_init_69 : decode cX8_init 69 = .ok (.newarray .int, 2) := by decide +kernel
theorem dX8_init_71 : decode cX8_init 71 = .ok (.putfield 37, 3) := by decide +kernel
theorem dX8_init_74 : decode cX8_init 74 = .ok (.aload_n 0, 1) := by decide +kernel
theorem dX8_init_75 : decode cX8_init 75 = .ok (.bipush 24, 2) := by decide +kernel
theorem dX8_init_77 : decode cX8_init 77 = .ok (.newarray .int, 2) := by decide +kernel
theorem dX8_init_79 : decode cX8_init 79 = .ok (.putfield 40, 3) := by decide +kernel
theorem dX8_init_82 : decode cX8_init 82 = .ok (.aload_n 0, 1) := by decide +kernel
theorem dX8_init_83 : decode cX8_init 83 = .ok (.bipush 24, 2) := by decide +kernel
theorem dX8_init_85 : decode cX8_init 85 = .ok (.newarray .int, 2) := by decide +kernel
theorem dX8_init_87 : decode cX8_init 87 = .ok (.putfield 43, 3) := by decide +kernel
theorem dX8_init_90 : decode cX8_init 90 = .ok (.aload_n 0, 1) := by decide +kernel
theorem dX8_init_91 : decode cX8_init 91 = .ok (.bipush 24, 2) := by decide +kernel
theorem dX8_init_93 : decode cX8_init 93 = .ok (.newarray .int, 2) := by decide +kernel
theorem dX8_init_95 : decode cX8_init 95 = .ok (.putfield 46, 3) := by decide +kernel
theorem dX8_init_98 : decode cX8_init 98 = .ok (.aload_n 0, 1) := by decide +kernel
theorem dX8_init_99 : decode cX8_init 99 = .ok (.bipush 24, 2) := by decide +kernel
theorem dX8_init_101 : decode cX8_init 101 = .ok (.newarray .int, 2) := by decide +kernel
theorem dX8_init_103 : decode cX8_init 103 = .ok (.putfield 49, 3) := by decide +kernel
theorem dX8_init_106 : decode cX8_init 106 = .ok (.aload_n 0, 1) := by decide +kernel
theorem dX8_init_107 : decode cX8_init 107 = .ok (.bipush 24, 2) := by decide +kernel
theorem dX8_init_109 : decode cX8_init 109 = .ok (.newarray .boolean, 2) := by decide +kernel
theorem dX8_init_111 : decode cX8_init 111 = .ok (.putfield 52, 3) := by decide +kernel
theorem dX8_init_114 : decode cX8_init 114 = .ok (.aload_n 0, 1) := by decide +kernel
theorem dX8_init_115 : decode cX8_init 115 = .ok (.bipush 24, 2) := by decide +kernel
theorem dX8_init_117 : decode cX8_init 117 = .ok (.sipush 1100, 3) := by decide +kernel
theorem dX8_init_120 : decode cX8_init 120 = .ok (.multianewarray 56 2, 4) := by decide +kernel
theorem dX8_init_124 : decode cX8_init 124 = .ok (.putfield 58, 3) := by decide +kernel
theorem dX8_init_127 : decode cX8_init 127 = .ok (.aload_n 0, 1) := by decide +kernel
theorem dX8_init_128 : decode cX8_init 128 = .ok (.bipush 24, 2) := by decide +kernel
theorem dX8_init_130 : decode cX8_init 130 = .ok (.sipush 2100, 3) := by decide +kernel
theorem dX8_init_133 : decode cX8_init 133 = .ok (.multianewarray 61 2, 4) := by decide +kernel
theorem dX8_init_137 : decode cX8_init 137 = .ok (.putfield 63, 3) := by decide +kernel
theorem dX8_init_140 : decode cX8_init 140 = .ok (.aload_n 0, 1) := by decide +kernel
theorem dX8_init_141 : decode cX8_init 141 = .ok (.bipush 24, 2) := by decide +kernel
theorem dX8_init_143 : decode cX8_init 143 = .ok (.newarray .int, 2) := by decide +kernel
theorem dX8_init_145 : decode cX8_init 145 = .ok (.putfield 66, 3) := by decide +kernel
theorem dX8_init_148 : decode cX8_init 148 = .ok (.aload_n 0, 1) := by decide +kernel
theorem dX8_init_149 : decode cX8_init 149 = .ok (.sipush 6600, 3) := by decide +kernel
theorem dX8_init_152 : decode cX8_init 152 = .ok (.newarray .int, 2) := by decide +kernel
theorem dX8_init_154 : decode cX8_init 154 = .ok (.putfield 69, 3) := by decide +kernel
theorem dX8_init_157 : decode cX8_init 157 = .ok (.aload_n 0, 1) := by decide +kernel
theorem dX8_init_158 : decode cX8_init 158 = .ok (.sipush 6600, 3) := by decide +kernel
theorem dX8_init_161 : decode cX8_init 161 = .ok (.newarray .int, 2) := by decide +kernel
theorem dX8_init_163 : decode cX8_init 163 = .ok (.putfield 72, 3) := by decide +kernel
theorem dX8_init_166 : decode cX8_init 166 = .ok (.aload_n 0, 1) := by decide +kernel
theorem dX8_init_167 : decode cX8_init 167 = .ok (.sipush 6600, 3) := by decide +kernel
theorem dX8_init_170 : decode cX8_init 170 = .ok (.newarray .int, 2) := by decide +kernel
theorem dX8_init_172 : decode cX8_init 172 = .ok (.putfield 75, 3) := by decide +kernel
theorem dX8_init_175 : decode cX8_init 175 = .ok (.aload_n 0, 1) := by decide +kernel
theorem dX8_init_176 : decode cX8_init 176 = .ok (.sipush 6600, 3) := by decide +kernel
theorem dX8_init_179 : decode cX8_init 179 = .ok (.newarray .int, 2) := by decide +kernel
theorem dX8_init_181 : decode cX8_init 181 = .ok (.putfield 78, 3) := by decide +kernel
theorem dX8_init_184 : decode cX8_init 184 = .ok (.aload_n 0, 1) := by decide +kernel
theorem dX8_init_185 : decode cX8_init 185 = .ok (.sipush 6600, 3) := by decide +kernel
theorem dX8_init_188 : decode cX8_init 188 = .ok (.newarray .int, 2) := by decide +kernel
theorem dX8_init_190 : decode cX8_init 190 = .ok (.putfield 81, 3) := by decide +kernel
theorem dX8_init_193 : decode cX8_init 193 = .ok (.aload_n 0, 1) := by decide +kernel
theorem dX8_init_194 : decode cX8_init 194 = .ok (.sipush 6600, 3) := by decide +kernel
theorem dX8_init_197 : decode cX8_init 197 = .ok (.newarray .int, 2) := by decide +kernel
theorem dX8_init_199 : decode cX8_init 199 = .ok (.putfield 84, 3) := by decide +kernel
theorem dX8_init_202 : decode cX8_init 202 = .ok (.aload_n 0, 1) := by decide +kernel
theorem dX8_init_203 : decode cX8_init 203 = .ok (.sipush 6600, 3) := by decide +kernel
theorem dX8_init_206 : decode cX8_init 206 = .ok (.newarray .int, 2) := by decide +kernel
theorem dX8_init_208 : decode cX8_init 208 = .ok (.putfield 87, 3) := by decide +kernel
theorem dX8_init_211 : decode cX8_init 211 = .ok (.aload_n 0, 1) := by decide +kernel
theorem dX8_init_212 : decode cX8_init 212 = .ok (.sipush 1110, 3) := by decide +kernel
theorem dX8_init_215 : decode cX8_init 215 = .ok (.newarray .int, 2) := by decide +kernel
theorem dX8_init_217 : decode cX8_init 217 = .ok (.putfield 90, 3) := by decide +kernel
theorem dX8_init_220 : decode cX8_init 220 = .ok (.aload_n 0, 1) := by decide +kernel
theorem dX8_init_221 : decode cX8_init 221 = .ok (.sipush 1110, 3) := by decide +kernel
theorem dX8_init_224 : decode cX8_init 224 = .ok (.newarray .int, 2) := by decide +kernel
theorem dX8_init_226 : decode cX8_init 226 = .ok (.putfield 93, 3) := by decide +kernel
theorem dX8_init_229 : decode cX8_init 229 = .ok (.aload_n 0, 1) := by decide +kernel
theorem dX8_init_230 : decode cX8_init 230 = .ok (.sipush 1110, 3) := by decide +kernel
theorem dX8_init_233 : decode cX8_init 233 = .ok (.newarray .int, 2) := by decide +kernel
theorem dX8_init_235 : decode cX8_init 235 = .ok (.putfield 96, 3) := by decide +kernel
theorem dX8_init_238 : decode cX8_init 238 = .ok (.aload_n 0, 1) := by decide +kernel
theorem dX8_init_239 : decode cX8_init 239 = .ok (.sipush 1110, 3) := by decide +kernel
theorem dX8_init_242 : decode cX8_init 242 = .ok (.newarray .long, 2) := by decide +kernel
theorem dX8_init_244 : decode cX8_init 244 = .ok (.putfield 99, 3) := by decide +kernel
theorem dX8_init_247 : decode cX8_init 247 = .ok (.return_, 1) := by decide +kernel
theorem dX8_thrown_0 : decode cX8_thrown 0 = .ok (.aload_n 0, 1) := by decide +kernel
theorem dX8_thrown_1 : decode cX8_thrown 1 = .ok (.getfield 103, 3) := by decide +kernel
theorem dX8_thrown_4 : decode cX8_thrown 4 = .ok (.ireturn, 1) := by decide +kernel
theorem dX8_type_0 : decode cX8_type 0 = .ok (.aload_n 0, 1) := by decide +kernel
theorem dX8_type_1 : decode cX8_type 1 = .ok (.iconst 0, 1) := by decide +kernel
theorem dX8_type_2 : decode cX8_type 2 = .ok (.putfield 103, 3) := by decide +kernel
theorem dX8_type_5 : decode cX8_type 5 = .ok (.iload_n 3, 1) := by decide +kernel
theorem dX8_type_6 : decode cX8_type 6 = .ok (.iconst 1, 1) := by decide +kernel
theorem dX8_type_7 : decode cX8_type 7 = .ok (.if_icmp .lt 20, 3) := by decide +kernel
theorem dX8_type_10 : decode cX8_type 10 = .ok (.iload_n 3, 1) := by decide +kernel
theorem dX8_type_11 : decode cX8_type 11 = .ok (.bipush 8, 2) := by decide +kernel
theorem dX8_type_13 : decode cX8_type 13 = .ok (.if_icmp .gt 14, 3) := by decide +kernel
theorem dX8_type_16 : decode cX8_type 16 = .ok (.aload_n 0, 1) := by decide +kernel
theorem dX8_type_17 : decode cX8_type 17 = .ok (.getfield 107, 3) := by decide +kernel
theorem dX8_type_20 : decode cX8_type 20 = .ok (.iload_n 3, 1) := by decide +kernel
theorem dX8_type_21 : decode cX8_type 21 = .ok (.iadd, 1) := by decide +kernel
theorem dX8_type_22 : decode cX8_type 22 = .ok (.ldc 9, 2) := by decide +kernel
theorem dX8_type_24 : decode cX8_type 24 = .ok (.if_icmp .le 5, 3) := by decide +kernel
theorem dX8_type_27 : decode cX8_type 27 = .ok (.iconst 0, 1) := by decide +kernel
theorem dX8_type_28 : decode cX8_type 28 = .ok (.ireturn, 1) := by decide +kernel
theorem dX8_type_29 : decode cX8_type 29 = .ok (.iload_n 3, 1) := by decide +kernel
theorem dX8_type_30 : decode cX8_type 30 = .ok (.iconst 1, 1) := by decide +kernel
theorem dX8_type_31 : decode cX8_type 31 = .ok (.isub, 1) := by decide +kernel
theorem dX8_type_32 : decode cX8_type 32 = .ok (.istore 4, 2) := by decide +kernel
theorem dX8_type_34 : decode cX8_type 34 = .ok (.iload 4, 2) := by decide +kernel
theorem dX8_type_36 : decode cX8_type 36 = .ok (.ifCond .lt 37, 3) := by decide +kernel
theorem dX8_type_39 : decode cX8_type 39 = .ok (.aload_n 0, 1) := by decide +kernel
theorem dX8_type_40 : decode cX8_type 40 = .ok (.getfield 10, 3) := by decide +kernel
theorem dX8_type_43 : decode cX8_type 43 = .ok (.aload_n 0, 1) := by decide +kernel
theorem dX8_type_44 : decode cX8_type 44 = .ok (.getfield 107, 3) := by decide +kernel
theorem dX8_type_47 : decode cX8_type 47 = .ok (.lload_n 1, 1) := by decide +kernel
theorem dX8_type_48 : decode cX8_type 48 = .ok (.bipush 8, 2) := by decide +kernel
theorem dX8_type_50 : decode cX8_type 50 = .ok (.iload 4, 2) := by decide +kernel
theorem dX8_type_52 : decode cX8_type 52 = .ok (.imul, 1) := by decide +kernel
theorem dX8_type_53 : decode cX8_type 53 = .ok (.lshr, 1) := by decide +kernel
theorem dX8_type_54 : decode cX8_type 54 = .ok (.l2i, 1) := by decide +kernel
theorem dX8_type_55 : decode cX8_type 55 = .ok (.i2b, 1) := by decide +kernel
theorem dX8_type_56 : decode cX8_type 56 = .ok (.bastore, 1) := by decide +kernel
theorem dX8_type_57 : decode cX8_type 57 = .ok (.aload_n 0, 1) := by decide +kernel
theorem dX8_type_58 : decode cX8_type 58 = .ok (.dup, 1) := by decide +kernel
theorem dX8_type_59 : decode cX8_type 59 = .ok (.getfield 107, 3) := by decide +kernel
theorem dX8_type_62 : decode cX8_type 62 = .ok (.iconst 1, 1) := by decide +kernel
theorem dX8_type_63 : decode cX8_type 63 = .ok (.iadd, 1) := by decide +kernel
theorem dX8_type_64 : decode cX8_type 64 = .ok (.putfield 107, 3) := by decide +kernel
theorem dX8_type_67 : decode cX8_type 67 = .ok (.iinc 4 (-1), 3) := by decide +kernel
theorem dX8_type_70 : decode cX8_type 70 = .ok (.goto (-36), 3) := by decide +kernel
theorem dX8_type_73 : decode cX8_type 73 = .ok (.iconst 1, 1) := by decide +kernel
theorem dX8_type_74 : decode cX8_type 74 = .ok (.ireturn, 1) := by decide +kernel
theorem dX8_isLetter_0 : decode cX8_isLetter 0 = .ok (.iload_n 0, 1) := by decide +kernel
theorem dX8_isLetter_1 : decode cX8_isLetter 1 = .ok (.bipush 97, 2) := by decide +kernel
theorem dX8_isLetter_3 : decode cX8_isLetter 3 = .ok (.if_icmp .lt 9, 3) := by decide +kernel
theorem dX8_isLetter_6 : decode cX8_isLetter 6 = .ok (.iload_n 0, 1) := by decide +kernel
theorem dX8_isLetter_7 : decode cX8_isLetter 7 = .ok (.bipush 122, 2) := by decide +kernel
theorem dX8_isLetter_9 : decode cX8_isLetter 9 = .ok (.if_icmp .le 27, 3) := by decide +kernel
theorem dX8_isLetter_12 : decode cX8_isLetter 12 = .ok (.iload_n 0, 1) := by decide +kernel
theorem dX8_isLetter_13 : decode cX8_isLetter 13 = .ok (.bipush 65, 2) := by decide +kernel
theorem dX8_isLetter_15 : decode cX8_isLetter 15 = .ok (.if_icmp .lt 9, 3) := by decide +kernel
theorem dX8_isLetter_18 : decode cX8_isLetter 18 = .ok (.iload_n 0, 1) := by decide +kernel
theorem dX8_isLetter_19 : decode cX8_isLetter 19 = .ok (.bipush 90, 2) := by decide +kernel
theorem dX8_isLetter_21 : decode cX8_isLetter 21 = .ok (.if_icmp .le 15, 3) := by decide +kernel
theorem dX8_isLetter_24 : decode cX8_isLetter 24 = .ok (.iload_n 0, 1) := by decide +kernel
theorem dX8_isLetter_25 : decode cX8_isLetter 25 = .ok (.bipush 95, 2) := by decide +kernel
theorem dX8_isLetter_27 : decode cX8_isLetter 27 = .ok (.if_icmp .eq 9, 3) := by decide +kernel
theorem dX8_isLetter_30 : decode cX8_isLetter 30 = .ok (.iload_n 0, 1) := by decide +kernel
theorem dX8_isLetter_31 : decode cX8_isLetter 31 = .ok (.bipush 46, 2) := by decide +kernel
theorem dX8_isLetter_33 : decode cX8_isLetter 33 = .ok (.if_icmp .ne 7, 3) := by decide +kernel
theorem dX8_isLetter_36 : decode cX8_isLetter 36 = .ok (.iconst 1, 1) := by decide +kernel
theorem dX8_isLetter_37 : decode cX8_isLetter 37 = .ok (.goto 4, 3) := by decide +kernel
theorem dX8_isLetter_40 : decode cX8_isLetter 40 = .ok (.iconst 0, 1) := by decide +kernel
theorem dX8_isLetter_41 : decode cX8_isLetter 41 = .ok (.ireturn, 1) := by decide +kernel
theorem dX8_isDigit_0 : decode cX8_isDigit 0 = .ok (.iload_n 0, 1) := by decide +kernel
theorem dX8_isDigit_1 : decode cX8_isDigit 1 = .ok (.bipush 48, 2) := by decide +kernel
theorem dX8_isDigit_3 : decode cX8_isDigit 3 = .ok (.if_icmp .lt 13, 3) := by decide +kernel
theorem dX8_isDigit_6 : decode cX8_isDigit 6 = .ok (.iload_n 0, 1) := by decide +kernel
theorem dX8_isDigit_7 : decode cX8_isDigit 7 = .ok (.bipush 57, 2) := by decide +kernel
theorem dX8_isDigit_9 : decode cX8_isDigit 9 = .ok (.if_icmp .gt 7, 3) := by decide +kernel
theorem dX8_isDigit_12 : decode cX8_isDigit 12 = .ok (.iconst 1, 1) := by decide +kernel
theorem dX8_isDigit_13 : decode cX8_isDigit 13 = .ok (.goto 4, 3) := by decide +kernel
theorem dX8_isDigit_16 : decode cX8_isDigit 16 = .ok (.iconst 0, 1) := by decide +kernel
theorem dX8_isDigit_17 : decode cX8_isDigit 17 = .ok (.ireturn, 1) := by decide +kernel
theorem dX8_isNamed_0 : decode cX8_isNamed 0 = .ok (.iload_n 0, 1) := by decide +kernel
theorem dX8_isNamed_1 : decode cX8_isNamed 1 = .ok (.invokestatic 110, 3) := by decide +kernel
theorem dX8_isNamed_4 : decode cX8_isNamed 4 = .ok (.ifCond .ne 10, 3) := by decide +kernel
theorem dX8_isNamed_7 : decode cX8_isNamed 7 = .ok (.iload_n 0, 1) := by decide +kernel
theorem dX8_isNamed_8 : decode cX8_isNamed 8 = .ok (.invokestatic 114, 3) := by decide +kernel
theorem dX8_isNamed_11 : decode cX8_isNamed 11 = .ok (.ifCond .eq 7, 3) := by decide +kernel
theorem dX8_isNamed_14 : decode cX8_isNamed 14 = .ok (.iconst 1, 1) := by decide +kernel
theorem dX8_isNamed_15 : decode cX8_isNamed 15 = .ok (.goto 4, 3) := by decide +kernel
theorem dX8_isNamed_18 : decode cX8_isNamed 18 = .ok (.iconst 0, 1) := by decide +kernel
theorem dX8_isNamed_19 : decode cX8_isNamed 19 = .ok (.ireturn, 1) := by decide +kernel
theorem dX8_digitOf_0 : decode cX8_digitOf 0 = .ok (.iload_n 0, 1) := by decide +kernel
theorem dX8_digitOf_1 : decode cX8_digitOf 1 = .ok (.invokestatic 114, 3) := by decide +kernel
theorem dX8_digitOf_4 : decode cX8_digitOf 4 = .ok (.ifCond .eq 10, 3) := by decide +kernel
theorem dX8_digitOf_7 : decode cX8_digitOf 7 = .ok (.iload_n 0, 1) := by decide +kernel
theorem dX8_digitOf_8 : decode cX8_digitOf 8 = .ok (.bipush 48, 2) := by decide +kernel
theorem dX8_digitOf_10 : decode cX8_digitOf 10 = .ok (.isub, 1) := by decide +kernel
theorem dX8_digitOf_11 : decode cX8_digitOf 11 = .ok (.goto 49, 3) := by decide +kernel
theorem dX8_digitOf_14 : decode cX8_digitOf 14 = .ok (.iload_n 0, 1) := by decide +kernel
theorem dX8_digitOf_15 : decode cX8_digitOf 15 = .ok (.bipush 97, 2) := by decide +kernel
theorem dX8_digitOf_17 : decode cX8_digitOf 17 = .ok (.if_icmp .lt 19, 3) := by decide +kernel
theorem dX8_digitOf_20 : decode cX8_digitOf 20 = .ok (.iload_n 0, 1) := by decide +kernel
theorem dX8_digitOf_21 : decode cX8_digitOf 21 = .ok (.bipush 102, 2) := by decide +kernel
theorem dX8_digitOf_23 : decode cX8_digitOf 23 = .ok (.if_icmp .gt 13, 3) := by decide +kernel
theorem dX8_digitOf_26 : decode cX8_digitOf 26 = .ok (.iload_n 0, 1) := by decide +kernel
theorem dX8_digitOf_27 : decode cX8_digitOf 27 = .ok (.bipush 97, 2) := by decide +kernel
theorem dX8_digitOf_29 : decode cX8_digitOf 29 = .ok (.isub, 1) := by decide +kernel
theorem dX8_digitOf_30 : decode cX8_digitOf 30 = .ok (.bipush 10, 2) := by decide +kernel
theorem dX8_digitOf_32 : decode cX8_digitOf 32 = .ok (.iadd, 1) := by decide +kernel
theorem dX8_digitOf_33 : decode cX8_digitOf 33 = .ok (.goto 27, 3) := by decide +kernel
theorem dX8_digitOf_36 : decode cX8_digitOf 36 = .ok (.iload_n 0, 1) := by decide +kernel
theorem dX8_digitOf_37 : decode cX8_digitOf 37 = .ok (.bipush 65, 2) := by decide +kernel
theorem dX8_digitOf_39 : decode cX8_digitOf 39 = .ok (.if_icmp .lt 19, 3) := by decide +kernel
theorem dX8_digitOf_42 : decode cX8_digitOf 42 = .ok (.iload_n 0, 1) := by decide +kernel
theorem dX8_digitOf_43 : decode cX8_digitOf 43 = .ok (.bipush 70, 2) := by decide +kernel
theorem dX8_digitOf_45 : decode cX8_digitOf 45 = .ok (.if_icmp .gt 13, 3) := by decide +kernel
theorem dX8_digitOf_48 : decode cX8_digitOf 48 = .ok (.iload_n 0, 1) := by decide +kernel
theorem dX8_digitOf_49 : decode cX8_digitOf 49 = .ok (.bipush 65, 2) := by decide +kernel
theorem dX8_digitOf_51 : decode cX8_digitOf 51 = .ok (.isub, 1) := by decide +kernel
theorem dX8_digitOf_52 : decode cX8_digitOf 52 = .ok (.bipush 10, 2) := by decide +kernel
theorem dX8_digitOf_54 : decode cX8_digitOf 54 = .ok (.iadd, 1) := by decide +kernel
theorem dX8_digitOf_55 : decode cX8_digitOf 55 = .ok (.goto 5, 3) := by decide +kernel
theorem dX8_digitOf_58 : decode cX8_digitOf 58 = .ok (.bipush 99, 2) := by decide +kernel
theorem dX8_digitOf_60 : decode cX8_digitOf 60 = .ok (.ireturn, 1) := by decide +kernel
theorem dX8_packed_0 : decode cX8_packed 0 = .ok (.lconst 0, 1) := by decide +kernel
theorem dX8_packed_1 : decode cX8_packed 1 = .ok (.lstore_n 3, 1) := by decide +kernel
theorem dX8_packed_2 : decode cX8_packed 2 = .ok (.iconst 0, 1) := by decide +kernel
theorem dX8_packed_3 : decode cX8_packed 3 = .ok (.istore 5, 2) := by decide +kernel
theorem dX8_packed_5 : decode cX8_packed 5 = .ok (.iload_n 1, 1) := by decide +kernel
theorem dX8_packed_6 : decode cX8_packed 6 = .ok (.istore 6, 2) := by decide +kernel
theorem dX8_packed_8 : decode cX8_packed 8 = .ok (.iload 6, 2) := by decide +kernel
theorem dX8_packed_10 : decode cX8_packed 10 = .ok (.iload_n 2, 1) := by decide +kernel
theorem dX8_packed_11 : decode cX8_packed 11 = .ok (.if_icmp .ge 50, 3) := by decide +kernel
theorem dX8_packed_14 : decode cX8_packed 14 = .ok (.aload_n 0, 1) := by decide +kernel
theorem dX8_packed_15 : decode cX8_packed 15 = .ok (.iload 6, 2) := by decide +kernel
theorem dX8_packed_17 : decode cX8_packed 17 = .ok (.baload, 1) := by decide +kernel
theorem dX8_packed_18 : decode cX8_packed 18 = .ok (.invokestatic 117, 3) := by decide +kernel
theorem dX8_packed_21 : decode cX8_packed 21 = .ok (.ifCond .eq 40, 3) := by decide +kernel
theorem dX8_packed_24 : decode cX8_packed 24 = .ok (.iload 5, 2) := by decide +kernel
theorem dX8_packed_26 : decode cX8_packed 26 = .ok (.ifCond .ne 15, 3) := by decide +kernel
theorem dX8_packed_29 : decode cX8_packed 29 = .ok (.aload_n 0, 1) := by decide +kernel
theorem dX8_packed_30 : decode cX8_packed 30 = .ok (.iload 6, 2) := by decide +kernel
theorem dX8_packed_32 : decode cX8_packed 32 = .ok (.baload, 1) := by decide +kernel
theorem dX8_packed_33 : decode cX8_packed 33 = .ok (.invokestatic 114, 3) := by decide +kernel
theorem dX8_packed_36 : decode cX8_packed 36 = .ok (.ifCond .eq 5, 3) := by decide +kernel
theorem dX8_packed_39 : decode cX8_packed 39 = .ok (.lconst 0, 1) := by decide +kernel
theorem dX8_packed_40 : decode cX8_packed 40 = .ok (.lreturn, 1) := by decide +kernel
theorem dX8_packed_41 : decode cX8_packed 41 = .ok (.lload_n 3, 1) := by decide +kernel
theorem dX8_packed_42 : decode cX8_packed 42 = .ok (.bipush 8, 2) := by decide +kernel
theorem dX8_packed_44 : decode cX8_packed 44 = .ok (.lshl, 1) := by decide +kernel
theorem dX8_packed_45 : decode cX8_packed 45 = .ok (.aload_n 0, 1) := by decide +kernel
theorem dX8_packed_46 : decode cX8_packed 46 = .ok (.iload 6, 2) := by decide +kernel
theorem dX8_packed_48 : decode cX8_packed 48 = .ok (.baload, 1) := by decide +kernel
theorem dX8_packed_49 : decode cX8_packed 49 = .ok (.i2l, 1) := by decide +kernel
theorem dX8_packed_50 : decode cX8_packed 50 = .ok (.lor, 1) := by decide +kernel
theorem dX8_packed_51 : decode cX8_packed 51 = .ok (.lstore_n 3, 1) := by decide +kernel
theorem dX8_packed_52 : decode cX8_packed 52 = .ok (.iinc 5 1, 3) := by decide +kernel
theorem dX8_packed_55 : decode cX8_packed 55 = .ok (.iinc 6 1, 3) := by decide +kernel
theorem dX8_packed_58 : decode cX8_packed 58 = .ok (.goto (-50), 3) := by decide +kernel
theorem dX8_packed_61 : decode cX8_packed 61 = .ok (.iload 5, 2) := by decide +kernel
theorem dX8_packed_63 : decode cX8_packed 63 = .ok (.bipush 8, 2) := by decide +kernel
theorem dX8_packed_65 : decode cX8_packed 65 = .ok (.if_icmp .le 9, 3) := by decide +kernel
theorem dX8_packed_68 : decode cX8_packed 68 = .ok (.ldc2_w 120, 3) := by decide +kernel
theorem dX8_packed_71 : decode cX8_packed 71 = .ok (.goto 4, 3) := by decide +kernel
theorem dX8_packed_74 : decode cX8_packed 74 = .ok (.lload_n 3, 1) := by decide +kernel
theorem dX8_packed_75 : decode cX8_packed 75 = .ok (.lreturn, 1) := by decide +kernel
theorem dX8_wordOf_0 : decode cX8_wordOf 0 = .ok (.lload_n 0, 1) := by decide +kernel
theorem dX8_wordOf_1 : decode cX8_wordOf 1 = .ok (.ldc2_w 122, 3) := by decide +kernel
theorem dX8_wordOf_4 : decode cX8_wordOf 4 = .ok (.lcmp, 1) := by decide +kernel
theorem dX8_wordOf_5 : decode cX8_wordOf 5 = .ok (.ifCond .ne 7, 3) := by decide +kernel
theorem dX8_wordOf_8 : decode cX8_wordOf 8 = .ok (.iconst 1, 1) := by decide +kernel
theorem dX8_wordOf_9 : decode cX8_wordOf 9 = .ok (.goto 78, 3) := by decide +kernel
theorem dX8_wordOf_12 : decode cX8_wordOf 12 = .ok (.lload_n 0, 1) := by decide +kernel
theorem dX8_wordOf_13 : decode cX8_wordOf 13 = .ok (.ldc2_w 124, 3) := by decide +kernel
theorem dX8_wordOf_16 : decode cX8_wordOf 16 = .ok (.lcmp, 1) := by decide +kernel
theorem dX8_wordOf_17 : decode cX8_wordOf 17 = .ok (.ifCond .ne 7, 3) := by decide +kernel
theorem dX8_wordOf_20 : decode cX8_wordOf 20 = .ok (.iconst 2, 1) := by decide +kernel
theorem dX8_wordOf_21 : decode cX8_wordOf 21 = .ok (.goto 66, 3) := by decide +kernel
theorem dX8_wordOf_24 : decode cX8_wordOf 24 = .ok (.lload_n 0, 1) := by decide +kernel
theorem dX8_wordOf_25 : decode cX8_wordOf 25 = .ok (.ldc2_w 126, 3) := by decide +kernel
theorem dX8_wordOf_28 : decode cX8_wordOf 28 = .ok (.lcmp, 1) := by decide +kernel
theorem dX8_wordOf_29 : decode cX8_wordOf 29 = .ok (.ifCond .ne 7, 3) := by decide +kernel
theorem dX8_wordOf_32 : decode cX8_wordOf 32 = .ok (.iconst 3, 1) := by decide +kernel
theorem dX8_wordOf_33 : decode cX8_wordOf 33 = .ok (.goto 54, 3) := by decide +kernel
theorem dX8_wordOf_36 : decode cX8_wordOf 36 = .ok (.lload_n 0, 1) := by decide +kernel
theorem dX8_wordOf_37 : decode cX8_wordOf 37 = .ok (.ldc2_w 128, 3) := by decide +kernel
theorem dX8_wordOf_40 : decode cX8_wordOf 40 = .ok (.lcmp, 1) := by decide +kernel
theorem dX8_wordOf_41 : decode cX8_wordOf 41 = .ok (.ifCond .ne 7, 3) := by decide +kernel
theorem dX8_wordOf_44 : decode cX8_wordOf 44 = .ok (.iconst 4, 1) := by decide +kernel
theorem dX8_wordOf_45 : decode cX8_wordOf 45 = .ok (.goto 42, 3) := by decide +kernel
theorem dX8_wordOf_48 : decode cX8_wordOf 48 = .ok (.lload_n 0, 1) := by decide +kernel
theorem dX8_wordOf_49 : decode cX8_wordOf 49 = .ok (.ldc2_w 130, 3) := by decide +kernel
theorem dX8_wordOf_52 : decode cX8_wordOf 52 = .ok (.lcmp, 1) := by decide +kernel
theorem dX8_wordOf_53 : decode cX8_wordOf 53 = .ok (.ifCond .ne 7, 3) := by decide +kernel
theorem dX8_wordOf_56 : decode cX8_wordOf 56 = .ok (.iconst 5, 1) := by decide +kernel
theorem dX8_wordOf_57 : decode cX8_wordOf 57 = .ok (.goto 30, 3) := by decide +kernel
theorem dX8_wordOf_60 : decode cX8_wordOf 60 = .ok (.lload_n 0, 1) := by decide +kernel
theorem dX8_wordOf_61 : decode cX8_wordOf 61 = .ok (.ldc2_w 132, 3) := by decide +kernel
theorem dX8_wordOf_64 : decode cX8_wordOf 64 = .ok (.lcmp, 1) := by decide +kernel
theorem dX8_wordOf_65 : decode cX8_wordOf 65 = .ok (.ifCond .ne 8, 3) := by decide +kernel
theorem dX8_wordOf_68 : decode cX8_wordOf 68 = .ok (.bipush 6, 2) := by decide +kernel
theorem dX8_wordOf_70 : decode cX8_wordOf 70 = .ok (.goto 17, 3) := by decide +kernel
theorem dX8_wordOf_73 : decode cX8_wordOf 73 = .ok (.lload_n 0, 1) := by decide +kernel
theorem dX8_wordOf_74 : decode cX8_wordOf 74 = .ok (.ldc2_w 134, 3) := by decide +kernel
theorem dX8_wordOf_77 : decode cX8_wordOf 77 = .ok (.lcmp, 1) := by decide +kernel
theorem dX8_wordOf_78 : decode cX8_wordOf 78 = .ok (.ifCond .ne 8, 3) := by decide +kernel
theorem dX8_wordOf_81 : decode cX8_wordOf 81 = .ok (.bipush 7, 2) := by decide +kernel
theorem dX8_wordOf_83 : decode cX8_wordOf 83 = .ok (.goto 4, 3) := by decide +kernel
theorem dX8_wordOf_86 : decode cX8_wordOf 86 = .ok (.iconst (-1), 1) := by decide +kernel
theorem dX8_wordOf_87 : decode cX8_wordOf 87 = .ok (.ireturn, 1) := by decide +kernel
theorem dX8_ownLine_0 : decode cX8_ownLine 0 = .ok (.aload_n 0, 1) := by decide +kernel
theorem dX8_ownLine_1 : decode cX8_ownLine 1 = .ok (.getfield 136, 3) := by decide +kernel
theorem dX8_ownLine_4 : decode cX8_ownLine 4 = .ok (.istore_n 1, 1) := by decide +kernel
theorem dX8_ownLine_5 : decode cX8_ownLine 5 = .ok (.aload_n 0, 1) := by decide +kernel
theorem dX8_ownLine_6 : decode cX8_ownLine 6 = .ok (.getfield 139, 3) := by decide +kernel
theorem dX8_ownLine_9 : decode cX8_ownLine 9 = .ok (.iconst 1, 1) := by decide +kernel
theorem dX8_ownLine_10 : decode cX8_ownLine 10 = .ok (.isub, 1) := by decide +kernel
theorem dX8_ownLine_11 : decode cX8_ownLine 11 = .ok (.istore_n 2, 1) := by decide +kernel
theorem dX8_ownLine_12 : decode cX8_ownLine 12 = .ok (.iload_n 2, 1) := by decide +kernel
theorem dX8_ownLine_13 : decode cX8_ownLine 13 = .ok (.ifCond .lt 30, 3) := by decide +kernel
theorem dX8_ownLine_16 : decode cX8_ownLine 16 = .ok (.aload_n 0, 1) := by decide +kernel
theorem dX8_ownLine_17 : decode cX8_ownLine 17 = .ok (.getfield 24, 3) := by decide +kernel
theorem dX8_ownLine_20 : decode cX8_ownLine 20 = .ok (.iload_n 2, 1) := by decide +kernel
theorem dX8_ownLine_21 : decode cX8_ownLine 21 = .ok (.iaload, 1) := by decide +kernel
theorem dX8_ownLine_22 : decode cX8_ownLine 22 = .ok (.iconst 1, 1) := by decide +kernel
theorem dX8_ownLine_23 : decode cX8_ownLine 23 = .ok (.if_icmp .ne 7, 3) := by decide +kernel
theorem dX8_ownLine_26 : decode cX8_ownLine 26 = .ok (.iload_n 1, 1) := by decide +kernel
theorem dX8_ownLine_27 : decode cX8_ownLine 27 = .ok (.goto 9, 3) := by decide +kernel
theorem dX8_ownLine_30 : decode cX8_ownLine 30 = .ok (.aload_n 0, 1) := by decide +kernel
theorem dX8_ownLine_31 : decode cX8_ownLine 31 = .ok (.getfield 43, 3) := by decide +kernel
theorem dX8_ownLine_34 : decode cX8_ownLine 34 = .ok (.iload_n 2, 1) := by decide +kernel
theorem dX8_ownLine_35 : decode cX8_ownLine 35 = .ok (.iaload, 1) := by decide +kernel
theorem dX8_ownLine_36 : decode cX8_ownLine 36 = .ok (.istore_n 1, 1) := by decide +kernel
theorem dX8_ownLine_37 : decode cX8_ownLine 37 = .ok (.iinc 2 (-1), 3) := by decide +kernel
theorem dX8_ownLine_40 : decode cX8_ownLine 40 = .ok (.goto (-28), 3) := by decide +kernel
theorem dX8_ownLine_43 : decode cX8_ownLine 43 = .ok (.iload_n 1, 1) := by decide +kernel
theorem dX8_ownLine_44 : decode cX8_ownLine 44 = .ok (.ireturn, 1) := by decide +kernel
theorem dX8_fail_0 : decode cX8_fail 0 = .ok (.aload_n 0, 1) := by decide +kernel
theorem dX8_fail_1 : decode cX8_fail 1 = .ok (.getfield 142, 3) := by decide +kernel
theorem dX8_fail_4 : decode cX8_fail 4 = .ok (.ifCond .eq 4, 3) := by decide +kernel
theorem dX8_fail_7 : decode cX8_fail 7 = .ok (.return_, 1) := by decide +kernel
theorem dX8_fail_8 : decode cX8_fail 8 = .ok (.aload_n 0, 1) := by decide +kernel
theorem dX8_fail_9 : decode cX8_fail 9 = .ok (.iload_n 1, 1) := by decide +kernel
theorem dX8_fail_10 : decode cX8_fail 10 = .ok (.putfield 142, 3) := by decide +kernel
theorem dX8_fail_13 : decode cX8_fail 13 = .ok (.aload_n 0, 1) := by decide +kernel
theorem dX8_fail_14 : decode cX8_fail 14 = .ok (.aload_n 0, 1) := by decide +kernel
theorem dX8_fail_15 : decode cX8_fail 15 = .ok (.invokevirtual 145, 3) := by decide +kernel
theorem dX8_fail_18 : decode cX8_fail 18 = .ok (.putfield 149, 3) := by decide +kernel
theorem dX8_fail_21 : decode cX8_fail 21 = .ok (.return_, 1) := by decide +kernel
theorem dX8_firstWord_0 : decode cX8_firstWord 0 = .ok (.iload_n 1, 1) := by decide +kernel
theorem dX8_firstWord_1 : decode cX8_firstWord 1 = .ok (.istore_n 3, 1) := by decide +kernel
theorem dX8_firstWord_2 : decode cX8_firstWord 2 = .ok (.iload_n 3, 1) := by decide +kernel
theorem dX8_firstWord_3 : decode cX8_firstWord 3 = .ok (.iload_n 2, 1) := by decide +kernel
theorem dX8_firstWord_4 : decode cX8_firstWord 4 = .ok (.if_icmp .ge 31, 3) := by decide +kernel
theorem dX8_firstWord_7 : decode cX8_firstWord 7 = .ok (.aload_n 0, 1) := by decide +kernel
theorem dX8_firstWord_8 : decode cX8_firstWord 8 = .ok (.getfield 14, 3) := by decide +kernel
theorem dX8_firstWord_11 : decode cX8_firstWord 11 = .ok (.iload_n 3, 1) := by decide +kernel
theorem dX8_firstWord_12 : decode cX8_firstWord 12 = .ok (.baload, 1) := by decide +kernel
theorem dX8_firstWord_13 : decode cX8_firstWord 13 = .ok (.bipush 32, 2) := by decide +kernel
theorem dX8_firstWord_15 : decode cX8_firstWord 15 = .ok (.if_icmp .eq 14, 3) := by decide +kernel
theorem dX8_firstWord_18 : decode cX8_firstWord 18 = .ok (.aload_n 0, 1) := by decide +kernel
theorem dX8_firstWord_19 : decode cX8_firstWord 19 = .ok (.getfield 14, 3) := by decide +kernel
theorem dX8_firstWord_22 : decode cX8_firstWord 22 = .ok (.iload_n 3, 1) := by decide +kernel
theorem dX8_firstWord_23 : decode cX8_firstWord 23 = .ok (.baload, 1) := by decide +kernel
theorem dX8_firstWord_24 : decode cX8_firstWord 24 = .ok (.bipush 9, 2) := by decide +kernel
theorem dX8_firstWord_26 : decode cX8_firstWord 26 = .ok (.if_icmp .ne 9, 3) := by decide +kernel
theorem dX8_firstWord_29 : decode cX8_firstWord 29 = .ok (.iinc 3 1, 3) := by decide +kernel
theorem dX8_firstWord_32 : decode cX8_firstWord 32 = .ok (.goto (-30), 3) := by decide +kernel
theorem dX8_firstWord_35 : decode cX8_firstWord 35 = .ok (.aload_n 0, 1) := by decide +kernel
theorem dX8_firstWord_36 : decode cX8_firstWord 36 = .ok (.getfield 14, 3) := by decide +kernel
theorem dX8_firstWord_39 : decode cX8_firstWord 39 = .ok (.iload_n 3, 1) := by decide +kernel
theorem dX8_firstWord_40 : decode cX8_firstWord 40 = .ok (.iload_n 2, 1) := by decide +kernel
theorem dX8_firstWord_41 : decode cX8_firstWord 41 = .ok (.invokestatic 152, 3) := by decide +kernel
theorem dX8_firstWord_44 : decode cX8_firstWord 44 = .ok (.invokestatic 156, 3) := by decide +kernel
theorem dX8_firstWord_47 : decode cX8_firstWord 47 = .ok (.ireturn, 1) := by decide +kernel
theorem dX8_endOfLine_0 : decode cX8_endOfLine 0 = .ok (.iload_n 1, 1) := by decide +kernel
theorem dX8_endOfLine_1 : decode cX8_endOfLine 1 = .ok (.istore_n 2, 1) := by decide +kernel
theorem dX8_endOfLine_2 : decode cX8_endOfLine 2 = .ok (.iload_n 2, 1) := by decide +kernel
theorem dX8_endOfLine_3 : decode cX8_endOfLine 3 = .ok (.aload_n 0, 1) := by decide +kernel
theorem dX8_endOfLine_4 : decode cX8_endOfLine 4 = .ok (.getfield 160, 3) := by decide +kernel
theorem dX8_endOfLine_7 : decode cX8_endOfLine 7 = .ok (.if_icmp .ge 20, 3) := by decide +kernel
theorem dX8_endOfLine_10 : decode cX8_endOfLine 10 = .ok (.aload_n 0, 1) := by decide +kernel
theorem dX8_endOfLine_11 : decode cX8_endOfLine 11 = .ok (.getfield 14, 3) := by decide +kernel
theorem dX8_endOfLine_14 : decode cX8_endOfLine 14 = .ok (.iload_n 2, 1) := by decide +kernel
theorem dX8_endOfLine_15 : decode cX8_endOfLine 15 = .ok (.baload, 1) := by decide +kernel
theorem dX8_endOfLine_16 : decode cX8_endOfLine 16 = .ok (.bipush 10, 2) := by decide +kernel
theorem dX8_endOfLine_18 : decode cX8_endOfLine 18 = .ok (.if_icmp .eq 9, 3) := by decide +kernel
theorem dX8_endOfLine_21 : decode cX8_endOfLine 21 = .ok (.iinc 2 1, 3) := by decide +kernel
theorem dX8_endOfLine_24 : decode cX8_endOfLine 24 = .ok (.goto (-22), 3) := by decide +kernel
theorem dX8_endOfLine_27 : decode cX8_endOfLine 27 = .ok (.iload_n 2, 1) := by decide +kernel
theorem dX8_endOfLine_28 : decode cX8_endOfLine 28 = .ok (.ireturn, 1) := by decide +kernel
theorem dX8_findEnd_0 : decode cX8_findEnd 0 = .ok (.iload_n 1, 1) := by decide +kernel
theorem dX8_findEnd_1 : decode cX8_findEnd 1 = .ok (.istore 7, 2) := by decide +kernel
theorem dX8_findEnd_3 : decode cX8_findEnd 3 = .ok (.iload_n 2, 1) := by decide +kernel
theorem dX8_findEnd_4 : decode cX8_findEnd 4 = .ok (.istore 8, 2) := by decide +kernel
theorem dX8_findEnd_6 : decode cX8_findEnd 6 = .ok (.iconst 0, 1) := by decide +kernel
theorem dX8_findEnd_7 : decode cX8_findEnd 7 = .ok (.istore 9, 2) := by decide +kernel
theorem dX8_findEnd_9 : decode cX8_findEnd 9 = .ok (.iload 7, 2) := by decide +kernel
theorem dX8_findEnd_11 : decode cX8_findEnd 11 = .ok (.iload_n 3, 1) := by decide +kernel
theorem dX8_findEnd_12 : decode cX8_findEnd 12 = .ok (.if_icmp .ge 129, 3) := by decide +kernel
theorem dX8_findEnd_15 : decode cX8_findEnd 15 = .ok (.aload_n 0, 1) := by decide +kernel
theorem dX8_findEnd_16 : decode cX8_findEnd 16 = .ok (.iload 7, 2) := by decide +kernel
end
section
theorem dX8_findEnd_18 : decode cX8_findEnd 18 = .ok (.invokevirtual 163, 3) := by decide +kernel
theorem dX8_findEnd_21 : decode cX8_findEnd 21 = .ok (.istore 10, 2) := by decide +kernel
theorem dX8_findEnd_23 : decode cX8_findEnd 23 = .ok (.aload_n 0, 1) := by decide +kernel
theorem dX8_findEnd_24 : decode cX8_findEnd 24 = .ok (.iload 7, 2) := by decide +kernel
theorem dX8_findEnd_26 : decode cX8_findEnd 26 = .ok (.iload 10, 2) := by decide +kernel
theorem dX8_findEnd_28 : decode cX8_findEnd 28 = .ok (.invokevirtual 167, 3) := by decide +kernel
theorem dX8_findEnd_31 : decode cX8_findEnd 31 = .ok (.istore 11, 2) := by decide +kernel
theorem dX8_findEnd_33 : decode cX8_findEnd 33 = .ok (.iload 9, 2) := by decide +kernel
theorem dX8_findEnd_35 : decode cX8_findEnd 35 = .ok (.ifCond .ne 67, 3) := by decide +kernel
theorem dX8_findEnd_38 : decode cX8_findEnd 38 = .ok (.iload 11, 2) := by decide +kernel
theorem dX8_findEnd_40 : decode cX8_findEnd 40 = .ok (.iload 5, 2) := by decide +kernel
theorem dX8_findEnd_42 : decode cX8_findEnd 42 = .ok (.if_icmp .eq 14, 3) := by decide +kernel
theorem dX8_findEnd_45 : decode cX8_findEnd 45 = .ok (.iload 6, 2) := by decide +kernel
theorem dX8_findEnd_47 : decode cX8_findEnd 47 = .ok (.ifCond .eq 55, 3) := by decide +kernel
theorem dX8_findEnd_50 : decode cX8_findEnd 50 = .ok (.iload 11, 2) := by decide +kernel
theorem dX8_findEnd_52 : decode cX8_findEnd 52 = .ok (.iconst 2, 1) := by decide +kernel
theorem dX8_findEnd_53 : decode cX8_findEnd 53 = .ok (.if_icmp .ne 49, 3) := by decide +kernel
theorem dX8_findEnd_56 : decode cX8_findEnd 56 = .ok (.aload_n 0, 1) := by decide +kernel
theorem dX8_findEnd_57 : decode cX8_findEnd 57 = .ok (.iload 7, 2) := by decide +kernel
theorem dX8_findEnd_59 : decode cX8_findEnd 59 = .ok (.putfield 171, 3) := by decide +kernel
theorem dX8_findEnd_62 : decode cX8_findEnd 62 = .ok (.aload_n 0, 1) := by decide +kernel
theorem dX8_findEnd_63 : decode cX8_findEnd 63 = .ok (.iload 8, 2) := by decide +kernel
theorem dX8_findEnd_65 : decode cX8_findEnd 65 = .ok (.putfield 174, 3) := by decide +kernel
theorem dX8_findEnd_68 : decode cX8_findEnd 68 = .ok (.aload_n 0, 1) := by decide +kernel
theorem dX8_findEnd_69 : decode cX8_findEnd 69 = .ok (.iload 11, 2) := by decide +kernel
theorem dX8_findEnd_71 : decode cX8_findEnd 71 = .ok (.putfield 177, 3) := by decide +kernel
theorem dX8_findEnd_74 : decode cX8_findEnd 74 = .ok (.aload_n 0, 1) := by decide +kernel
theorem dX8_findEnd_75 : decode cX8_findEnd 75 = .ok (.iload 10, 2) := by decide +kernel
theorem dX8_findEnd_77 : decode cX8_findEnd 77 = .ok (.iconst 1, 1) := by decide +kernel
theorem dX8_findEnd_78 : decode cX8_findEnd 78 = .ok (.iadd, 1) := by decide +kernel
theorem dX8_findEnd_79 : decode cX8_findEnd 79 = .ok (.aload_n 0, 1) := by decide +kernel
theorem dX8_findEnd_80 : decode cX8_findEnd 80 = .ok (.getfield 160, 3) := by decide +kernel
theorem dX8_findEnd_83 : decode cX8_findEnd 83 = .ok (.if_icmp .le 10, 3) := by decide +kernel
theorem dX8_findEnd_86 : decode cX8_findEnd 86 = .ok (.aload_n 0, 1) := by decide +kernel
theorem dX8_findEnd_87 : decode cX8_findEnd 87 = .ok (.getfield 160, 3) := by decide +kernel
theorem dX8_findEnd_90 : decode cX8_findEnd 90 = .ok (.goto 7, 3) := by decide +kernel
theorem dX8_findEnd_93 : decode cX8_findEnd 93 = .ok (.iload 10, 2) := by decide +kernel
theorem dX8_findEnd_95 : decode cX8_findEnd 95 = .ok (.iconst 1, 1) := by decide +kernel
theorem dX8_findEnd_96 : decode cX8_findEnd 96 = .ok (.iadd, 1) := by decide +kernel
theorem dX8_findEnd_97 : decode cX8_findEnd 97 = .ok (.putfield 180, 3) := by decide +kernel
theorem dX8_findEnd_100 : decode cX8_findEnd 100 = .ok (.iconst 1, 1) := by decide +kernel
theorem dX8_findEnd_101 : decode cX8_findEnd 101 = .ok (.ireturn, 1) := by decide +kernel
theorem dX8_findEnd_102 : decode cX8_findEnd 102 = .ok (.iload 11, 2) := by decide +kernel
theorem dX8_findEnd_104 : decode cX8_findEnd 104 = .ok (.iload 4, 2) := by decide +kernel
theorem dX8_findEnd_106 : decode cX8_findEnd 106 = .ok (.if_icmp .ne 13, 3) := by decide +kernel
theorem dX8_findEnd_109 : decode cX8_findEnd 109 = .ok (.iload 4, 2) := by decide +kernel
theorem dX8_findEnd_111 : decode cX8_findEnd 111 = .ok (.bipush 6, 2) := by decide +kernel
theorem dX8_findEnd_113 : decode cX8_findEnd 113 = .ok (.if_icmp .eq 6, 3) := by decide +kernel
theorem dX8_findEnd_116 : decode cX8_findEnd 116 = .ok (.iinc 9 1, 3) := by decide +kernel
theorem dX8_findEnd_119 : decode cX8_findEnd 119 = .ok (.iload 11, 2) := by decide +kernel
theorem dX8_findEnd_121 : decode cX8_findEnd 121 = .ok (.iload 5, 2) := by decide +kernel
theorem dX8_findEnd_123 : decode cX8_findEnd 123 = .ok (.if_icmp .ne 6, 3) := by decide +kernel
theorem dX8_findEnd_126 : decode cX8_findEnd 126 = .ok (.iinc 9 (-1), 3) := by decide +kernel
theorem dX8_findEnd_129 : decode cX8_findEnd 129 = .ok (.iload 10, 2) := by decide +kernel
theorem dX8_findEnd_131 : decode cX8_findEnd 131 = .ok (.iconst 1, 1) := by decide +kernel
theorem dX8_findEnd_132 : decode cX8_findEnd 132 = .ok (.iadd, 1) := by decide +kernel
theorem dX8_findEnd_133 : decode cX8_findEnd 133 = .ok (.istore 7, 2) := by decide +kernel
theorem dX8_findEnd_135 : decode cX8_findEnd 135 = .ok (.iinc 8 1, 3) := by decide +kernel
theorem dX8_findEnd_138 : decode cX8_findEnd 138 = .ok (.goto (-129), 3) := by decide +kernel
theorem dX8_findEnd_141 : decode cX8_findEnd 141 = .ok (.iconst 0, 1) := by decide +kernel
theorem dX8_findEnd_142 : decode cX8_findEnd 142 = .ok (.ireturn, 1) := by decide +kernel
theorem dX8_reader_0 : decode cX8_reader 0 = .ok (.aload_n 0, 1) := by decide +kernel
theorem dX8_reader_1 : decode cX8_reader 1 = .ok (.getfield 139, 3) := by decide +kernel
theorem dX8_reader_4 : decode cX8_reader 4 = .ok (.iconst 1, 1) := by decide +kernel
theorem dX8_reader_5 : decode cX8_reader 5 = .ok (.isub, 1) := by decide +kernel
theorem dX8_reader_6 : decode cX8_reader 6 = .ok (.istore_n 1, 1) := by decide +kernel
theorem dX8_reader_7 : decode cX8_reader 7 = .ok (.iload_n 1, 1) := by decide +kernel
theorem dX8_reader_8 : decode cX8_reader 8 = .ok (.ifCond .lt 21, 3) := by decide +kernel
theorem dX8_reader_11 : decode cX8_reader 11 = .ok (.aload_n 0, 1) := by decide +kernel
theorem dX8_reader_12 : decode cX8_reader 12 = .ok (.getfield 24, 3) := by decide +kernel
theorem dX8_reader_15 : decode cX8_reader 15 = .ok (.iload_n 1, 1) := by decide +kernel
theorem dX8_reader_16 : decode cX8_reader 16 = .ok (.iaload, 1) := by decide +kernel
theorem dX8_reader_17 : decode cX8_reader 17 = .ok (.iconst 1, 1) := by decide +kernel
theorem dX8_reader_18 : decode cX8_reader 18 = .ok (.if_icmp .eq 5, 3) := by decide +kernel
theorem dX8_reader_21 : decode cX8_reader 21 = .ok (.iload_n 1, 1) := by decide +kernel
theorem dX8_reader_22 : decode cX8_reader 22 = .ok (.ireturn, 1) := by decide +kernel
theorem dX8_reader_23 : decode cX8_reader 23 = .ok (.iinc 1 (-1), 3) := by decide +kernel
theorem dX8_reader_26 : decode cX8_reader 26 = .ok (.goto (-19), 3) := by decide +kernel
theorem dX8_reader_29 : decode cX8_reader 29 = .ok (.iconst (-1), 1) := by decide +kernel
theorem dX8_reader_30 : decode cX8_reader 30 = .ok (.ireturn, 1) := by decide +kernel
theorem dX8_macroFrame_0 : decode cX8_macroFrame 0 = .ok (.aload_n 0, 1) := by decide +kernel
theorem dX8_macroFrame_1 : decode cX8_macroFrame 1 = .ok (.getfield 139, 3) := by decide +kernel
theorem dX8_macroFrame_4 : decode cX8_macroFrame 4 = .ok (.iconst 1, 1) := by decide +kernel
theorem dX8_macroFrame_5 : decode cX8_macroFrame 5 = .ok (.isub, 1) := by decide +kernel
theorem dX8_macroFrame_6 : decode cX8_macroFrame 6 = .ok (.istore_n 1, 1) := by decide +kernel
theorem dX8_macroFrame_7 : decode cX8_macroFrame 7 = .ok (.iload_n 1, 1) := by decide +kernel
theorem dX8_macroFrame_8 : decode cX8_macroFrame 8 = .ok (.ifCond .lt 22, 3) := by decide +kernel
theorem dX8_macroFrame_11 : decode cX8_macroFrame 11 = .ok (.aload_n 0, 1) := by decide +kernel
theorem dX8_macroFrame_12 : decode cX8_macroFrame 12 = .ok (.getfield 24, 3) := by decide +kernel
theorem dX8_macroFrame_15 : decode cX8_macroFrame 15 = .ok (.iload_n 1, 1) := by decide +kernel
theorem dX8_macroFrame_16 : decode cX8_macroFrame 16 = .ok (.iaload, 1) := by decide +kernel
theorem dX8_macroFrame_17 : decode cX8_macroFrame 17 = .ok (.bipush 6, 2) := by decide +kernel
theorem dX8_macroFrame_19 : decode cX8_macroFrame 19 = .ok (.if_icmp .ne 5, 3) := by decide +kernel
theorem dX8_macroFrame_22 : decode cX8_macroFrame 22 = .ok (.iload_n 1, 1) := by decide +kernel
theorem dX8_macroFrame_23 : decode cX8_macroFrame 23 = .ok (.ireturn, 1) := by decide +kernel
theorem dX8_macroFrame_24 : decode cX8_macroFrame 24 = .ok (.iinc 1 (-1), 3) := by decide +kernel
theorem dX8_macroFrame_27 : decode cX8_macroFrame 27 = .ok (.goto (-20), 3) := by decide +kernel
theorem dX8_macroFrame_30 : decode cX8_macroFrame 30 = .ok (.iconst (-1), 1) := by decide +kernel
theorem dX8_macroFrame_31 : decode cX8_macroFrame 31 = .ok (.ireturn, 1) := by decide +kernel
theorem dX8_nextLine_0 : decode cX8_nextLine 0 = .ok (.aload_n 0, 1) := by decide +kernel
theorem dX8_nextLine_1 : decode cX8_nextLine 1 = .ok (.invokevirtual 183, 3) := by decide +kernel
theorem dX8_nextLine_4 : decode cX8_nextLine 4 = .ok (.istore_n 1, 1) := by decide +kernel
theorem dX8_nextLine_5 : decode cX8_nextLine 5 = .ok (.iload_n 1, 1) := by decide +kernel
theorem dX8_nextLine_6 : decode cX8_nextLine 6 = .ok (.ifCond .lt 185, 3) := by decide +kernel
theorem dX8_nextLine_9 : decode cX8_nextLine 9 = .ok (.aload_n 0, 1) := by decide +kernel
theorem dX8_nextLine_10 : decode cX8_nextLine 10 = .ok (.getfield 186, 3) := by decide +kernel
theorem dX8_nextLine_13 : decode cX8_nextLine 13 = .ok (.aload_n 0, 1) := by decide +kernel
theorem dX8_nextLine_14 : decode cX8_nextLine 14 = .ok (.getfield 28, 3) := by decide +kernel
theorem dX8_nextLine_17 : decode cX8_nextLine 17 = .ok (.iload_n 1, 1) := by decide +kernel
theorem dX8_nextLine_18 : decode cX8_nextLine 18 = .ok (.iaload, 1) := by decide +kernel
theorem dX8_nextLine_19 : decode cX8_nextLine 19 = .ok (.if_icmp .lt 172, 3) := by decide +kernel
theorem dX8_nextLine_22 : decode cX8_nextLine 22 = .ok (.aload_n 0, 1) := by decide +kernel
theorem dX8_nextLine_23 : decode cX8_nextLine 23 = .ok (.getfield 142, 3) := by decide +kernel
theorem dX8_nextLine_26 : decode cX8_nextLine 26 = .ok (.ifCond .ne 165, 3) := by decide +kernel
theorem dX8_nextLine_29 : decode cX8_nextLine 29 = .ok (.aload_n 0, 1) := by decide +kernel
theorem dX8_nextLine_30 : decode cX8_nextLine 30 = .ok (.getfield 139, 3) := by decide +kernel
theorem dX8_nextLine_33 : decode cX8_nextLine 33 = .ok (.iconst 1, 1) := by decide +kernel
theorem dX8_nextLine_34 : decode cX8_nextLine 34 = .ok (.isub, 1) := by decide +kernel
theorem dX8_nextLine_35 : decode cX8_nextLine 35 = .ok (.iload_n 1, 1) := by decide +kernel
theorem dX8_nextLine_36 : decode cX8_nextLine 36 = .ok (.if_icmp .eq 11, 3) := by decide +kernel
theorem dX8_nextLine_39 : decode cX8_nextLine 39 = .ok (.aload_n 0, 1) := by decide +kernel
theorem dX8_nextLine_40 : decode cX8_nextLine 40 = .ok (.bipush 6, 2) := by decide +kernel
theorem dX8_nextLine_42 : decode cX8_nextLine 42 = .ok (.invokevirtual 189, 3) := by decide +kernel
theorem dX8_nextLine_45 : decode cX8_nextLine 45 = .ok (.iconst 0, 1) := by decide +kernel
theorem dX8_nextLine_46 : decode cX8_nextLine 46 = .ok (.ireturn, 1) := by decide +kernel
theorem dX8_nextLine_47 : decode cX8_nextLine 47 = .ok (.aload_n 0, 1) := by decide +kernel
theorem dX8_nextLine_48 : decode cX8_nextLine 48 = .ok (.getfield 40, 3) := by decide +kernel
theorem dX8_nextLine_51 : decode cX8_nextLine 51 = .ok (.iload_n 1, 1) := by decide +kernel
theorem dX8_nextLine_52 : decode cX8_nextLine 52 = .ok (.dup2, 1) := by decide +kernel
theorem dX8_nextLine_53 : decode cX8_nextLine 53 = .ok (.iaload, 1) := by decide +kernel
theorem dX8_nextLine_54 : decode cX8_nextLine 54 = .ok (.iconst 1, 1) := by decide +kernel
theorem dX8_nextLine_55 : decode cX8_nextLine 55 = .ok (.isub, 1) := by decide +kernel
theorem dX8_nextLine_56 : decode cX8_nextLine 56 = .ok (.iastore, 1) := by decide +kernel
theorem dX8_nextLine_57 : decode cX8_nextLine 57 = .ok (.aload_n 0, 1) := by decide +kernel
theorem dX8_nextLine_58 : decode cX8_nextLine 58 = .ok (.getfield 24, 3) := by decide +kernel
theorem dX8_nextLine_61 : decode cX8_nextLine 61 = .ok (.iload_n 1, 1) := by decide +kernel
theorem dX8_nextLine_62 : decode cX8_nextLine 62 = .ok (.iaload, 1) := by decide +kernel
theorem dX8_nextLine_63 : decode cX8_nextLine 63 = .ok (.iconst 4, 1) := by decide +kernel
theorem dX8_nextLine_64 : decode cX8_nextLine 64 = .ok (.if_icmp .ne 50, 3) := by decide +kernel
theorem dX8_nextLine_67 : decode cX8_nextLine 67 = .ok (.aload_n 0, 1) := by decide +kernel
theorem dX8_nextLine_68 : decode cX8_nextLine 68 = .ok (.getfield 40, 3) := by decide +kernel
theorem dX8_nextLine_71 : decode cX8_nextLine 71 = .ok (.iload_n 1, 1) := by decide +kernel
theorem dX8_nextLine_72 : decode cX8_nextLine 72 = .ok (.iaload, 1) := by decide +kernel
theorem dX8_nextLine_73 : decode cX8_nextLine 73 = .ok (.ifCond .le 41, 3) := by decide +kernel
theorem dX8_nextLine_76 : decode cX8_nextLine 76 = .ok (.aload_n 0, 1) := by decide +kernel
theorem dX8_nextLine_77 : decode cX8_nextLine 77 = .ok (.getfield 34, 3) := by decide +kernel
theorem dX8_nextLine_80 : decode cX8_nextLine 80 = .ok (.iload_n 1, 1) := by decide +kernel
theorem dX8_nextLine_81 : decode cX8_nextLine 81 = .ok (.iaload, 1) := by decide +kernel
theorem dX8_nextLine_82 : decode cX8_nextLine 82 = .ok (.aload_n 0, 1) := by decide +kernel
theorem dX8_nextLine_83 : decode cX8_nextLine 83 = .ok (.getfield 28, 3) := by decide +kernel
theorem dX8_nextLine_86 : decode cX8_nextLine 86 = .ok (.iload_n 1, 1) := by decide +kernel
theorem dX8_nextLine_87 : decode cX8_nextLine 87 = .ok (.iaload, 1) := by decide +kernel
theorem dX8_nextLine_88 : decode cX8_nextLine 88 = .ok (.if_icmp .ge 26, 3) := by decide +kernel
theorem dX8_nextLine_91 : decode cX8_nextLine 91 = .ok (.aload_n 0, 1) := by decide +kernel
theorem dX8_nextLine_92 : decode cX8_nextLine 92 = .ok (.aload_n 0, 1) := by decide +kernel
theorem dX8_nextLine_93 : decode cX8_nextLine 93 = .ok (.getfield 34, 3) := by decide +kernel
theorem dX8_nextLine_96 : decode cX8_nextLine 96 = .ok (.iload_n 1, 1) := by decide +kernel
theorem dX8_nextLine_97 : decode cX8_nextLine 97 = .ok (.iaload, 1) := by decide +kernel
theorem dX8_nextLine_98 : decode cX8_nextLine 98 = .ok (.putfield 186, 3) := by decide +kernel
theorem dX8_nextLine_101 : decode cX8_nextLine 101 = .ok (.aload_n 0, 1) := by decide +kernel
theorem dX8_nextLine_102 : decode cX8_nextLine 102 = .ok (.aload_n 0, 1) := by decide +kernel
theorem dX8_nextLine_103 : decode cX8_nextLine 103 = .ok (.getfield 37, 3) := by decide +kernel
theorem dX8_nextLine_106 : decode cX8_nextLine 106 = .ok (.iload_n 1, 1) := by decide +kernel
theorem dX8_nextLine_107 : decode cX8_nextLine 107 = .ok (.iaload, 1) := by decide +kernel
theorem dX8_nextLine_108 : decode cX8_nextLine 108 = .ok (.putfield 136, 3) := by decide +kernel
theorem dX8_nextLine_111 : decode cX8_nextLine 111 = .ok (.goto 72, 3) := by decide +kernel
theorem dX8_nextLine_114 : decode cX8_nextLine 114 = .ok (.aload_n 0, 1) := by decide +kernel
theorem dX8_nextLine_115 : decode cX8_nextLine 115 = .ok (.aload_n 0, 1) := by decide +kernel
theorem dX8_nextLine_116 : decode cX8_nextLine 116 = .ok (.getfield 24, 3) := by decide +kernel
theorem dX8_nextLine_119 : decode cX8_nextLine 119 = .ok (.iload_n 1, 1) := by decide +kernel
theorem dX8_nextLine_120 : decode cX8_nextLine 120 = .ok (.iaload, 1) := by decide +kernel
theorem dX8_nextLine_121 : decode cX8_nextLine 121 = .ok (.iconst 4, 1) := by decide +kernel
theorem dX8_nextLine_122 : decode cX8_nextLine 122 = .ok (.if_icmp .ne 18, 3) := by decide +kernel
theorem dX8_nextLine_125 : decode cX8_nextLine 125 = .ok (.aload_n 0, 1) := by decide +kernel
theorem dX8_nextLine_126 : decode cX8_nextLine 126 = .ok (.aload_n 0, 1) := by decide +kernel
theorem dX8_nextLine_127 : decode cX8_nextLine 127 = .ok (.getfield 28, 3) := by decide +kernel
theorem dX8_nextLine_130 : decode cX8_nextLine 130 = .ok (.iload_n 1, 1) := by decide +kernel
theorem dX8_nextLine_131 : decode cX8_nextLine 131 = .ok (.iaload, 1) := by decide +kernel
theorem dX8_nextLine_132 : decode cX8_nextLine 132 = .ok (.invokevirtual 163, 3) := by decide +kernel
theorem dX8_nextLine_135 : decode cX8_nextLine 135 = .ok (.iconst 1, 1) := by decide +kernel
theorem dX8_nextLine_136 : decode cX8_nextLine 136 = .ok (.iadd, 1) := by decide +kernel
theorem dX8_nextLine_137 : decode cX8_nextLine 137 = .ok (.goto 9, 3) := by decide +kernel
theorem dX8_nextLine_140 : decode cX8_nextLine 140 = .ok (.aload_n 0, 1) := by decide +kernel
theorem dX8_nextLine_141 : decode cX8_nextLine 141 = .ok (.getfield 34, 3) := by decide +kernel
theorem dX8_nextLine_144 : decode cX8_nextLine 144 = .ok (.iload_n 1, 1) := by decide +kernel
theorem dX8_nextLine_145 : decode cX8_nextLine 145 = .ok (.iaload, 1) := by decide +kernel
theorem dX8_nextLine_146 : decode cX8_nextLine 146 = .ok (.putfield 186, 3) := by decide +kernel
theorem dX8_nextLine_149 : decode cX8_nextLine 149 = .ok (.aload_n 0, 1) := by decide +kernel
theorem dX8_nextLine_150 : decode cX8_nextLine 150 = .ok (.aload_n 0, 1) := by decide +kernel
theorem dX8_nextLine_151 : decode cX8_nextLine 151 = .ok (.getfield 24, 3) := by decide +kernel
theorem dX8_nextLine_154 : decode cX8_nextLine 154 = .ok (.iload_n 1, 1) := by decide +kernel
theorem dX8_nextLine_155 : decode cX8_nextLine 155 = .ok (.iaload, 1) := by decide +kernel
theorem dX8_nextLine_156 : decode cX8_nextLine 156 = .ok (.iconst 4, 1) := by decide +kernel
theorem dX8_nextLine_157 : decode cX8_nextLine 157 = .ok (.if_icmp .ne 12, 3) := by decide +kernel
theorem dX8_nextLine_160 : decode cX8_nextLine 160 = .ok (.aload_n 0, 1) := by decide +kernel
theorem dX8_nextLine_161 : decode cX8_nextLine 161 = .ok (.getfield 31, 3) := by decide +kernel
theorem dX8_nextLine_164 : decode cX8_nextLine 164 = .ok (.iload_n 1, 1) := by decide +kernel
theorem dX8_nextLine_165 : decode cX8_nextLine 165 = .ok (.iaload, 1) := by decide +kernel
theorem dX8_nextLine_166 : decode cX8_nextLine 166 = .ok (.goto 9, 3) := by decide +kernel
theorem dX8_nextLine_169 : decode cX8_nextLine 169 = .ok (.aload_n 0, 1) := by decide +kernel
theorem dX8_nextLine_170 : decode cX8_nextLine 170 = .ok (.getfield 37, 3) := by decide +kernel
theorem dX8_nextLine_173 : decode cX8_nextLine 173 = .ok (.iload_n 1, 1) := by decide +kernel
theorem dX8_nextLine_174 : decode cX8_nextLine 174 = .ok (.iaload, 1) := by decide +kernel
theorem dX8_nextLine_175 : decode cX8_nextLine 175 = .ok (.putfield 136, 3) := by decide +kernel
theorem dX8_nextLine_178 : decode cX8_nextLine 178 = .ok (.aload_n 0, 1) := by decide +kernel
theorem dX8_nextLine_179 : decode cX8_nextLine 179 = .ok (.iload_n 1, 1) := by decide +kernel
theorem dX8_nextLine_180 : decode cX8_nextLine 180 = .ok (.putfield 139, 3) := by decide +kernel
theorem dX8_nextLine_183 : decode cX8_nextLine 183 = .ok (.aload_n 0, 1) := by decide +kernel
theorem dX8_nextLine_184 : decode cX8_nextLine 184 = .ok (.invokevirtual 183, 3) := by decide +kernel
theorem dX8_nextLine_187 : decode cX8_nextLine 187 = .ok (.istore_n 1, 1) := by decide +kernel
theorem dX8_nextLine_188 : decode cX8_nextLine 188 = .ok (.goto (-183), 3) := by decide +kernel
theorem dX8_nextLine_191 : decode cX8_nextLine 191 = .ok (.aload_n 0, 1) := by decide +kernel
theorem dX8_nextLine_192 : decode cX8_nextLine 192 = .ok (.getfield 142, 3) := by decide +kernel
theorem dX8_nextLine_195 : decode cX8_nextLine 195 = .ok (.ifCond .ne 14, 3) := by decide +kernel
theorem dX8_nextLine_198 : decode cX8_nextLine 198 = .ok (.aload_n 0, 1) := by decide +kernel
theorem dX8_nextLine_199 : decode cX8_nextLine 199 = .ok (.getfield 186, 3) := by decide +kernel
theorem dX8_nextLine_202 : decode cX8_nextLine 202 = .ok (.aload_n 0, 1) := by decide +kernel
theorem dX8_nextLine_203 : decode cX8_nextLine 203 = .ok (.getfield 160, 3) := by decide +kernel
theorem dX8_nextLine_206 : decode cX8_nextLine 206 = .ok (.if_icmp .lt 5, 3) := by decide +kernel
theorem dX8_nextLine_209 : decode cX8_nextLine 209 = .ok (.iconst 0, 1) := by decide +kernel
theorem dX8_nextLine_210 : decode cX8_nextLine 210 = .ok (.ireturn, 1) := by decide +kernel
theorem dX8_nextLine_211 : decode cX8_nextLine 211 = .ok (.aload_n 0, 1) := by decide +kernel
theorem dX8_nextLine_212 : decode cX8_nextLine 212 = .ok (.aload_n 0, 1) := by decide +kernel
theorem dX8_nextLine_213 : decode cX8_nextLine 213 = .ok (.getfield 186, 3) := by decide +kernel
theorem dX8_nextLine_216 : decode cX8_nextLine 216 = .ok (.putfield 193, 3) := by decide +kernel
theorem dX8_nextLine_219 : decode cX8_nextLine 219 = .ok (.aload_n 0, 1) := by decide +kernel
theorem dX8_nextLine_220 : decode cX8_nextLine 220 = .ok (.aload_n 0, 1) := by decide +kernel
theorem dX8_nextLine_221 : decode cX8_nextLine 221 = .ok (.aload_n 0, 1) := by decide +kernel
theorem dX8_nextLine_222 : decode cX8_nextLine 222 = .ok (.getfield 186, 3) := by decide +kernel
theorem dX8_nextLine_225 : decode cX8_nextLine 225 = .ok (.invokevirtual 163, 3) := by decide +kernel
theorem dX8_nextLine_228 : decode cX8_nextLine 228 = .ok (.putfield 196, 3) := by decide +kernel
theorem dX8_nextLine_231 : decode cX8_nextLine 231 = .ok (.aload_n 0, 1) := by decide +kernel
theorem dX8_nextLine_232 : decode cX8_nextLine 232 = .ok (.aload_n 0, 1) := by decide +kernel
theorem dX8_nextLine_233 : decode cX8_nextLine 233 = .ok (.getfield 196, 3) := by decide +kernel
theorem dX8_nextLine_236 : decode cX8_nextLine 236 = .ok (.iconst 1, 1) := by decide +kernel
theorem dX8_nextLine_237 : decode cX8_nextLine 237 = .ok (.iadd, 1) := by decide +kernel
theorem dX8_nextLine_238 : decode cX8_nextLine 238 = .ok (.putfield 186, 3) := by decide +kernel
theorem dX8_nextLine_241 : decode cX8_nextLine 241 = .ok (.aload_n 0, 1) := by decide +kernel
theorem dX8_nextLine_242 : decode cX8_nextLine 242 = .ok (.dup, 1) := by decide +kernel
theorem dX8_nextLine_243 : decode cX8_nextLine 243 = .ok (.getfield 136, 3) := by decide +kernel
theorem dX8_nextLine_246 : decode cX8_nextLine 246 = .ok (.iconst 1, 1) := by decide +kernel
theorem dX8_nextLine_247 : decode cX8_nextLine 247 = .ok (.iadd, 1) := by decide +kernel
theorem dX8_nextLine_248 : decode cX8_nextLine 248 = .ok (.putfield 136, 3) := by decide +kernel
theorem dX8_nextLine_251 : decode cX8_nextLine 251 = .ok (.iconst 1, 1) := by decide +kernel
theorem dX8_nextLine_252 : decode cX8_nextLine 252 = .ok (.ireturn, 1) := by decide +kernel
theorem dX8_append_0 : decode cX8_append 0 = .ok (.aload_n 0, 1) := by decide +kernel
theorem dX8_append_1 : decode cX8_append 1 = .ok (.getfield 199, 3) := by decide +kernel
theorem dX8_append_4 : decode cX8_append 4 = .ok (.sipush 1090, 3) := by decide +kernel
theorem dX8_append_7 : decode cX8_append 7 = .ok (.if_icmp .ge 14, 3) := by decide +kernel
theorem dX8_append_10 : decode cX8_append 10 = .ok (.aload_n 0, 1) := by decide +kernel
theorem dX8_append_11 : decode cX8_append 11 = .ok (.getfield 21, 3) := by decide +kernel
theorem dX8_append_14 : decode cX8_append 14 = .ok (.aload_n 0, 1) := by decide +kernel
theorem dX8_append_15 : decode cX8_append 15 = .ok (.getfield 199, 3) := by decide +kernel
theorem dX8_append_18 : decode cX8_append 18 = .ok (.iload_n 1, 1) := by decide +kernel
theorem dX8_append_19 : decode cX8_append 19 = .ok (.i2b, 1) := by decide +kernel
theorem dX8_append_20 : decode cX8_append 20 = .ok (.bastore, 1) := by decide +kernel
theorem dX8_append_21 : decode cX8_append 21 = .ok (.aload_n 0, 1) := by decide +kernel
theorem dX8_append_22 : decode cX8_append 22 = .ok (.dup, 1) := by decide +kernel
theorem dX8_append_23 : decode cX8_append 23 = .ok (.getfield 199, 3) := by decide +kernel
theorem dX8_append_26 : decode cX8_append 26 = .ok (.iconst 1, 1) := by decide +kernel
theorem dX8_append_27 : decode cX8_append 27 = .ok (.iadd, 1) := by decide +kernel
theorem dX8_append_28 : decode cX8_append 28 = .ok (.putfield 199, 3) := by decide +kernel
theorem dX8_append_31 : decode cX8_append 31 = .ok (.return_, 1) := by decide +kernel
theorem dX8_parameterAt_0 : decode cX8_parameterAt 0 = .ok (.iconst 0, 1) := by decide +kernel
theorem dX8_parameterAt_1 : decode cX8_parameterAt 1 = .ok (.istore 4, 2) := by decide +kernel
theorem dX8_parameterAt_3 : decode cX8_parameterAt 3 = .ok (.aload_n 0, 1) := by decide +kernel
theorem dX8_parameterAt_4 : decode cX8_parameterAt 4 = .ok (.getfield 75, 3) := by decide +kernel
theorem dX8_parameterAt_7 : decode cX8_parameterAt 7 = .ok (.iload_n 1, 1) := by decide +kernel
theorem dX8_parameterAt_8 : decode cX8_parameterAt 8 = .ok (.iaload, 1) := by decide +kernel
theorem dX8_parameterAt_9 : decode cX8_parameterAt 9 = .ok (.istore 5, 2) := by decide +kernel
theorem dX8_parameterAt_11 : decode cX8_parameterAt 11 = .ok (.aload_n 0, 1) := by decide +kernel
theorem dX8_parameterAt_12 : decode cX8_parameterAt 12 = .ok (.iload 5, 2) := by decide +kernel
theorem dX8_parameterAt_14 : decode cX8_parameterAt 14 = .ok (.invokevirtual 163, 3) := by decide +kernel
theorem dX8_parameterAt_17 : decode cX8_parameterAt 17 = .ok (.istore 6, 2) := by decide +kernel
theorem dX8_parameterAt_19 : decode cX8_parameterAt 19 = .ok (.iconst 0, 1) := by decide +kernel
theorem dX8_parameterAt_20 : decode cX8_parameterAt 20 = .ok (.istore 7, 2) := by decide +kernel
theorem dX8_parameterAt_22 : decode cX8_parameterAt 22 = .ok (.iload 5, 2) := by decide +kernel
theorem dX8_parameterAt_24 : decode cX8_parameterAt 24 = .ok (.iload 6, 2) := by decide +kernel
theorem dX8_parameterAt_26 : decode cX8_parameterAt 26 = .ok (.if_icmp .ge 169, 3) := by decide +kernel
theorem dX8_parameterAt_29 : decode cX8_parameterAt 29 = .ok (.aload_n 0, 1) := by decide +kernel
theorem dX8_parameterAt_30 : decode cX8_parameterAt 30 = .ok (.getfield 14, 3) := by decide +kernel
theorem dX8_parameterAt_33 : decode cX8_parameterAt 33 = .ok (.iload 5, 2) := by decide +kernel
theorem dX8_parameterAt_35 : decode cX8_parameterAt 35 = .ok (.baload, 1) := by decide +kernel
theorem dX8_parameterAt_36 : decode cX8_parameterAt 36 = .ok (.bipush 59, 2) := by decide +kernel
theorem dX8_parameterAt_38 : decode cX8_parameterAt 38 = .ok (.if_icmp .eq 157, 3) := by decide +kernel
theorem dX8_parameterAt_41 : decode cX8_parameterAt 41 = .ok (.aload_n 0, 1) := by decide +kernel
theorem dX8_parameterAt_42 : decode cX8_parameterAt 42 = .ok (.getfield 14, 3) := by decide +kernel
theorem dX8_parameterAt_45 : decode cX8_parameterAt 45 = .ok (.iload 5, 2) := by decide +kernel
theorem dX8_parameterAt_47 : decode cX8_parameterAt 47 = .ok (.baload, 1) := by decide +kernel
theorem dX8_parameterAt_48 : decode cX8_parameterAt 48 = .ok (.invokestatic 117, 3) := by decide +kernel
theorem dX8_parameterAt_51 : decode cX8_parameterAt 51 = .ok (.ifCond .ne 9, 3) := by decide +kernel
theorem dX8_parameterAt_54 : decode cX8_parameterAt 54 = .ok (.iinc 5 1, 3) := by decide +kernel
theorem dX8_parameterAt_57 : decode cX8_parameterAt 57 = .ok (.goto (-35), 3) := by decide +kernel
theorem dX8_parameterAt_60 : decode cX8_parameterAt 60 = .ok (.iconst 0, 1) := by decide +kernel
theorem dX8_parameterAt_61 : decode cX8_parameterAt 61 = .ok (.istore 8, 2) := by decide +kernel
theorem dX8_parameterAt_63 : decode cX8_parameterAt 63 = .ok (.iload 5, 2) := by decide +kernel
theorem dX8_parameterAt_65 : decode cX8_parameterAt 65 = .ok (.iload 8, 2) := by decide +kernel
theorem dX8_parameterAt_67 : decode cX8_parameterAt 67 = .ok (.iadd, 1) := by decide +kernel
theorem dX8_parameterAt_68 : decode cX8_parameterAt 68 = .ok (.iload 6, 2) := by decide +kernel
theorem dX8_parameterAt_70 : decode cX8_parameterAt 70 = .ok (.if_icmp .ge 25, 3) := by decide +kernel
theorem dX8_parameterAt_73 : decode cX8_parameterAt 73 = .ok (.aload_n 0, 1) := by decide +kernel
theorem dX8_parameterAt_74 : decode cX8_parameterAt 74 = .ok (.getfield 14, 3) := by decide +kernel
theorem dX8_parameterAt_77 : decode cX8_parameterAt 77 = .ok (.iload 5, 2) := by decide +kernel
theorem dX8_parameterAt_79 : decode cX8_parameterAt 79 = .ok (.iload 8, 2) := by decide +kernel
theorem dX8_parameterAt_81 : decode cX8_parameterAt 81 = .ok (.iadd, 1) := by decide +kernel
theorem dX8_parameterAt_82 : decode cX8_parameterAt 82 = .ok (.baload, 1) := by decide +kernel
theorem dX8_parameterAt_83 : decode cX8_parameterAt 83 = .ok (.invokestatic 117, 3) := by decide +kernel
theorem dX8_parameterAt_86 : decode cX8_parameterAt 86 = .ok (.ifCond .eq 9, 3) := by decide +kernel
theorem dX8_parameterAt_89 : decode cX8_parameterAt 89 = .ok (.iinc 8 1, 3) := by decide +kernel
theorem dX8_parameterAt_92 : decode cX8_parameterAt 92 = .ok (.goto (-29), 3) := by decide +kernel
theorem dX8_parameterAt_95 : decode cX8_parameterAt 95 = .ok (.iload_n 2, 1) := by decide +kernel
theorem dX8_parameterAt_96 : decode cX8_parameterAt 96 = .ok (.iload 8, 2) := by decide +kernel
theorem dX8_parameterAt_98 : decode cX8_parameterAt 98 = .ok (.iadd, 1) := by decide +kernel
theorem dX8_parameterAt_99 : decode cX8_parameterAt 99 = .ok (.iload_n 3, 1) := by decide +kernel
theorem dX8_parameterAt_100 : decode cX8_parameterAt 100 = .ok (.if_icmp .gt 7, 3) := by decide +kernel
theorem dX8_parameterAt_103 : decode cX8_parameterAt 103 = .ok (.iconst 1, 1) := by decide +kernel
theorem dX8_parameterAt_104 : decode cX8_parameterAt 104 = .ok (.goto 4, 3) := by decide +kernel
theorem dX8_parameterAt_107 : decode cX8_parameterAt 107 = .ok (.iconst 0, 1) := by decide +kernel
theorem dX8_parameterAt_108 : decode cX8_parameterAt 108 = .ok (.istore 9, 2) := by decide +kernel
theorem dX8_parameterAt_110 : decode cX8_parameterAt 110 = .ok (.iconst 0, 1) := by decide +kernel
theorem dX8_parameterAt_111 : decode cX8_parameterAt 111 = .ok (.istore 10, 2) := by decide +kernel
theorem dX8_parameterAt_113 : decode cX8_parameterAt 113 = .ok (.iload 10, 2) := by decide +kernel
theorem dX8_parameterAt_115 : decode cX8_parameterAt 115 = .ok (.iload 8, 2) := by decide +kernel
theorem dX8_parameterAt_117 : decode cX8_parameterAt 117 = .ok (.if_icmp .ge 43, 3) := by decide +kernel
theorem dX8_parameterAt_120 : decode cX8_parameterAt 120 = .ok (.iload 9, 2) := by decide +kernel
theorem dX8_parameterAt_122 : decode cX8_parameterAt 122 = .ok (.ifCond .eq 38, 3) := by decide +kernel
theorem dX8_parameterAt_125 : decode cX8_parameterAt 125 = .ok (.aload_n 0, 1) := by decide +kernel
theorem dX8_parameterAt_126 : decode cX8_parameterAt 126 = .ok (.getfield 14, 3) := by decide +kernel
theorem dX8_parameterAt_129 : decode cX8_parameterAt 129 = .ok (.iload 5, 2) := by decide +kernel
theorem dX8_parameterAt_131 : decode cX8_parameterAt 131 = .ok (.iload 10, 2) := by decide +kernel
theorem dX8_parameterAt_133 : decode cX8_parameterAt 133 = .ok (.iadd, 1) := by decide +kernel
theorem dX8_parameterAt_134 : decode cX8_parameterAt 134 = .ok (.baload, 1) := by decide +kernel
theorem dX8_parameterAt_135 : decode cX8_parameterAt 135 = .ok (.aload_n 0, 1) := by decide +kernel
theorem dX8_parameterAt_136 : decode cX8_parameterAt 136 = .ok (.getfield 14, 3) := by decide +kernel
theorem dX8_parameterAt_139 : decode cX8_parameterAt 139 = .ok (.iload_n 2, 1) := by decide +kernel
theorem dX8_parameterAt_140 : decode cX8_parameterAt 140 = .ok (.iload 10, 2) := by decide +kernel
theorem dX8_parameterAt_142 : decode cX8_parameterAt 142 = .ok (.iadd, 1) := by decide +kernel
theorem dX8_parameterAt_143 : decode cX8_parameterAt 143 = .ok (.baload, 1) := by decide +kernel
theorem dX8_parameterAt_144 : decode cX8_parameterAt 144 = .ok (.if_icmp .ne 7, 3) := by decide +kernel
theorem dX8_parameterAt_147 : decode cX8_parameterAt 147 = .ok (.iconst 1, 1) := by decide +kernel
theorem dX8_parameterAt_148 : decode cX8_parameterAt 148 = .ok (.goto 4, 3) := by decide +kernel
theorem dX8_parameterAt_151 : decode cX8_parameterAt 151 = .ok (.iconst 0, 1) := by decide +kernel
theorem dX8_parameterAt_152 : decode cX8_parameterAt 152 = .ok (.istore 9, 2) := by decide +kernel
theorem dX8_parameterAt_154 : decode cX8_parameterAt 154 = .ok (.iinc 10 1, 3) := by decide +kernel
theorem dX8_parameterAt_157 : decode cX8_parameterAt 157 = .ok (.goto (-44), 3) := by decide +kernel
theorem dX8_parameterAt_160 : decode cX8_parameterAt 160 = .ok (.iload 9, 2) := by decide +kernel
theorem dX8_parameterAt_162 : decode cX8_parameterAt 162 = .ok (.ifCond .eq 20, 3) := by decide +kernel
theorem dX8_parameterAt_165 : decode cX8_parameterAt 165 = .ok (.iload 8, 2) := by decide +kernel
theorem dX8_parameterAt_167 : decode cX8_parameterAt 167 = .ok (.iload 4, 2) := by decide +kernel
theorem dX8_parameterAt_169 : decode cX8_parameterAt 169 = .ok (.if_icmp .le 13, 3) := by decide +kernel
theorem dX8_parameterAt_172 : decode cX8_parameterAt 172 = .ok (.iload 8, 2) := by decide +kernel
theorem dX8_parameterAt_174 : decode cX8_parameterAt 174 = .ok (.istore 4, 2) := by decide +kernel
theorem dX8_parameterAt_176 : decode cX8_parameterAt 176 = .ok (.aload_n 0, 1) := by decide +kernel
theorem dX8_parameterAt_177 : decode cX8_parameterAt 177 = .ok (.iload 7, 2) := by decide +kernel
theorem dX8_parameterAt_179 : decode cX8_parameterAt 179 = .ok (.putfield 171, 3) := by decide +kernel
theorem dX8_parameterAt_182 : decode cX8_parameterAt 182 = .ok (.iinc 7 1, 3) := by decide +kernel
theorem dX8_parameterAt_185 : decode cX8_parameterAt 185 = .ok (.iload 5, 2) := by decide +kernel
theorem dX8_parameterAt_187 : decode cX8_parameterAt 187 = .ok (.iload 8, 2) := by decide +kernel
theorem dX8_parameterAt_189 : decode cX8_parameterAt 189 = .ok (.iadd, 1) := by decide +kernel
theorem dX8_parameterAt_190 : decode cX8_parameterAt 190 = .ok (.istore 5, 2) := by decide +kernel
theorem dX8_parameterAt_192 : decode cX8_parameterAt 192 = .ok (.goto (-170), 3) := by decide +kernel
theorem dX8_parameterAt_195 : decode cX8_parameterAt 195 = .ok (.iload 4, 2) := by decide +kernel
theorem dX8_parameterAt_197 : decode cX8_parameterAt 197 = .ok (.ireturn, 1) := by decide +kernel
theorem dX8_appendNumber_0 : decode cX8_appendNumber 0 = .ok (.iconst 1, 1) := by decide +kernel
theorem dX8_appendNumber_1 : decode cX8_appendNumber 1 = .ok (.istore_n 2, 1) := by decide +kernel
theorem dX8_appendNumber_2 : decode cX8_appendNumber 2 = .ok (.iload_n 1, 1) := by decide +kernel
theorem dX8_appendNumber_3 : decode cX8_appendNumber 3 = .ok (.iload_n 2, 1) := by decide +kernel
theorem dX8_appendNumber_4 : decode cX8_appendNumber 4 = .ok (.idiv, 1) := by decide +kernel
theorem dX8_appendNumber_5 : decode cX8_appendNumber 5 = .ok (.bipush 9, 2) := by decide +kernel
theorem dX8_appendNumber_7 : decode cX8_appendNumber 7 = .ok (.if_icmp .le 11, 3) := by decide +kernel
theorem dX8_appendNumber_10 : decode cX8_appendNumber 10 = .ok (.iload_n 2, 1) := by decide +kernel
theorem dX8_appendNumber_11 : decode cX8_appendNumber 11 = .ok (.bipush 10, 2) := by decide +kernel
theorem dX8_appendNumber_13 : decode cX8_appendNumber 13 = .ok (.imul, 1) := by decide +kernel
theorem dX8_appendNumber_14 : decode cX8_appendNumber 14 = .ok (.istore_n 2, 1) := by decide +kernel
theorem dX8_appendNumber_15 : decode cX8_appendNumber 15 = .ok (.goto (-13), 3) := by decide +kernel
theorem dX8_appendNumber_18 : decode cX8_appendNumber 18 = .ok (.iload_n 2, 1) := by decide +kernel
theorem dX8_appendNumber_19 : decode cX8_appendNumber 19 = .ok (.istore_n 3, 1) := by decide +kernel
theorem dX8_appendNumber_20 : decode cX8_appendNumber 20 = .ok (.iload_n 3, 1) := by decide +kernel
theorem dX8_appendNumber_21 : decode cX8_appendNumber 21 = .ok (.ifCond .le 24, 3) := by decide +kernel
theorem dX8_appendNumber_24 : decode cX8_appendNumber 24 = .ok (.aload_n 0, 1) := by decide +kernel
theorem dX8_appendNumber_25 : decode cX8_appendNumber 25 = .ok (.bipush 48, 2) := by decide +kernel
theorem dX8_appendNumber_27 : decode cX8_appendNumber 27 = .ok (.iload_n 1, 1) := by decide +kernel
theorem dX8_appendNumber_28 : decode cX8_appendNumber 28 = .ok (.iload_n 3, 1) := by decide +kernel
theorem dX8_appendNumber_29 : decode cX8_appendNumber 29 = .ok (.idiv, 1) := by decide +kernel
theorem dX8_appendNumber_30 : decode cX8_appendNumber 30 = .ok (.bipush 10, 2) := by decide +kernel
theorem dX8_appendNumber_32 : decode cX8_appendNumber 32 = .ok (.irem, 1) := by decide +kernel
theorem dX8_appendNumber_33 : decode cX8_appendNumber 33 = .ok (.iadd, 1) := by decide +kernel
theorem dX8_appendNumber_34 : decode cX8_appendNumber 34 = .ok (.invokevirtual 202, 3) := by decide +kernel
theorem dX8_appendNumber_37 : decode cX8_appendNumber 37 = .ok (.iload_n 3, 1) := by decide +kernel
theorem dX8_appendNumber_38 : decode cX8_appendNumber 38 = .ok (.bipush 10, 2) := by decide +kernel
theorem dX8_appendNumber_40 : decode cX8_appendNumber 40 = .ok (.idiv, 1) := by decide +kernel
theorem dX8_appendNumber_41 : decode cX8_appendNumber 41 = .ok (.istore_n 3, 1) := by decide +kernel
theorem dX8_appendNumber_42 : decode cX8_appendNumber 42 = .ok (.goto (-22), 3) := by decide +kernel
theorem dX8_appendNumber_45 : decode cX8_appendNumber 45 = .ok (.return_, 1) := by decide +kernel
theorem dX8_expand_0 : decode cX8_expand 0 = .ok (.aload_n 0, 1) := by decide +kernel
theorem dX8_expand_1 : decode cX8_expand 1 = .ok (.iconst 0, 1) := by decide +kernel
theorem dX8_expand_2 : decode cX8_expand 2 = .ok (.putfield 199, 3) := by decide +kernel
theorem dX8_expand_5 : decode cX8_expand 5 = .ok (.aload_n 0, 1) := by decide +kernel
theorem dX8_expand_6 : decode cX8_expand 6 = .ok (.getfield 196, 3) := by decide +kernel
theorem dX8_expand_9 : decode cX8_expand 9 = .ok (.aload_n 0, 1) := by decide +kernel
theorem dX8_expand_10 : decode cX8_expand 10 = .ok (.getfield 193, 3) := by decide +kernel
theorem dX8_expand_13 : decode cX8_expand 13 = .ok (.isub, 1) := by decide +kernel
theorem dX8_expand_14 : decode cX8_expand 14 = .ok (.sipush 1024, 3) := by decide +kernel
theorem dX8_expand_17 : decode cX8_expand 17 = .ok (.if_icmp .le 9, 3) := by decide +kernel
theorem dX8_expand_20 : decode cX8_expand 20 = .ok (.aload_n 0, 1) := by decide +kernel
theorem dX8_expand_21 : decode cX8_expand 21 = .ok (.iconst 5, 1) := by decide +kernel
theorem dX8_expand_22 : decode cX8_expand 22 = .ok (.invokevirtual 189, 3) := by decide +kernel
theorem dX8_expand_25 : decode cX8_expand 25 = .ok (.return_, 1) := by decide +kernel
theorem dX8_expand_26 : decode cX8_expand 26 = .ok (.aload_n 0, 1) := by decide +kernel
theorem dX8_expand_27 : decode cX8_expand 27 = .ok (.invokevirtual 205, 3) := by decide +kernel
theorem dX8_expand_30 : decode cX8_expand 30 = .ok (.istore_n 1, 1) := by decide +kernel
theorem dX8_expand_31 : decode cX8_expand 31 = .ok (.aload_n 0, 1) := by decide +kernel
theorem dX8_expand_32 : decode cX8_expand 32 = .ok (.getfield 193, 3) := by decide +kernel
theorem dX8_expand_35 : decode cX8_expand 35 = .ok (.istore_n 2, 1) := by decide +kernel
theorem dX8_expand_36 : decode cX8_expand 36 = .ok (.iload_n 2, 1) := by decide +kernel
theorem dX8_expand_37 : decode cX8_expand 37 = .ok (.aload_n 0, 1) := by decide +kernel
theorem dX8_expand_38 : decode cX8_expand 38 = .ok (.getfield 196, 3) := by decide +kernel
theorem dX8_expand_41 : decode cX8_expand 41 = .ok (.if_icmp .ge 201, 3) := by decide +kernel
theorem dX8_expand_44 : decode cX8_expand 44 = .ok (.aload_n 0, 1) := by decide +kernel
theorem dX8_expand_45 : decode cX8_expand 45 = .ok (.getfield 14, 3) := by decide +kernel
theorem dX8_expand_48 : decode cX8_expand 48 = .ok (.iload_n 2, 1) := by decide +kernel
theorem dX8_expand_49 : decode cX8_expand 49 = .ok (.baload, 1) := by decide +kernel
theorem dX8_expand_50 : decode cX8_expand 50 = .ok (.istore_n 3, 1) := by decide +kernel
theorem dX8_expand_51 : decode cX8_expand 51 = .ok (.iload_n 1, 1) := by decide +kernel
theorem dX8_expand_52 : decode cX8_expand 52 = .ok (.ifCond .lt 29, 3) := by decide +kernel
theorem dX8_expand_55 : decode cX8_expand 55 = .ok (.iload_n 3, 1) := by decide +kernel
theorem dX8_expand_56 : decode cX8_expand 56 = .ok (.bipush 92, 2) := by decide +kernel
theorem dX8_expand_58 : decode cX8_expand 58 = .ok (.if_icmp .ne 23, 3) := by decide +kernel
theorem dX8_expand_61 : decode cX8_expand 61 = .ok (.aload_n 0, 1) := by decide +kernel
theorem dX8_expand_62 : decode cX8_expand 62 = .ok (.aload_n 0, 1) := by decide +kernel
theorem dX8_expand_63 : decode cX8_expand 63 = .ok (.getfield 46, 3) := by decide +kernel
theorem dX8_expand_66 : decode cX8_expand 66 = .ok (.iload_n 1, 1) := by decide +kernel
theorem dX8_expand_67 : decode cX8_expand 67 = .ok (.iaload, 1) := by decide +kernel
theorem dX8_expand_68 : decode cX8_expand 68 = .ok (.iload_n 2, 1) := by decide +kernel
theorem dX8_expand_69 : decode cX8_expand 69 = .ok (.iconst 1, 1) := by decide +kernel
theorem dX8_expand_70 : decode cX8_expand 70 = .ok (.iadd, 1) := by decide +kernel
theorem dX8_expand_71 : decode cX8_expand 71 = .ok (.aload_n 0, 1) := by decide +kernel
theorem dX8_expand_72 : decode cX8_expand 72 = .ok (.getfield 196, 3) := by decide +kernel
theorem dX8_expand_75 : decode cX8_expand 75 = .ok (.invokevirtual 208, 3) := by decide +kernel
theorem dX8_expand_78 : decode cX8_expand 78 = .ok (.goto 4, 3) := by decide +kernel
theorem dX8_expand_81 : decode cX8_expand 81 = .ok (.iconst 0, 1) := by decide +kernel
theorem dX8_expand_82 : decode cX8_expand 82 = .ok (.istore 4, 2) := by decide +kernel
theorem dX8_expand_84 : decode cX8_expand 84 = .ok (.iload 4, 2) := by decide +kernel
theorem dX8_expand_86 : decode cX8_expand 86 = .ok (.ifCond .le 80, 3) := by decide +kernel
theorem dX8_expand_89 : decode cX8_expand 89 = .ok (.aload_n 0, 1) := by decide +kernel
theorem dX8_expand_90 : decode cX8_expand 90 = .ok (.getfield 63, 3) := by decide +kernel
theorem dX8_expand_93 : decode cX8_expand 93 = .ok (.iload_n 1, 1) := by decide +kernel
theorem dX8_expand_94 : decode cX8_expand 94 = .ok (.aaload, 1) := by decide +kernel
theorem dX8_expand_95 : decode cX8_expand 95 = .ok (.iconst 2, 1) := by decide +kernel
theorem dX8_expand_96 : decode cX8_expand 96 = .ok (.aload_n 0, 1) := by decide +kernel
theorem dX8_expand_97 : decode cX8_expand 97 = .ok (.getfield 171, 3) := by decide +kernel
theorem dX8_expand_100 : decode cX8_expand 100 = .ok (.imul, 1) := by decide +kernel
theorem dX8_expand_101 : decode cX8_expand 101 = .ok (.iaload, 1) := by decide +kernel
theorem dX8_expand_102 : decode cX8_expand 102 = .ok (.istore 5, 2) := by decide +kernel
theorem dX8_expand_104 : decode cX8_expand 104 = .ok (.iload 5, 2) := by decide +kernel
theorem dX8_expand_106 : decode cX8_expand 106 = .ok (.aload_n 0, 1) := by decide +kernel
theorem dX8_expand_107 : decode cX8_expand 107 = .ok (.getfield 63, 3) := by decide +kernel
theorem dX8_expand_110 : decode cX8_expand 110 = .ok (.iload_n 1, 1) := by decide +kernel
theorem dX8_expand_111 : decode cX8_expand 111 = .ok (.aaload, 1) := by decide +kernel
theorem dX8_expand_112 : decode cX8_expand 112 = .ok (.iconst 2, 1) := by decide +kernel
theorem dX8_expand_113 : decode cX8_expand 113 = .ok (.aload_n 0, 1) := by decide +kernel
theorem dX8_expand_114 : decode cX8_expand 114 = .ok (.getfield 171, 3) := by decide +kernel
theorem dX8_expand_117 : decode cX8_expand 117 = .ok (.imul, 1) := by decide +kernel
theorem dX8_expand_118 : decode cX8_expand 118 = .ok (.iconst 1, 1) := by decide +kernel
theorem dX8_expand_119 : decode cX8_expand 119 = .ok (.iadd, 1) := by decide +kernel
theorem dX8_expand_120 : decode cX8_expand 120 = .ok (.iaload, 1) := by decide +kernel
theorem dX8_expand_121 : decode cX8_expand 121 = .ok (.if_icmp .ge 35, 3) := by decide +kernel
theorem dX8_expand_124 : decode cX8_expand 124 = .ok (.aload_n 0, 1) := by decide +kernel
theorem dX8_expand_125 : decode cX8_expand 125 = .ok (.getfield 171, 3) := by decide +kernel
theorem dX8_expand_128 : decode cX8_expand 128 = .ok (.aload_n 0, 1) := by decide +kernel
theorem dX8_expand_129 : decode cX8_expand 129 = .ok (.getfield 66, 3) := by decide +kernel
theorem dX8_expand_132 : decode cX8_expand 132 = .ok (.iload_n 1, 1) := by decide +kernel
theorem dX8_expand_133 : decode cX8_expand 133 = .ok (.iaload, 1) := by decide +kernel
theorem dX8_expand_134 : decode cX8_expand 134 = .ok (.if_icmp .ge 22, 3) := by decide +kernel
theorem dX8_expand_137 : decode cX8_expand 137 = .ok (.aload_n 0, 1) := by decide +kernel
theorem dX8_expand_138 : decode cX8_expand 138 = .ok (.aload_n 0, 1) := by decide +kernel
theorem dX8_expand_139 : decode cX8_expand 139 = .ok (.getfield 58, 3) := by decide +kernel
theorem dX8_expand_142 : decode cX8_expand 142 = .ok (.iload_n 1, 1) := by decide +kernel
theorem dX8_expand_143 : decode cX8_expand 143 = .ok (.aaload, 1) := by decide +kernel
theorem dX8_expand_144 : decode cX8_expand 144 = .ok (.iload 5, 2) := by decide +kernel
theorem dX8_expand_146 : decode cX8_expand 146 = .ok (.baload, 1) := by decide +kernel
theorem dX8_expand_147 : decode cX8_expand 147 = .ok (.invokevirtual 202, 3) := by decide +kernel
theorem dX8_expand_150 : decode cX8_expand 150 = .ok (.iinc 5 1, 3) := by decide +kernel
theorem dX8_expand_153 : decode cX8_expand 153 = .ok (.goto (-49), 3) := by decide +kernel
theorem dX8_expand_156 : decode cX8_expand 156 = .ok (.iload_n 2, 1) := by decide +kernel
theorem dX8_expand_157 : decode cX8_expand 157 = .ok (.iload 4, 2) := by decide +kernel
theorem dX8_expand_159 : decode cX8_expand 159 = .ok (.iconst 1, 1) := by decide +kernel
theorem dX8_expand_160 : decode cX8_expand 160 = .ok (.iadd, 1) := by decide +kernel
theorem dX8_expand_161 : decode cX8_expand 161 = .ok (.iadd, 1) := by decide +kernel
theorem dX8_expand_162 : decode cX8_expand 162 = .ok (.istore_n 2, 1) := by decide +kernel
theorem dX8_expand_163 : decode cX8_expand 163 = .ok (.goto 60, 3) := by decide +kernel
theorem dX8_expand_166 : decode cX8_expand 166 = .ok (.iload_n 1, 1) := by decide +kernel
theorem dX8_expand_167 : decode cX8_expand 167 = .ok (.ifCond .lt 48, 3) := by decide +kernel
theorem dX8_expand_170 : decode cX8_expand 170 = .ok (.iload_n 3, 1) := by decide +kernel
theorem dX8_expand_171 : decode cX8_expand 171 = .ok (.bipush 92, 2) := by decide +kernel
theorem dX8_expand_173 : decode cX8_expand 173 = .ok (.if_icmp .ne 42, 3) := by decide +kernel
theorem dX8_expand_176 : decode cX8_expand 176 = .ok (.iload_n 2, 1) := by decide +kernel
theorem dX8_expand_177 : decode cX8_expand 177 = .ok (.iconst 1, 1) := by decide +kernel
theorem dX8_expand_178 : decode cX8_expand 178 = .ok (.iadd, 1) := by decide +kernel
theorem dX8_expand_179 : decode cX8_expand 179 = .ok (.aload_n 0, 1) := by decide +kernel
theorem dX8_expand_180 : decode cX8_expand 180 = .ok (.getfield 196, 3) := by decide +kernel
theorem dX8_expand_183 : decode cX8_expand 183 = .ok (.if_icmp .ge 32, 3) := by decide +kernel
theorem dX8_expand_186 : decode cX8_expand 186 = .ok (.aload_n 0, 1) := by decide +kernel
theorem dX8_expand_187 : decode cX8_expand 187 = .ok (.getfield 14, 3) := by decide +kernel
theorem dX8_expand_190 : decode cX8_expand 190 = .ok (.iload_n 2, 1) := by decide +kernel
theorem dX8_expand_191 : decode cX8_expand 191 = .ok (.iconst 1, 1) := by decide +kernel
theorem dX8_expand_192 : decode cX8_expand 192 = .ok (.iadd, 1) := by decide +kernel
theorem dX8_expand_193 : decode cX8_expand 193 = .ok (.baload, 1) := by decide +kernel
theorem dX8_expand_194 : decode cX8_expand 194 = .ok (.bipush 64, 2) := by decide +kernel
theorem dX8_expand_196 : decode cX8_expand 196 = .ok (.if_icmp .ne 19, 3) := by decide +kernel
theorem dX8_expand_199 : decode cX8_expand 199 = .ok (.aload_n 0, 1) := by decide +kernel
theorem dX8_expand_200 : decode cX8_expand 200 = .ok (.aload_n 0, 1) := by decide +kernel
theorem dX8_expand_201 : decode cX8_expand 201 = .ok (.getfield 49, 3) := by decide +kernel
theorem dX8_expand_204 : decode cX8_expand 204 = .ok (.iload_n 1, 1) := by decide +kernel
theorem dX8_expand_205 : decode cX8_expand 205 = .ok (.iaload, 1) := by decide +kernel
theorem dX8_expand_206 : decode cX8_expand 206 = .ok (.invokevirtual 212, 3) := by decide +kernel
theorem dX8_expand_209 : decode cX8_expand 209 = .ok (.iinc 2 2, 3) := by decide +kernel
theorem dX8_expand_212 : decode cX8_expand 212 = .ok (.goto 11, 3) := by decide +kernel
theorem dX8_expand_215 : decode cX8_expand 215 = .ok (.aload_n 0, 1) := by decide +kernel
theorem dX8_expand_216 : decode cX8_expand 216 = .ok (.iload_n 3, 1) := by decide +kernel
theorem dX8_expand_217 : decode cX8_expand 217 = .ok (.invokevirtual 202, 3) := by decide +kernel
theorem dX8_expand_220 : decode cX8_expand 220 = .ok (.iinc 2 1, 3) := by decide +kernel
theorem dX8_expand_223 : decode cX8_expand 223 = .ok (.aload_n 0, 1) := by decide +kernel
theorem dX8_expand_224 : decode cX8_expand 224 = .ok (.getfield 199, 3) := by decide +kernel
theorem dX8_expand_227 : decode cX8_expand 227 = .ok (.sipush 1024, 3) := by decide +kernel
theorem dX8_expand_230 : decode cX8_expand 230 = .ok (.if_icmp .le 9, 3) := by decide +kernel
theorem dX8_expand_233 : decode cX8_expand 233 = .ok (.aload_n 0, 1) := by decide +kernel
theorem dX8_expand_234 : decode cX8_expand 234 = .ok (.iconst 5, 1) := by decide +kernel
theorem dX8_expand_235 : decode cX8_expand 235 = .ok (.invokevirtual 189, 3) := by decide +kernel
theorem dX8_expand_238 : decode cX8_expand 238 = .ok (.return_, 1) := by decide +kernel
theorem dX8_expand_239 : decode cX8_expand 239 = .ok (.goto (-203), 3) := by decide +kernel
theorem dX8_expand_242 : decode cX8_expand 242 = .ok (.return_, 1) := by decide +kernel
theorem dX8_token_0 : decode cX8_token 0 = .ok (.aload_n 0, 1) := by decide +kernel
theorem dX8_token_1 : decode cX8_token 1 = .ok (.getfield 90, 3) := by decide +kernel
theorem dX8_token_4 : decode cX8_token 4 = .ok (.aload_n 0, 1) := by decide +kernel
theorem dX8_token_5 : decode cX8_token 5 = .ok (.getfield 215, 3) := by decide +kernel
theorem dX8_token_8 : decode cX8_token 8 = .ok (.iload_n 1, 1) := by decide +kernel
theorem dX8_token_9 : decode cX8_token 9 = .ok (.iastore, 1) := by decide +kernel
theorem dX8_token_10 : decode cX8_token 10 = .ok (.aload_n 0, 1) := by decide +kernel
theorem dX8_token_11 : decode cX8_token 11 = .ok (.getfield 93, 3) := by decide +kernel
theorem dX8_token_14 : decode cX8_token 14 = .ok (.aload_n 0, 1) := by decide +kernel
theorem dX8_token_15 : decode cX8_token 15 = .ok (.getfield 215, 3) := by decide +kernel
theorem dX8_token_18 : decode cX8_token 18 = .ok (.iload_n 2, 1) := by decide +kernel
theorem dX8_token_19 : decode cX8_token 19 = .ok (.iastore, 1) := by decide +kernel
theorem dX8_token_20 : decode cX8_token 20 = .ok (.aload_n 0, 1) := by decide +kernel
theorem dX8_token_21 : decode cX8_token 21 = .ok (.getfield 96, 3) := by decide +kernel
theorem dX8_token_24 : decode cX8_token 24 = .ok (.aload_n 0, 1) := by decide +kernel
theorem dX8_token_25 : decode cX8_token 25 = .ok (.getfield 215, 3) := by decide +kernel
theorem dX8_token_28 : decode cX8_token 28 = .ok (.iload_n 3, 1) := by decide +kernel
theorem dX8_token_29 : decode cX8_token 29 = .ok (.iload_n 2, 1) := by decide +kernel
theorem dX8_token_30 : decode cX8_token 30 = .ok (.isub, 1) := by decide +kernel
theorem dX8_token_31 : decode cX8_token 31 = .ok (.iastore, 1) := by decide +kernel
theorem dX8_token_32 : decode cX8_token 32 = .ok (.aload_n 0, 1) := by decide +kernel
theorem dX8_token_33 : decode cX8_token 33 = .ok (.getfield 99, 3) := by decide +kernel
theorem dX8_token_36 : decode cX8_token 36 = .ok (.aload_n 0, 1) := by decide +kernel
theorem dX8_token_37 : decode cX8_token 37 = .ok (.getfield 215, 3) := by decide +kernel
theorem dX8_token_40 : decode cX8_token 40 = .ok (.lload 4, 2) := by decide +kernel
theorem dX8_token_42 : decode cX8_token 42 = .ok (.lastore, 1) := by decide +kernel
theorem dX8_token_43 : decode cX8_token 43 = .ok (.aload_n 0, 1) := by decide +kernel
theorem dX8_token_44 : decode cX8_token 44 = .ok (.dup, 1) := by decide +kernel
theorem dX8_token_45 : decode cX8_token 45 = .ok (.getfield 215, 3) := by decide +kernel
theorem dX8_token_48 : decode cX8_token 48 = .ok (.iconst 1, 1) := by decide +kernel
theorem dX8_token_49 : decode cX8_token 49 = .ok (.iadd, 1) := by decide +kernel
theorem dX8_token_50 : decode cX8_token 50 = .ok (.putfield 215, 3) := by decide +kernel
theorem dX8_token_53 : decode cX8_token 53 = .ok (.return_, 1) := by decide +kernel
theorem dX8_character_0 : decode cX8_character 0 = .ok (.iload_n 1, 1) := by decide +kernel
theorem dX8_character_1 : decode cX8_character 1 = .ok (.aload_n 0, 1) := by decide +kernel
theorem dX8_character_2 : decode cX8_character 2 = .ok (.getfield 199, 3) := by decide +kernel
theorem dX8_character_5 : decode cX8_character 5 = .ok (.if_icmp .ge 35, 3) := by decide +kernel
theorem dX8_character_8 : decode cX8_character 8 = .ok (.aload_n 0, 1) := by decide +kernel
theorem dX8_character_9 : decode cX8_character 9 = .ok (.getfield 21, 3) := by decide +kernel
theorem dX8_character_12 : decode cX8_character 12 = .ok (.iload_n 1, 1) := by decide +kernel
theorem dX8_character_13 : decode cX8_character 13 = .ok (.baload, 1) := by decide +kernel
theorem dX8_character_14 : decode cX8_character 14 = .ok (.iload_n 2, 1) := by decide +kernel
theorem dX8_character_15 : decode cX8_character 15 = .ok (.if_icmp .eq 25, 3) := by decide +kernel
theorem dX8_character_18 : decode cX8_character 18 = .ok (.aload_n 0, 1) := by decide +kernel
theorem dX8_character_19 : decode cX8_character 19 = .ok (.getfield 21, 3) := by decide +kernel
theorem dX8_character_22 : decode cX8_character 22 = .ok (.iload_n 1, 1) := by decide +kernel
theorem dX8_character_23 : decode cX8_character 23 = .ok (.baload, 1) := by decide +kernel
theorem dX8_character_24 : decode cX8_character 24 = .ok (.bipush 32, 2) := by decide +kernel
theorem dX8_character_26 : decode cX8_character 26 = .ok (.if_icmp .lt 14, 3) := by decide +kernel
theorem dX8_character_29 : decode cX8_character 29 = .ok (.aload_n 0, 1) := by decide +kernel
theorem dX8_character_30 : decode cX8_character 30 = .ok (.getfield 21, 3) := by decide +kernel
theorem dX8_character_33 : decode cX8_character 33 = .ok (.iload_n 1, 1) := by decide +kernel
theorem dX8_character_34 : decode cX8_character 34 = .ok (.baload, 1) := by decide +kernel
theorem dX8_character_35 : decode cX8_character 35 = .ok (.bipush 126, 2) := by decide +kernel
theorem dX8_character_37 : decode cX8_character 37 = .ok (.if_icmp .le 5, 3) := by decide +kernel
theorem dX8_character_40 : decode cX8_character 40 = .ok (.iconst (-1), 1) := by decide +kernel
theorem dX8_character_41 : decode cX8_character 41 = .ok (.ireturn, 1) := by decide +kernel
theorem dX8_character_42 : decode cX8_character 42 = .ok (.aload_n 0, 1) := by decide +kernel
theorem dX8_character_43 : decode cX8_character 43 = .ok (.aload_n 0, 1) := by decide +kernel
theorem dX8_character_44 : decode cX8_character 44 = .ok (.getfield 21, 3) := by decide +kernel
theorem dX8_character_47 : decode cX8_character 47 = .ok (.iload_n 1, 1) := by decide +kernel
theorem dX8_character_48 : decode cX8_character 48 = .ok (.baload, 1) := by decide +kernel
theorem dX8_character_49 : decode cX8_character 49 = .ok (.putfield 171, 3) := by decide +kernel
theorem dX8_character_52 : decode cX8_character 52 = .ok (.aload_n 0, 1) := by decide +kernel
theorem dX8_character_53 : decode cX8_character 53 = .ok (.getfield 21, 3) := by decide +kernel
theorem dX8_character_56 : decode cX8_character 56 = .ok (.iload_n 1, 1) := by decide +kernel
theorem dX8_character_57 : decode cX8_character 57 = .ok (.baload, 1) := by decide +kernel
theorem dX8_character_58 : decode cX8_character 58 = .ok (.bipush 92, 2) := by decide +kernel
theorem dX8_character_60 : decode cX8_character 60 = .ok (.if_icmp .eq 7, 3) := by decide +kernel
theorem dX8_character_63 : decode cX8_character 63 = .ok (.iload_n 1, 1) := by decide +kernel
theorem dX8_character_64 : decode cX8_character 64 = .ok (.iconst 1, 1) := by decide +kernel
theorem dX8_character_65 : decode cX8_character 65 = .ok (.iadd, 1) := by decide +kernel
theorem dX8_character_66 : decode cX8_character 66 = .ok (.ireturn, 1) := by decide +kernel
theorem dX8_character_67 : decode cX8_character 67 = .ok (.iload_n 1, 1) := by decide +kernel
theorem dX8_character_68 : decode cX8_character 68 = .ok (.iconst 1, 1) := by decide +kernel
theorem dX8_character_69 : decode cX8_character 69 = .ok (.iadd, 1) := by decide +kernel
theorem dX8_character_70 : decode cX8_character 70 = .ok (.aload_n 0, 1) := by decide +kernel
theorem dX8_character_71 : decode cX8_character 71 = .ok (.getfield 199, 3) := by decide +kernel
theorem dX8_character_74 : decode cX8_character 74 = .ok (.if_icmp .ge 29, 3) := by decide +kernel
theorem dX8_character_77 : decode cX8_character 77 = .ok (.aload_n 0, 1) := by decide +kernel
theorem dX8_character_78 : decode cX8_character 78 = .ok (.getfield 21, 3) := by decide +kernel
theorem dX8_character_81 : decode cX8_character 81 = .ok (.iload_n 1, 1) := by decide +kernel
theorem dX8_character_82 : decode cX8_character 82 = .ok (.iconst 1, 1) := by decide +kernel
theorem dX8_character_83 : decode cX8_character 83 = .ok (.iadd, 1) := by decide +kernel
theorem dX8_character_84 : decode cX8_character 84 = .ok (.baload, 1) := by decide +kernel
theorem dX8_character_85 : decode cX8_character 85 = .ok (.bipush 32, 2) := by decide +kernel
theorem dX8_character_87 : decode cX8_character 87 = .ok (.if_icmp .lt 16, 3) := by decide +kernel
theorem dX8_character_90 : decode cX8_character 90 = .ok (.aload_n 0, 1) := by decide +kernel
theorem dX8_character_91 : decode cX8_character 91 = .ok (.getfield 21, 3) := by decide +kernel
theorem dX8_character_94 : decode cX8_character 94 = .ok (.iload_n 1, 1) := by decide +kernel
theorem dX8_character_95 : decode cX8_character 95 = .ok (.iconst 1, 1) := by decide +kernel
theorem dX8_character_96 : decode cX8_character 96 = .ok (.iadd, 1) := by decide +kernel
theorem dX8_character_97 : decode cX8_character 97 = .ok (.baload, 1) := by decide +kernel
theorem dX8_character_98 : decode cX8_character 98 = .ok (.bipush 126, 2) := by decide +kernel
theorem dX8_character_100 : decode cX8_character 100 = .ok (.if_icmp .le 5, 3) := by decide +kernel
theorem dX8_character_103 : decode cX8_character 103 = .ok (.iconst (-1), 1) := by decide +kernel
theorem dX8_character_104 : decode cX8_character 104 = .ok (.ireturn, 1) := by decide +kernel
theorem dX8_character_105 : decode cX8_character 105 = .ok (.aload_n 0, 1) := by decide +kernel
theorem dX8_character_106 : decode cX8_character 106 = .ok (.getfield 21, 3) := by decide +kernel
theorem dX8_character_109 : decode cX8_character 109 = .ok (.iload_n 1, 1) := by decide +kernel
theorem dX8_character_110 : decode cX8_character 110 = .ok (.iconst 1, 1) := by decide +kernel
theorem dX8_character_111 : decode cX8_character 111 = .ok (.iadd, 1) := by decide +kernel
theorem dX8_character_112 : decode cX8_character 112 = .ok (.baload, 1) := by decide +kernel
theorem dX8_character_113 : decode cX8_character 113 = .ok (.istore_n 3, 1) := by decide +kernel
theorem dX8_character_114 : decode cX8_character 114 = .ok (.aload_n 0, 1) := by decide +kernel
theorem dX8_character_115 : decode cX8_character 115 = .ok (.iload_n 3, 1) := by decide +kernel
theorem dX8_character_116 : decode cX8_character 116 = .ok (.bipush 110, 2) := by decide +kernel
theorem dX8_character_118 : decode cX8_character 118 = .ok (.if_icmp .ne 8, 3) := by decide +kernel
theorem dX8_character_121 : decode cX8_character 121 = .ok (.bipush 10, 2) := by decide +kernel
theorem dX8_character_123 : decode cX8_character 123 = .ok (.goto 25, 3) := by decide +kernel
theorem dX8_character_126 : decode cX8_character 126 = .ok (.iload_n 3, 1) := by decide +kernel
theorem dX8_character_127 : decode cX8_character 127 = .ok (.bipush 116, 2) := by decide +kernel
theorem dX8_character_129 : decode cX8_character 129 = .ok (.if_icmp .ne 8, 3) := by decide +kernel
theorem dX8_character_132 : decode cX8_character 132 = .ok (.bipush 9, 2) := by decide +kernel
theorem dX8_character_134 : decode cX8_character 134 = .ok (.goto 14, 3) := by decide +kernel
theorem dX8_character_137 : decode cX8_character 137 = .ok (.iload_n 3, 1) := by decide +kernel
theorem dX8_character_138 : decode cX8_character 138 = .ok (.bipush 48, 2) := by decide +kernel
theorem dX8_character_140 : decode cX8_character 140 = .ok (.if_icmp .ne 7, 3) := by decide +kernel
theorem dX8_character_143 : decode cX8_character 143 = .ok (.iconst 0, 1) := by decide +kernel
theorem dX8_character_144 : decode cX8_character 144 = .ok (.goto 4, 3) := by decide +kernel
theorem dX8_character_147 : decode cX8_character 147 = .ok (.iload_n 3, 1) := by decide +kernel
theorem dX8_character_148 : decode cX8_character 148 = .ok (.putfield 171, 3) := by decide +kernel
theorem dX8_character_151 : decode cX8_character 151 = .ok (.iload_n 1, 1) := by decide +kernel
theorem dX8_character_152 : decode cX8_character 152 = .ok (.iconst 2, 1) := by decide +kernel
theorem dX8_character_153 : decode cX8_character 153 = .ok (.iadd, 1) := by decide +kernel
theorem dX8_character_154 : decode cX8_character 154 = .ok (.ireturn, 1) := by decide +kernel
theorem dX8_numberToken_0 : decode cX8_numberToken 0 = .ok (.lconst 0, 1) := by decide +kernel
theorem dX8_numberToken_1 : decode cX8_numberToken 1 = .ok (.lstore_n 2, 1) := by decide +kernel
theorem dX8_numberToken_2 : decode cX8_numberToken 2 = .ok (.iload_n 1, 1) := by decide +kernel
theorem dX8_numberToken_3 : decode cX8_numberToken 3 = .ok (.istore 4, 2) := by decide +kernel
theorem dX8_numberToken_5 : decode cX8_numberToken 5 = .ok (.aload_n 0, 1) := by decide +kernel
theorem dX8_numberToken_6 : decode cX8_numberToken 6 = .ok (.getfield 21, 3) := by decide +kernel
theorem dX8_numberToken_9 : decode cX8_numberToken 9 = .ok (.iload_n 1, 1) := by decide +kernel
theorem dX8_numberToken_10 : decode cX8_numberToken 10 = .ok (.baload, 1) := by decide +kernel
theorem dX8_numberToken_11 : decode cX8_numberToken 11 = .ok (.bipush 48, 2) := by decide +kernel
theorem dX8_numberToken_13 : decode cX8_numberToken 13 = .ok (.if_icmp .ne 31, 3) := by decide +kernel
theorem dX8_numberToken_16 : decode cX8_numberToken 16 = .ok (.iload_n 1, 1) := by decide +kernel
theorem dX8_numberToken_17 : decode cX8_numberToken 17 = .ok (.iconst 1, 1) := by decide +kernel
theorem dX8_numberToken_18 : decode cX8_numberToken 18 = .ok (.iadd, 1) := by decide +kernel
theorem dX8_numberToken_19 : decode cX8_numberToken 19 = .ok (.aload_n 0, 1) := by decide +kernel
theorem dX8_numberToken_20 : decode cX8_numberToken 20 = .ok (.getfield 199, 3) := by decide +kernel
theorem dX8_numberToken_23 : decode cX8_numberToken 23 = .ok (.if_icmp .ge 21, 3) := by decide +kernel
theorem dX8_numberToken_26 : decode cX8_numberToken 26 = .ok (.aload_n 0, 1) := by decide +kernel
theorem dX8_numberToken_27 : decode cX8_numberToken 27 = .ok (.getfield 21, 3) := by decide +kernel
theorem dX8_numberToken_30 : decode cX8_numberToken 30 = .ok (.iload_n 1, 1) := by decide +kernel
theorem dX8_numberToken_31 : decode cX8_numberToken 31 = .ok (.iconst 1, 1) := by decide +kernel
theorem dX8_numberToken_32 : decode cX8_numberToken 32 = .ok (.iadd, 1) := by decide +kernel
theorem dX8_numberToken_33 : decode cX8_numberToken 33 = .ok (.baload, 1) := by decide +kernel
theorem dX8_numberToken_34 : decode cX8_numberToken 34 = .ok (.bipush 120, 2) := by decide +kernel
theorem dX8_numberToken_36 : decode cX8_numberToken 36 = .ok (.if_icmp .ne 8, 3) := by decide +kernel
theorem dX8_numberToken_39 : decode cX8_numberToken 39 = .ok (.bipush 16, 2) := by decide +kernel
theorem dX8_numberToken_41 : decode cX8_numberToken 41 = .ok (.goto 43, 3) := by decide +kernel
theorem dX8_numberToken_44 : decode cX8_numberToken 44 = .ok (.aload_n 0, 1) := by decide +kernel
theorem dX8_numberToken_45 : decode cX8_numberToken 45 = .ok (.getfield 21, 3) := by decide +kernel
theorem dX8_numberToken_48 : decode cX8_numberToken 48 = .ok (.iload_n 1, 1) := by decide +kernel
theorem dX8_numberToken_49 : decode cX8_numberToken 49 = .ok (.baload, 1) := by decide +kernel
theorem dX8_numberToken_50 : decode cX8_numberToken 50 = .ok (.bipush 48, 2) := by decide +kernel
theorem dX8_numberToken_52 : decode cX8_numberToken 52 = .ok (.if_icmp .ne 30, 3) := by decide +kernel
theorem dX8_numberToken_55 : decode cX8_numberToken 55 = .ok (.iload_n 1, 1) := by decide +kernel
theorem dX8_numberToken_56 : decode cX8_numberToken 56 = .ok (.iconst 1, 1) := by decide +kernel
theorem dX8_numberToken_57 : decode cX8_numberToken 57 = .ok (.iadd, 1) := by decide +kernel
theorem dX8_numberToken_58 : decode cX8_numberToken 58 = .ok (.aload_n 0, 1) := by decide +kernel
theorem dX8_numberToken_59 : decode cX8_numberToken 59 = .ok (.getfield 199, 3) := by decide +kernel
theorem dX8_numberToken_62 : decode cX8_numberToken 62 = .ok (.if_icmp .ge 20, 3) := by decide +kernel
theorem dX8_numberToken_65 : decode cX8_numberToken 65 = .ok (.aload_n 0, 1) := by decide +kernel
theorem dX8_numberToken_66 : decode cX8_numberToken 66 = .ok (.getfield 21, 3) := by decide +kernel
theorem dX8_numberToken_69 : decode cX8_numberToken 69 = .ok (.iload_n 1, 1) := by decide +kernel
theorem dX8_numberToken_70 : decode cX8_numberToken 70 = .ok (.iconst 1, 1) := by decide +kernel
theorem dX8_numberToken_71 : decode cX8_numberToken 71 = .ok (.iadd, 1) := by decide +kernel
theorem dX8_numberToken_72 : decode cX8_numberToken 72 = .ok (.baload, 1) := by decide +kernel
theorem dX8_numberToken_73 : decode cX8_numberToken 73 = .ok (.bipush 98, 2) := by decide +kernel
theorem dX8_numberToken_75 : decode cX8_numberToken 75 = .ok (.if_icmp .ne 7, 3) := by decide +kernel
theorem dX8_numberToken_78 : decode cX8_numberToken 78 = .ok (.iconst 2, 1) := by decide +kernel
theorem dX8_numberToken_79 : decode cX8_numberToken 79 = .ok (.goto 5, 3) := by decide +kernel
theorem dX8_numberToken_82 : decode cX8_numberToken 82 = .ok (.bipush 10, 2) := by decide +kernel
theorem dX8_numberToken_84 : decode cX8_numberToken 84 = .ok (.istore 5, 2) := by decide +kernel
theorem dX8_numberToken_86 : decode cX8_numberToken 86 = .ok (.iload 5, 2) := by decide +kernel
theorem dX8_numberToken_88 : decode cX8_numberToken 88 = .ok (.bipush 10, 2) := by decide +kernel
theorem dX8_numberToken_90 : decode cX8_numberToken 90 = .ok (.if_icmp .ne 7, 3) := by decide +kernel
theorem dX8_numberToken_93 : decode cX8_numberToken 93 = .ok (.iload_n 1, 1) := by decide +kernel
theorem dX8_numberToken_94 : decode cX8_numberToken 94 = .ok (.goto 6, 3) := by decide +kernel
theorem dX8_numberToken_97 : decode cX8_numberToken 97 = .ok (.iload_n 1, 1) := by decide +kernel
theorem dX8_numberToken_98 : decode cX8_numberToken 98 = .ok (.iconst 2, 1) := by decide +kernel
theorem dX8_numberToken_99 : decode cX8_numberToken 99 = .ok (.iadd, 1) := by decide +kernel
theorem dX8_numberToken_100 : decode cX8_numberToken 100 = .ok (.istore 6, 2) := by decide +kernel
theorem dX8_numberToken_102 : decode cX8_numberToken 102 = .ok (.iload 6, 2) := by decide +kernel
theorem dX8_numberToken_104 : decode cX8_numberToken 104 = .ok (.istore 4, 2) := by decide +kernel
theorem dX8_numberToken_106 : decode cX8_numberToken 106 = .ok (.iload 4, 2) := by decide +kernel
theorem dX8_numberToken_108 : decode cX8_numberToken 108 = .ok (.aload_n 0, 1) := by decide +kernel
theorem dX8_numberToken_109 : decode cX8_numberToken 109 = .ok (.getfield 199, 3) := by decide +kernel
theorem dX8_numberToken_112 : decode cX8_numberToken 112 = .ok (.if_icmp .ge 132, 3) := by decide +kernel
theorem dX8_numberToken_115 : decode cX8_numberToken 115 = .ok (.aload_n 0, 1) := by decide +kernel
theorem dX8_numberToken_116 : decode cX8_numberToken 116 = .ok (.getfield 21, 3) := by decide +kernel
theorem dX8_numberToken_119 : decode cX8_numberToken 119 = .ok (.iload 4, 2) := by decide +kernel
theorem dX8_numberToken_121 : decode cX8_numberToken 121 = .ok (.baload, 1) := by decide +kernel
theorem dX8_numberToken_122 : decode cX8_numberToken 122 = .ok (.invokestatic 218, 3) := by decide +kernel
theorem dX8_numberToken_125 : decode cX8_numberToken 125 = .ok (.iload 5, 2) := by decide +kernel
theorem dX8_numberToken_127 : decode cX8_numberToken 127 = .ok (.if_icmp .ge 117, 3) := by decide +kernel
theorem dX8_numberToken_130 : decode cX8_numberToken 130 = .ok (.aload_n 0, 1) := by decide +kernel
theorem dX8_numberToken_131 : decode cX8_numberToken 131 = .ok (.getfield 21, 3) := by decide +kernel
theorem dX8_numberToken_134 : decode cX8_numberToken 134 = .ok (.iload 4, 2) := by decide +kernel
theorem dX8_numberToken_136 : decode cX8_numberToken 136 = .ok (.baload, 1) := by decide +kernel
theorem dX8_numberToken_137 : decode cX8_numberToken 137 = .ok (.invokestatic 218, 3) := by decide +kernel
theorem dX8_numberToken_140 : decode cX8_numberToken 140 = .ok (.istore 7, 2) := by decide +kernel
theorem dX8_numberToken_142 : decode cX8_numberToken 142 = .ok (.iload 5, 2) := by decide +kernel
theorem dX8_numberToken_144 : decode cX8_numberToken 144 = .ok (.bipush 10, 2) := by decide +kernel
theorem dX8_numberToken_146 : decode cX8_numberToken 146 = .ok (.if_icmp .ne 35, 3) := by decide +kernel
theorem dX8_numberToken_149 : decode cX8_numberToken 149 = .ok (.lload_n 2, 1) := by decide +kernel
theorem dX8_numberToken_150 : decode cX8_numberToken 150 = .ok (.ldc2_w 221, 3) := by decide +kernel
theorem dX8_numberToken_153 : decode cX8_numberToken 153 = .ok (.invokestatic 223, 3) := by decide +kernel
theorem dX8_numberToken_156 : decode cX8_numberToken 156 = .ok (.ifCond .gt 17, 3) := by decide +kernel
theorem dX8_numberToken_159 : decode cX8_numberToken 159 = .ok (.lload_n 2, 1) := by decide +kernel
theorem dX8_numberToken_160 : decode cX8_numberToken 160 = .ok (.ldc2_w 221, 3) := by decide +kernel
theorem dX8_numberToken_163 : decode cX8_numberToken 163 = .ok (.lcmp, 1) := by decide +kernel
theorem dX8_numberToken_164 : decode cX8_numberToken 164 = .ok (.ifCond .ne 13, 3) := by decide +kernel
theorem dX8_numberToken_167 : decode cX8_numberToken 167 = .ok (.iload 7, 2) := by decide +kernel
theorem dX8_numberToken_169 : decode cX8_numberToken 169 = .ok (.iconst 5, 1) := by decide +kernel
theorem dX8_numberToken_170 : decode cX8_numberToken 170 = .ok (.if_icmp .le 7, 3) := by decide +kernel
theorem dX8_numberToken_173 : decode cX8_numberToken 173 = .ok (.iconst 1, 1) := by decide +kernel
theorem dX8_numberToken_174 : decode cX8_numberToken 174 = .ok (.goto 45, 3) := by decide +kernel
theorem dX8_numberToken_177 : decode cX8_numberToken 177 = .ok (.iconst 0, 1) := by decide +kernel
theorem dX8_numberToken_178 : decode cX8_numberToken 178 = .ok (.goto 41, 3) := by decide +kernel
theorem dX8_numberToken_181 : decode cX8_numberToken 181 = .ok (.iload 5, 2) := by decide +kernel
theorem dX8_numberToken_183 : decode cX8_numberToken 183 = .ok (.bipush 16, 2) := by decide +kernel
theorem dX8_numberToken_185 : decode cX8_numberToken 185 = .ok (.if_icmp .ne 20, 3) := by decide +kernel
theorem dX8_numberToken_188 : decode cX8_numberToken 188 = .ok (.lload_n 2, 1) := by decide +kernel
theorem dX8_numberToken_189 : decode cX8_numberToken 189 = .ok (.bipush 60, 2) := by decide +kernel
theorem dX8_numberToken_191 : decode cX8_numberToken 191 = .ok (.lushr, 1) := by decide +kernel
theorem dX8_numberToken_192 : decode cX8_numberToken 192 = .ok (.lconst 0, 1) := by decide +kernel
theorem dX8_numberToken_193 : decode cX8_numberToken 193 = .ok (.lcmp, 1) := by decide +kernel
theorem dX8_numberToken_194 : decode cX8_numberToken 194 = .ok (.ifCond .eq 7, 3) := by decide +kernel
theorem dX8_numberToken_197 : decode cX8_numberToken 197 = .ok (.iconst 1, 1) := by decide +kernel
theorem dX8_numberToken_198 : decode cX8_numberToken 198 = .ok (.goto 21, 3) := by decide +kernel
theorem dX8_numberToken_201 : decode cX8_numberToken 201 = .ok (.iconst 0, 1) := by decide +kernel
theorem dX8_numberToken_202 : decode cX8_numberToken 202 = .ok (.goto 17, 3) := by decide +kernel
theorem dX8_numberToken_205 : decode cX8_numberToken 205 = .ok (.lload_n 2, 1) := by decide +kernel
theorem dX8_numberToken_206 : decode cX8_numberToken 206 = .ok (.bipush 63, 2) := by decide +kernel
theorem dX8_numberToken_208 : decode cX8_numberToken 208 = .ok (.lushr, 1) := by decide +kernel
theorem dX8_numberToken_209 : decode cX8_numberToken 209 = .ok (.lconst 0, 1) := by decide +kernel
theorem dX8_numberToken_210 : decode cX8_numberToken 210 = .ok (.lcmp, 1) := by decide +kernel
theorem dX8_numberToken_211 : decode cX8_numberToken 211 = .ok (.ifCond .eq 7, 3) := by decide +kernel
theorem dX8_numberToken_214 : decode cX8_numberToken 214 = .ok (.iconst 1, 1) := by decide +kernel
theorem dX8_numberToken_215 : decode cX8_numberToken 215 = .ok (.goto 4, 3) := by decide +kernel
theorem dX8_numberToken_218 : decode cX8_numberToken 218 = .ok (.iconst 0, 1) := by decide +kernel
theorem dX8_numberToken_219 : decode cX8_numberToken 219 = .ok (.istore 8, 2) := by decide +kernel
theorem dX8_numberToken_221 : decode cX8_numberToken 221 = .ok (.iload 8, 2) := by decide +kernel
theorem dX8_numberToken_223 : decode cX8_numberToken 223 = .ok (.ifCond .eq 5, 3) := by decide +kernel
theorem dX8_numberToken_226 : decode cX8_numberToken 226 = .ok (.iconst (-1), 1) := by decide +kernel
theorem dX8_numberToken_227 : decode cX8_numberToken 227 = .ok (.ireturn, 1) := by decide +kernel
theorem dX8_numberToken_228 : decode cX8_numberToken 228 = .ok (.lload_n 2, 1) := by decide +kernel
theorem dX8_numberToken_229 : decode cX8_numberToken 229 = .ok (.iload 5, 2) := by decide +kernel
theorem dX8_numberToken_231 : decode cX8_numberToken 231 = .ok (.i2l, 1) := by decide +kernel
theorem dX8_numberToken_232 : decode cX8_numberToken 232 = .ok (.lmul, 1) := by decide +kernel
theorem dX8_numberToken_233 : decode cX8_numberToken 233 = .ok (.iload 7, 2) := by decide +kernel
theorem dX8_numberToken_235 : decode cX8_numberToken 235 = .ok (.i2l, 1) := by decide +kernel
theorem dX8_numberToken_236 : decode cX8_numberToken 236 = .ok (.ladd, 1) := by decide +kernel
theorem dX8_numberToken_237 : decode cX8_numberToken 237 = .ok (.lstore_n 2, 1) := by decide +kernel
theorem dX8_numberToken_238 : decode cX8_numberToken 238 = .ok (.iinc 4 1, 3) := by decide +kernel
theorem dX8_numberToken_241 : decode cX8_numberToken 241 = .ok (.goto (-135), 3) := by decide +kernel
theorem dX8_numberToken_244 : decode cX8_numberToken 244 = .ok (.iload 4, 2) := by decide +kernel
theorem dX8_numberToken_246 : decode cX8_numberToken 246 = .ok (.iload 6, 2) := by decide +kernel
theorem dX8_numberToken_248 : decode cX8_numberToken 248 = .ok (.if_icmp .eq 25, 3) := by decide +kernel
theorem dX8_numberToken_251 : decode cX8_numberToken 251 = .ok (.iload 4, 2) := by decide +kernel
theorem dX8_numberToken_253 : decode cX8_numberToken 253 = .ok (.aload_n 0, 1) := by decide +kernel
theorem dX8_numberToken_254 : decode cX8_numberToken 254 = .ok (.getfield 199, 3) := by decide +kernel
theorem dX8_numberToken_257 : decode cX8_numberToken 257 = .ok (.if_icmp .ge 18, 3) := by decide +kernel
theorem dX8_numberToken_260 : decode cX8_numberToken 260 = .ok (.aload_n 0, 1) := by decide +kernel
theorem dX8_numberToken_261 : decode cX8_numberToken 261 = .ok (.getfield 21, 3) := by decide +kernel
theorem dX8_numberToken_264 : decode cX8_numberToken 264 = .ok (.iload 4, 2) := by decide +kernel
theorem dX8_numberToken_266 : decode cX8_numberToken 266 = .ok (.baload, 1) := by decide +kernel
theorem dX8_numberToken_267 : decode cX8_numberToken 267 = .ok (.invokestatic 117, 3) := by decide +kernel
theorem dX8_numberToken_270 : decode cX8_numberToken 270 = .ok (.ifCond .eq 5, 3) := by decide +kernel
theorem dX8_numberToken_273 : decode cX8_numberToken 273 = .ok (.iconst (-1), 1) := by decide +kernel
theorem dX8_numberToken_274 : decode cX8_numberToken 274 = .ok (.ireturn, 1) := by decide +kernel
theorem dX8_numberToken_275 : decode cX8_numberToken 275 = .ok (.aload_n 0, 1) := by decide +kernel
theorem dX8_numberToken_276 : decode cX8_numberToken 276 = .ok (.iconst 2, 1) := by decide +kernel
theorem dX8_numberToken_277 : decode cX8_numberToken 277 = .ok (.iload_n 1, 1) := by decide +kernel
theorem dX8_numberToken_278 : decode cX8_numberToken 278 = .ok (.iload 4, 2) := by decide +kernel
theorem dX8_numberToken_280 : decode cX8_numberToken 280 = .ok (.lload_n 2, 1) := by decide +kernel
theorem dX8_numberToken_281 : decode cX8_numberToken 281 = .ok (.invokevirtual 229, 3) := by decide +kernel
theorem dX8_numberToken_284 : decode cX8_numberToken 284 = .ok (.iload 4, 2) := by decide +kernel
theorem dX8_numberToken_286 : decode cX8_numberToken 286 = .ok (.ireturn, 1) := by decide +kernel
theorem dX8_readToken_0 : decode cX8_readToken 0 = .ok (.aload_n 0, 1) := by decide +kernel
theorem dX8_readToken_1 : decode cX8_readToken 1 = .ok (.getfield 21, 3) := by decide +kernel
theorem dX8_readToken_4 : decode cX8_readToken 4 = .ok (.iload_n 1, 1) := by decide +kernel
theorem dX8_readToken_5 : decode cX8_readToken 5 = .ok (.baload, 1) := by decide +kernel
theorem dX8_readToken_6 : decode cX8_readToken 6 = .ok (.istore_n 2, 1) := by decide +kernel
theorem dX8_readToken_7 : decode cX8_readToken 7 = .ok (.iload_n 2, 1) := by decide +kernel
theorem dX8_readToken_8 : decode cX8_readToken 8 = .ok (.invokestatic 114, 3) := by decide +kernel
theorem dX8_readToken_11 : decode cX8_readToken 11 = .ok (.ifCond .eq 9, 3) := by decide +kernel
theorem dX8_readToken_14 : decode cX8_readToken 14 = .ok (.aload_n 0, 1) := by decide +kernel
theorem dX8_readToken_15 : decode cX8_readToken 15 = .ok (.iload_n 1, 1) := by decide +kernel
theorem dX8_readToken_16 : decode cX8_readToken 16 = .ok (.invokevirtual 232, 3) := by decide +kernel
theorem dX8_readToken_19 : decode cX8_readToken 19 = .ok (.ireturn, 1) := by decide +kernel
theorem dX8_readToken_20 : decode cX8_readToken 20 = .ok (.iload_n 2, 1) := by decide +kernel
theorem dX8_readToken_21 : decode cX8_readToken 21 = .ok (.invokestatic 110, 3) := by decide +kernel
theorem dX8_readToken_24 : decode cX8_readToken 24 = .ok (.ifCond .eq 61, 3) := by decide +kernel
theorem dX8_readToken_27 : decode cX8_readToken 27 = .ok (.iload_n 1, 1) := by decide +kernel
theorem dX8_readToken_28 : decode cX8_readToken 28 = .ok (.istore_n 3, 1) := by decide +kernel
theorem dX8_readToken_29 : decode cX8_readToken 29 = .ok (.iload_n 3, 1) := by decide +kernel
theorem dX8_readToken_30 : decode cX8_readToken 30 = .ok (.aload_n 0, 1) := by decide +kernel
theorem dX8_readToken_31 : decode cX8_readToken 31 = .ok (.getfield 199, 3) := by decide +kernel
theorem dX8_readToken_34 : decode cX8_readToken 34 = .ok (.if_icmp .ge 21, 3) := by decide +kernel
theorem dX8_readToken_37 : decode cX8_readToken 37 = .ok (.aload_n 0, 1) := by decide +kernel
theorem dX8_readToken_38 : decode cX8_readToken 38 = .ok (.getfield 21, 3) := by decide +kernel
theorem dX8_readToken_41 : decode cX8_readToken 41 = .ok (.iload_n 3, 1) := by decide +kernel
theorem dX8_readToken_42 : decode cX8_readToken 42 = .ok (.baload, 1) := by decide +kernel
theorem dX8_readToken_43 : decode cX8_readToken 43 = .ok (.invokestatic 117, 3) := by decide +kernel
theorem dX8_readToken_46 : decode cX8_readToken 46 = .ok (.ifCond .eq 9, 3) := by decide +kernel
theorem dX8_readToken_49 : decode cX8_readToken 49 = .ok (.iinc 3 1, 3) := by decide +kernel
theorem dX8_readToken_52 : decode cX8_readToken 52 = .ok (.goto (-23), 3) := by decide +kernel
theorem dX8_readToken_55 : decode cX8_readToken 55 = .ok (.aload_n 0, 1) := by decide +kernel
theorem dX8_readToken_56 : decode cX8_readToken 56 = .ok (.iconst 1, 1) := by decide +kernel
theorem dX8_readToken_57 : decode cX8_readToken 57 = .ok (.iload_n 1, 1) := by decide +kernel
theorem dX8_readToken_58 : decode cX8_readToken 58 = .ok (.iload_n 3, 1) := by decide +kernel
theorem dX8_readToken_59 : decode cX8_readToken 59 = .ok (.aload_n 0, 1) := by decide +kernel
theorem dX8_readToken_60 : decode cX8_readToken 60 = .ok (.getfield 21, 3) := by decide +kernel
theorem dX8_readToken_63 : decode cX8_readToken 63 = .ok (.iload_n 1, 1) := by decide +kernel
theorem dX8_readToken_64 : decode cX8_readToken 64 = .ok (.iload_n 3, 1) := by decide +kernel
theorem dX8_readToken_65 : decode cX8_readToken 65 = .ok (.invokestatic 152, 3) := by decide +kernel
theorem dX8_readToken_68 : decode cX8_readToken 68 = .ok (.invokevirtual 229, 3) := by decide +kernel
theorem dX8_readToken_71 : decode cX8_readToken 71 = .ok (.iload_n 3, 1) := by decide +kernel
theorem dX8_readToken_72 : decode cX8_readToken 72 = .ok (.iload_n 1, 1) := by decide +kernel
theorem dX8_readToken_73 : decode cX8_readToken 73 = .ok (.isub, 1) := by decide +kernel
theorem dX8_readToken_74 : decode cX8_readToken 74 = .ok (.bipush 63, 2) := by decide +kernel
theorem dX8_readToken_76 : decode cX8_readToken 76 = .ok (.if_icmp .le 7, 3) := by decide +kernel
theorem dX8_readToken_79 : decode cX8_readToken 79 = .ok (.iconst (-1), 1) := by decide +kernel
theorem dX8_readToken_80 : decode cX8_readToken 80 = .ok (.goto 4, 3) := by decide +kernel
theorem dX8_readToken_83 : decode cX8_readToken 83 = .ok (.iload_n 3, 1) := by decide +kernel
theorem dX8_readToken_84 : decode cX8_readToken 84 = .ok (.ireturn, 1) := by decide +kernel
theorem dX8_readToken_85 : decode cX8_readToken 85 = .ok (.iload_n 2, 1) := by decide +kernel
theorem dX8_readToken_86 : decode cX8_readToken 86 = .ok (.bipush 39, 2) := by decide +kernel
theorem dX8_readToken_88 : decode cX8_readToken 88 = .ok (.if_icmp .ne 80, 3) := by decide +kernel
theorem dX8_readToken_91 : decode cX8_readToken 91 = .ok (.aload_n 0, 1) := by decide +kernel
theorem dX8_readToken_92 : decode cX8_readToken 92 = .ok (.iload_n 1, 1) := by decide +kernel
theorem dX8_readToken_93 : decode cX8_readToken 93 = .ok (.iconst 1, 1) := by decide +kernel
theorem dX8_readToken_94 : decode cX8_readToken 94 = .ok (.iadd, 1) := by decide +kernel
theorem dX8_readToken_95 : decode cX8_readToken 95 = .ok (.bipush 39, 2) := by decide +kernel
theorem dX8_readToken_97 : decode cX8_readToken 97 = .ok (.invokevirtual 235, 3) := by decide +kernel
theorem dX8_readToken_100 : decode cX8_readToken 100 = .ok (.istore_n 3, 1) := by decide +kernel
theorem dX8_readToken_101 : decode cX8_readToken 101 = .ok (.iload_n 3, 1) := by decide +kernel
theorem dX8_readToken_102 : decode cX8_readToken 102 = .ok (.ifCond .lt 46, 3) := by decide +kernel
theorem dX8_readToken_105 : decode cX8_readToken 105 = .ok (.iload_n 3, 1) := by decide +kernel
theorem dX8_readToken_106 : decode cX8_readToken 106 = .ok (.aload_n 0, 1) := by decide +kernel
theorem dX8_readToken_107 : decode cX8_readToken 107 = .ok (.getfield 199, 3) := by decide +kernel
theorem dX8_readToken_110 : decode cX8_readToken 110 = .ok (.if_icmp .ge 38, 3) := by decide +kernel
theorem dX8_readToken_113 : decode cX8_readToken 113 = .ok (.aload_n 0, 1) := by decide +kernel
theorem dX8_readToken_114 : decode cX8_readToken 114 = .ok (.getfield 21, 3) := by decide +kernel
theorem dX8_readToken_117 : decode cX8_readToken 117 = .ok (.iload_n 3, 1) := by decide +kernel
theorem dX8_readToken_118 : decode cX8_readToken 118 = .ok (.baload, 1) := by decide +kernel
theorem dX8_readToken_119 : decode cX8_readToken 119 = .ok (.bipush 39, 2) := by decide +kernel
theorem dX8_readToken_121 : decode cX8_readToken 121 = .ok (.if_icmp .ne 27, 3) := by decide +kernel
theorem dX8_readToken_124 : decode cX8_readToken 124 = .ok (.iload_n 3, 1) := by decide +kernel
theorem dX8_readToken_125 : decode cX8_readToken 125 = .ok (.iconst 1, 1) := by decide +kernel
theorem dX8_readToken_126 : decode cX8_readToken 126 = .ok (.iadd, 1) := by decide +kernel
theorem dX8_readToken_127 : decode cX8_readToken 127 = .ok (.aload_n 0, 1) := by decide +kernel
theorem dX8_readToken_128 : decode cX8_readToken 128 = .ok (.getfield 199, 3) := by decide +kernel
theorem dX8_readToken_131 : decode cX8_readToken 131 = .ok (.if_icmp .ge 19, 3) := by decide +kernel
theorem dX8_readToken_134 : decode cX8_readToken 134 = .ok (.aload_n 0, 1) := by decide +kernel
theorem dX8_readToken_135 : decode cX8_readToken 135 = .ok (.getfield 21, 3) := by decide +kernel
theorem dX8_readToken_138 : decode cX8_readToken 138 = .ok (.iload_n 3, 1) := by decide +kernel
theorem dX8_readToken_139 : decode cX8_readToken 139 = .ok (.iconst 1, 1) := by decide +kernel
theorem dX8_readToken_140 : decode cX8_readToken 140 = .ok (.iadd, 1) := by decide +kernel
theorem dX8_readToken_141 : decode cX8_readToken 141 = .ok (.baload, 1) := by decide +kernel
theorem dX8_readToken_142 : decode cX8_readToken 142 = .ok (.invokestatic 117, 3) := by decide +kernel
theorem dX8_readToken_145 : decode cX8_readToken 145 = .ok (.ifCond .eq 5, 3) := by decide +kernel
theorem dX8_readToken_148 : decode cX8_readToken 148 = .ok (.iconst (-1), 1) := by decide +kernel
theorem dX8_readToken_149 : decode cX8_readToken 149 = .ok (.ireturn, 1) := by decide +kernel
theorem dX8_readToken_150 : decode cX8_readToken 150 = .ok (.aload_n 0, 1) := by decide +kernel
theorem dX8_readToken_151 : decode cX8_readToken 151 = .ok (.iconst 2, 1) := by decide +kernel
theorem dX8_readToken_152 : decode cX8_readToken 152 = .ok (.iload_n 1, 1) := by decide +kernel
theorem dX8_readToken_153 : decode cX8_readToken 153 = .ok (.iload_n 3, 1) := by decide +kernel
theorem dX8_readToken_154 : decode cX8_readToken 154 = .ok (.iconst 1, 1) := by decide +kernel
theorem dX8_readToken_155 : decode cX8_readToken 155 = .ok (.iadd, 1) := by decide +kernel
theorem dX8_readToken_156 : decode cX8_readToken 156 = .ok (.aload_n 0, 1) := by decide +kernel
theorem dX8_readToken_157 : decode cX8_readToken 157 = .ok (.getfield 171, 3) := by decide +kernel
theorem dX8_readToken_160 : decode cX8_readToken 160 = .ok (.i2l, 1) := by decide +kernel
theorem dX8_readToken_161 : decode cX8_readToken 161 = .ok (.invokevirtual 229, 3) := by decide +kernel
theorem dX8_readToken_164 : decode cX8_readToken 164 = .ok (.iload_n 3, 1) := by decide +kernel
theorem dX8_readToken_165 : decode cX8_readToken 165 = .ok (.iconst 1, 1) := by decide +kernel
theorem dX8_readToken_166 : decode cX8_readToken 166 = .ok (.iadd, 1) := by decide +kernel
theorem dX8_readToken_167 : decode cX8_readToken 167 = .ok (.ireturn, 1) := by decide +kernel
theorem dX8_readToken_168 : decode cX8_readToken 168 = .ok (.iload_n 2, 1) := by decide +kernel
theorem dX8_readToken_169 : decode cX8_readToken 169 = .ok (.bipush 34, 2) := by decide +kernel
theorem dX8_readToken_171 : decode cX8_readToken 171 = .ok (.if_icmp .ne 69, 3) := by decide +kernel
theorem dX8_readToken_174 : decode cX8_readToken 174 = .ok (.iload_n 1, 1) := by decide +kernel
theorem dX8_readToken_175 : decode cX8_readToken 175 = .ok (.iconst 1, 1) := by decide +kernel
theorem dX8_readToken_176 : decode cX8_readToken 176 = .ok (.iadd, 1) := by decide +kernel
theorem dX8_readToken_177 : decode cX8_readToken 177 = .ok (.istore_n 3, 1) := by decide +kernel
theorem dX8_readToken_178 : decode cX8_readToken 178 = .ok (.iload_n 3, 1) := by decide +kernel
theorem dX8_readToken_179 : decode cX8_readToken 179 = .ok (.ifCond .lt 33, 3) := by decide +kernel
theorem dX8_readToken_182 : decode cX8_readToken 182 = .ok (.iload_n 3, 1) := by decide +kernel
theorem dX8_readToken_183 : decode cX8_readToken 183 = .ok (.aload_n 0, 1) := by decide +kernel
theorem dX8_readToken_184 : decode cX8_readToken 184 = .ok (.getfield 199, 3) := by decide +kernel
theorem dX8_readToken_187 : decode cX8_readToken 187 = .ok (.if_icmp .ge 25, 3) := by decide +kernel
theorem dX8_readToken_190 : decode cX8_readToken 190 = .ok (.aload_n 0, 1) := by decide +kernel
theorem dX8_readToken_191 : decode cX8_readToken 191 = .ok (.getfield 21, 3) := by decide +kernel
theorem dX8_readToken_194 : decode cX8_readToken 194 = .ok (.iload_n 3, 1) := by decide +kernel
theorem dX8_readToken_195 : decode cX8_readToken 195 = .ok (.baload, 1) := by decide +kernel
theorem dX8_readToken_196 : decode cX8_readToken 196 = .ok (.bipush 34, 2) := by decide +kernel
theorem dX8_readToken_198 : decode cX8_readToken 198 = .ok (.if_icmp .eq 14, 3) := by decide +kernel
theorem dX8_readToken_201 : decode cX8_readToken 201 = .ok (.aload_n 0, 1) := by decide +kernel
theorem dX8_readToken_202 : decode cX8_readToken 202 = .ok (.iload_n 3, 1) := by decide +kernel
theorem dX8_readToken_203 : decode cX8_readToken 203 = .ok (.bipush 34, 2) := by decide +kernel
theorem dX8_readToken_205 : decode cX8_readToken 205 = .ok (.invokevirtual 235, 3) := by decide +kernel
theorem dX8_readToken_208 : decode cX8_readToken 208 = .ok (.istore_n 3, 1) := by decide +kernel
theorem dX8_readToken_209 : decode cX8_readToken 209 = .ok (.goto (-31), 3) := by decide +kernel
theorem dX8_readToken_212 : decode cX8_readToken 212 = .ok (.iload_n 3, 1) := by decide +kernel
theorem dX8_readToken_213 : decode cX8_readToken 213 = .ok (.ifCond .lt 11, 3) := by decide +kernel
theorem dX8_readToken_216 : decode cX8_readToken 216 = .ok (.iload_n 3, 1) := by decide +kernel
theorem dX8_readToken_217 : decode cX8_readToken 217 = .ok (.aload_n 0, 1) := by decide +kernel
theorem dX8_readToken_218 : decode cX8_readToken 218 = .ok (.getfield 199, 3) := by decide +kernel
theorem dX8_readToken_221 : decode cX8_readToken 221 = .ok (.if_icmp .lt 5, 3) := by decide +kernel
theorem dX8_readToken_224 : decode cX8_readToken 224 = .ok (.iconst (-1), 1) := by decide +kernel
theorem dX8_readToken_225 : decode cX8_readToken 225 = .ok (.ireturn, 1) := by decide +kernel
theorem dX8_readToken_226 : decode cX8_readToken 226 = .ok (.aload_n 0, 1) := by decide +kernel
theorem dX8_readToken_227 : decode cX8_readToken 227 = .ok (.iconst 3, 1) := by decide +kernel
theorem dX8_readToken_228 : decode cX8_readToken 228 = .ok (.iload_n 1, 1) := by decide +kernel
theorem dX8_readToken_229 : decode cX8_readToken 229 = .ok (.iload_n 3, 1) := by decide +kernel
theorem dX8_readToken_230 : decode cX8_readToken 230 = .ok (.iconst 1, 1) := by decide +kernel
theorem dX8_readToken_231 : decode cX8_readToken 231 = .ok (.iadd, 1) := by decide +kernel
theorem dX8_readToken_232 : decode cX8_readToken 232 = .ok (.lconst 0, 1) := by decide +kernel
theorem dX8_readToken_233 : decode cX8_readToken 233 = .ok (.invokevirtual 229, 3) := by decide +kernel
theorem dX8_readToken_236 : decode cX8_readToken 236 = .ok (.iload_n 3, 1) := by decide +kernel
theorem dX8_readToken_237 : decode cX8_readToken 237 = .ok (.iconst 1, 1) := by decide +kernel
theorem dX8_readToken_238 : decode cX8_readToken 238 = .ok (.iadd, 1) := by decide +kernel
theorem dX8_readToken_239 : decode cX8_readToken 239 = .ok (.ireturn, 1) := by decide +kernel
theorem dX8_readToken_240 : decode cX8_readToken 240 = .ok (.iload_n 2, 1) := by decide +kernel
theorem dX8_readToken_241 : decode cX8_readToken 241 = .ok (.bipush 60, 2) := by decide +kernel
theorem dX8_readToken_243 : decode cX8_readToken 243 = .ok (.if_icmp .eq 9, 3) := by decide +kernel
theorem dX8_readToken_246 : decode cX8_readToken 246 = .ok (.iload_n 2, 1) := by decide +kernel
theorem dX8_readToken_247 : decode cX8_readToken 247 = .ok (.bipush 62, 2) := by decide +kernel
theorem dX8_readToken_249 : decode cX8_readToken 249 = .ok (.if_icmp .ne 29, 3) := by decide +kernel
theorem dX8_readToken_252 : decode cX8_readToken 252 = .ok (.iload_n 1, 1) := by decide +kernel
theorem dX8_readToken_253 : decode cX8_readToken 253 = .ok (.iconst 1, 1) := by decide +kernel
theorem dX8_readToken_254 : decode cX8_readToken 254 = .ok (.iadd, 1) := by decide +kernel
theorem dX8_readToken_255 : decode cX8_readToken 255 = .ok (.aload_n 0, 1) := by decide +kernel
theorem dX8_readToken_256 : decode cX8_readToken 256 = .ok (.getfield 199, 3) := by decide +kernel
theorem dX8_readToken_259 : decode cX8_readToken 259 = .ok (.if_icmp .ge 19, 3) := by decide +kernel
theorem dX8_readToken_262 : decode cX8_readToken 262 = .ok (.aload_n 0, 1) := by decide +kernel
theorem dX8_readToken_263 : decode cX8_readToken 263 = .ok (.getfield 21, 3) := by decide +kernel
theorem dX8_readToken_266 : decode cX8_readToken 266 = .ok (.iload_n 1, 1) := by decide +kernel
theorem dX8_readToken_267 : decode cX8_readToken 267 = .ok (.iconst 1, 1) := by decide +kernel
theorem dX8_readToken_268 : decode cX8_readToken 268 = .ok (.iadd, 1) := by decide +kernel
theorem dX8_readToken_269 : decode cX8_readToken 269 = .ok (.baload, 1) := by decide +kernel
theorem dX8_readToken_270 : decode cX8_readToken 270 = .ok (.iload_n 2, 1) := by decide +kernel
theorem dX8_readToken_271 : decode cX8_readToken 271 = .ok (.if_icmp .ne 7, 3) := by decide +kernel
theorem dX8_readToken_274 : decode cX8_readToken 274 = .ok (.iconst 1, 1) := by decide +kernel
theorem dX8_readToken_275 : decode cX8_readToken 275 = .ok (.goto 4, 3) := by decide +kernel
theorem dX8_readToken_278 : decode cX8_readToken 278 = .ok (.iconst 0, 1) := by decide +kernel
theorem dX8_readToken_279 : decode cX8_readToken 279 = .ok (.istore_n 3, 1) := by decide +kernel
theorem dX8_readToken_280 : decode cX8_readToken 280 = .ok (.iload_n 2, 1) := by decide +kernel
theorem dX8_readToken_281 : decode cX8_readToken 281 = .ok (.bipush 44, 2) := by decide +kernel
theorem dX8_readToken_283 : decode cX8_readToken 283 = .ok (.if_icmp .eq 93, 3) := by decide +kernel
theorem dX8_readToken_286 : decode cX8_readToken 286 = .ok (.iload_n 2, 1) := by decide +kernel
theorem dX8_readToken_287 : decode cX8_readToken 287 = .ok (.bipush 58, 2) := by decide +kernel
theorem dX8_readToken_289 : decode cX8_readToken 289 = .ok (.if_icmp .eq 87, 3) := by decide +kernel
theorem dX8_readToken_292 : decode cX8_readToken 292 = .ok (.iload_n 2, 1) := by decide +kernel
theorem dX8_readToken_293 : decode cX8_readToken 293 = .ok (.bipush 91, 2) := by decide +kernel
theorem dX8_readToken_295 : decode cX8_readToken 295 = .ok (.if_icmp .eq 81, 3) := by decide +kernel
theorem dX8_readToken_298 : decode cX8_readToken 298 = .ok (.iload_n 2, 1) := by decide +kernel
theorem dX8_readToken_299 : decode cX8_readToken 299 = .ok (.bipush 93, 2) := by decide +kernel
theorem dX8_readToken_301 : decode cX8_readToken 301 = .ok (.if_icmp .eq 75, 3) := by decide +kernel
theorem dX8_readToken_304 : decode cX8_readToken 304 = .ok (.iload_n 2, 1) := by decide +kernel
theorem dX8_readToken_305 : decode cX8_readToken 305 = .ok (.bipush 40, 2) := by decide +kernel
theorem dX8_readToken_307 : decode cX8_readToken 307 = .ok (.if_icmp .eq 69, 3) := by decide +kernel
theorem dX8_readToken_310 : decode cX8_readToken 310 = .ok (.iload_n 2, 1) := by decide +kernel
theorem dX8_readToken_311 : decode cX8_readToken 311 = .ok (.bipush 41, 2) := by decide +kernel
end
section
theorem dX8_readToken_313 : decode cX8_readToken 313 = .ok (.if_icmp .eq 63, 3) := by decide +kernel
theorem dX8_readToken_316 : decode cX8_readToken 316 = .ok (.iload_n 2, 1) := by decide +kernel
theorem dX8_readToken_317 : decode cX8_readToken 317 = .ok (.bipush 43, 2) := by decide +kernel
theorem dX8_readToken_319 : decode cX8_readToken 319 = .ok (.if_icmp .eq 57, 3) := by decide +kernel
theorem dX8_readToken_322 : decode cX8_readToken 322 = .ok (.iload_n 2, 1) := by decide +kernel
theorem dX8_readToken_323 : decode cX8_readToken 323 = .ok (.bipush 45, 2) := by decide +kernel
theorem dX8_readToken_325 : decode cX8_readToken 325 = .ok (.if_icmp .eq 51, 3) := by decide +kernel
theorem dX8_readToken_328 : decode cX8_readToken 328 = .ok (.iload_n 2, 1) := by decide +kernel
theorem dX8_readToken_329 : decode cX8_readToken 329 = .ok (.bipush 42, 2) := by decide +kernel
theorem dX8_readToken_331 : decode cX8_readToken 331 = .ok (.if_icmp .eq 45, 3) := by decide +kernel
theorem dX8_readToken_334 : decode cX8_readToken 334 = .ok (.iload_n 2, 1) := by decide +kernel
theorem dX8_readToken_335 : decode cX8_readToken 335 = .ok (.bipush 47, 2) := by decide +kernel
theorem dX8_readToken_337 : decode cX8_readToken 337 = .ok (.if_icmp .eq 39, 3) := by decide +kernel
theorem dX8_readToken_340 : decode cX8_readToken 340 = .ok (.iload_n 2, 1) := by decide +kernel
theorem dX8_readToken_341 : decode cX8_readToken 341 = .ok (.bipush 37, 2) := by decide +kernel
theorem dX8_readToken_343 : decode cX8_readToken 343 = .ok (.if_icmp .eq 33, 3) := by decide +kernel
theorem dX8_readToken_346 : decode cX8_readToken 346 = .ok (.iload_n 2, 1) := by decide +kernel
theorem dX8_readToken_347 : decode cX8_readToken 347 = .ok (.bipush 38, 2) := by decide +kernel
theorem dX8_readToken_349 : decode cX8_readToken 349 = .ok (.if_icmp .eq 27, 3) := by decide +kernel
theorem dX8_readToken_352 : decode cX8_readToken 352 = .ok (.iload_n 2, 1) := by decide +kernel
theorem dX8_readToken_353 : decode cX8_readToken 353 = .ok (.bipush 124, 2) := by decide +kernel
theorem dX8_readToken_355 : decode cX8_readToken 355 = .ok (.if_icmp .eq 21, 3) := by decide +kernel
theorem dX8_readToken_358 : decode cX8_readToken 358 = .ok (.iload_n 2, 1) := by decide +kernel
theorem dX8_readToken_359 : decode cX8_readToken 359 = .ok (.bipush 94, 2) := by decide +kernel
theorem dX8_readToken_361 : decode cX8_readToken 361 = .ok (.if_icmp .eq 15, 3) := by decide +kernel
theorem dX8_readToken_364 : decode cX8_readToken 364 = .ok (.iload_n 2, 1) := by decide +kernel
theorem dX8_readToken_365 : decode cX8_readToken 365 = .ok (.bipush 126, 2) := by decide +kernel
theorem dX8_readToken_367 : decode cX8_readToken 367 = .ok (.if_icmp .eq 9, 3) := by decide +kernel
theorem dX8_readToken_370 : decode cX8_readToken 370 = .ok (.iload_n 2, 1) := by decide +kernel
theorem dX8_readToken_371 : decode cX8_readToken 371 = .ok (.bipush 36, 2) := by decide +kernel
theorem dX8_readToken_373 : decode cX8_readToken 373 = .ok (.if_icmp .ne 7, 3) := by decide +kernel
theorem dX8_readToken_376 : decode cX8_readToken 376 = .ok (.iconst 1, 1) := by decide +kernel
theorem dX8_readToken_377 : decode cX8_readToken 377 = .ok (.goto 4, 3) := by decide +kernel
theorem dX8_readToken_380 : decode cX8_readToken 380 = .ok (.iconst 0, 1) := by decide +kernel
theorem dX8_readToken_381 : decode cX8_readToken 381 = .ok (.istore 4, 2) := by decide +kernel
theorem dX8_readToken_383 : decode cX8_readToken 383 = .ok (.iload 4, 2) := by decide +kernel
theorem dX8_readToken_385 : decode cX8_readToken 385 = .ok (.ifCond .ne 9, 3) := by decide +kernel
theorem dX8_readToken_388 : decode cX8_readToken 388 = .ok (.iload_n 3, 1) := by decide +kernel
theorem dX8_readToken_389 : decode cX8_readToken 389 = .ok (.ifCond .ne 5, 3) := by decide +kernel
theorem dX8_readToken_392 : decode cX8_readToken 392 = .ok (.iconst (-1), 1) := by decide +kernel
theorem dX8_readToken_393 : decode cX8_readToken 393 = .ok (.ireturn, 1) := by decide +kernel
theorem dX8_readToken_394 : decode cX8_readToken 394 = .ok (.aload_n 0, 1) := by decide +kernel
theorem dX8_readToken_395 : decode cX8_readToken 395 = .ok (.iconst 4, 1) := by decide +kernel
theorem dX8_readToken_396 : decode cX8_readToken 396 = .ok (.iload_n 1, 1) := by decide +kernel
theorem dX8_readToken_397 : decode cX8_readToken 397 = .ok (.iload_n 3, 1) := by decide +kernel
theorem dX8_readToken_398 : decode cX8_readToken 398 = .ok (.ifCond .eq 9, 3) := by decide +kernel
theorem dX8_readToken_401 : decode cX8_readToken 401 = .ok (.iload_n 1, 1) := by decide +kernel
theorem dX8_readToken_402 : decode cX8_readToken 402 = .ok (.iconst 2, 1) := by decide +kernel
theorem dX8_readToken_403 : decode cX8_readToken 403 = .ok (.iadd, 1) := by decide +kernel
theorem dX8_readToken_404 : decode cX8_readToken 404 = .ok (.goto 6, 3) := by decide +kernel
theorem dX8_readToken_407 : decode cX8_readToken 407 = .ok (.iload_n 1, 1) := by decide +kernel
theorem dX8_readToken_408 : decode cX8_readToken 408 = .ok (.iconst 1, 1) := by decide +kernel
theorem dX8_readToken_409 : decode cX8_readToken 409 = .ok (.iadd, 1) := by decide +kernel
theorem dX8_readToken_410 : decode cX8_readToken 410 = .ok (.iload_n 3, 1) := by decide +kernel
theorem dX8_readToken_411 : decode cX8_readToken 411 = .ok (.ifCond .eq 21, 3) := by decide +kernel
theorem dX8_readToken_414 : decode cX8_readToken 414 = .ok (.iload_n 2, 1) := by decide +kernel
theorem dX8_readToken_415 : decode cX8_readToken 415 = .ok (.bipush 60, 2) := by decide +kernel
theorem dX8_readToken_417 : decode cX8_readToken 417 = .ok (.if_icmp .ne 9, 3) := by decide +kernel
theorem dX8_readToken_420 : decode cX8_readToken 420 = .ok (.ldc2_w 238, 3) := by decide +kernel
theorem dX8_readToken_423 : decode cX8_readToken 423 = .ok (.goto 11, 3) := by decide +kernel
theorem dX8_readToken_426 : decode cX8_readToken 426 = .ok (.ldc2_w 240, 3) := by decide +kernel
theorem dX8_readToken_429 : decode cX8_readToken 429 = .ok (.goto 5, 3) := by decide +kernel
theorem dX8_readToken_432 : decode cX8_readToken 432 = .ok (.iload_n 2, 1) := by decide +kernel
theorem dX8_readToken_433 : decode cX8_readToken 433 = .ok (.i2l, 1) := by decide +kernel
theorem dX8_readToken_434 : decode cX8_readToken 434 = .ok (.invokevirtual 229, 3) := by decide +kernel
theorem dX8_readToken_437 : decode cX8_readToken 437 = .ok (.iload_n 3, 1) := by decide +kernel
theorem dX8_readToken_438 : decode cX8_readToken 438 = .ok (.ifCond .eq 9, 3) := by decide +kernel
theorem dX8_readToken_441 : decode cX8_readToken 441 = .ok (.iload_n 1, 1) := by decide +kernel
theorem dX8_readToken_442 : decode cX8_readToken 442 = .ok (.iconst 2, 1) := by decide +kernel
theorem dX8_readToken_443 : decode cX8_readToken 443 = .ok (.iadd, 1) := by decide +kernel
theorem dX8_readToken_444 : decode cX8_readToken 444 = .ok (.goto 6, 3) := by decide +kernel
theorem dX8_readToken_447 : decode cX8_readToken 447 = .ok (.iload_n 1, 1) := by decide +kernel
theorem dX8_readToken_448 : decode cX8_readToken 448 = .ok (.iconst 1, 1) := by decide +kernel
theorem dX8_readToken_449 : decode cX8_readToken 449 = .ok (.iadd, 1) := by decide +kernel
theorem dX8_readToken_450 : decode cX8_readToken 450 = .ok (.ireturn, 1) := by decide +kernel
theorem dX8_readTokens_0 : decode cX8_readTokens 0 = .ok (.aload_n 0, 1) := by decide +kernel
theorem dX8_readTokens_1 : decode cX8_readTokens 1 = .ok (.iconst 0, 1) := by decide +kernel
theorem dX8_readTokens_2 : decode cX8_readTokens 2 = .ok (.putfield 215, 3) := by decide +kernel
theorem dX8_readTokens_5 : decode cX8_readTokens 5 = .ok (.iconst 0, 1) := by decide +kernel
theorem dX8_readTokens_6 : decode cX8_readTokens 6 = .ok (.istore_n 1, 1) := by decide +kernel
theorem dX8_readTokens_7 : decode cX8_readTokens 7 = .ok (.iload_n 1, 1) := by decide +kernel
theorem dX8_readTokens_8 : decode cX8_readTokens 8 = .ok (.aload_n 0, 1) := by decide +kernel
theorem dX8_readTokens_9 : decode cX8_readTokens 9 = .ok (.getfield 199, 3) := by decide +kernel
theorem dX8_readTokens_12 : decode cX8_readTokens 12 = .ok (.if_icmp .ge 89, 3) := by decide +kernel
theorem dX8_readTokens_15 : decode cX8_readTokens 15 = .ok (.aload_n 0, 1) := by decide +kernel
theorem dX8_readTokens_16 : decode cX8_readTokens 16 = .ok (.getfield 21, 3) := by decide +kernel
theorem dX8_readTokens_19 : decode cX8_readTokens 19 = .ok (.iload_n 1, 1) := by decide +kernel
theorem dX8_readTokens_20 : decode cX8_readTokens 20 = .ok (.baload, 1) := by decide +kernel
theorem dX8_readTokens_21 : decode cX8_readTokens 21 = .ok (.bipush 59, 2) := by decide +kernel
theorem dX8_readTokens_23 : decode cX8_readTokens 23 = .ok (.if_icmp .eq 78, 3) := by decide +kernel
theorem dX8_readTokens_26 : decode cX8_readTokens 26 = .ok (.aload_n 0, 1) := by decide +kernel
theorem dX8_readTokens_27 : decode cX8_readTokens 27 = .ok (.getfield 21, 3) := by decide +kernel
theorem dX8_readTokens_30 : decode cX8_readTokens 30 = .ok (.iload_n 1, 1) := by decide +kernel
theorem dX8_readTokens_31 : decode cX8_readTokens 31 = .ok (.baload, 1) := by decide +kernel
theorem dX8_readTokens_32 : decode cX8_readTokens 32 = .ok (.bipush 32, 2) := by decide +kernel
theorem dX8_readTokens_34 : decode cX8_readTokens 34 = .ok (.if_icmp .eq 14, 3) := by decide +kernel
theorem dX8_readTokens_37 : decode cX8_readTokens 37 = .ok (.aload_n 0, 1) := by decide +kernel
theorem dX8_readTokens_38 : decode cX8_readTokens 38 = .ok (.getfield 21, 3) := by decide +kernel
theorem dX8_readTokens_41 : decode cX8_readTokens 41 = .ok (.iload_n 1, 1) := by decide +kernel
theorem dX8_readTokens_42 : decode cX8_readTokens 42 = .ok (.baload, 1) := by decide +kernel
theorem dX8_readTokens_43 : decode cX8_readTokens 43 = .ok (.bipush 9, 2) := by decide +kernel
theorem dX8_readTokens_45 : decode cX8_readTokens 45 = .ok (.if_icmp .ne 9, 3) := by decide +kernel
theorem dX8_readTokens_48 : decode cX8_readTokens 48 = .ok (.iinc 1 1, 3) := by decide +kernel
theorem dX8_readTokens_51 : decode cX8_readTokens 51 = .ok (.goto (-44), 3) := by decide +kernel
theorem dX8_readTokens_54 : decode cX8_readTokens 54 = .ok (.aload_n 0, 1) := by decide +kernel
theorem dX8_readTokens_55 : decode cX8_readTokens 55 = .ok (.getfield 21, 3) := by decide +kernel
theorem dX8_readTokens_58 : decode cX8_readTokens 58 = .ok (.iload_n 1, 1) := by decide +kernel
theorem dX8_readTokens_59 : decode cX8_readTokens 59 = .ok (.baload, 1) := by decide +kernel
theorem dX8_readTokens_60 : decode cX8_readTokens 60 = .ok (.bipush 32, 2) := by decide +kernel
theorem dX8_readTokens_62 : decode cX8_readTokens 62 = .ok (.if_icmp .lt 14, 3) := by decide +kernel
theorem dX8_readTokens_65 : decode cX8_readTokens 65 = .ok (.aload_n 0, 1) := by decide +kernel
theorem dX8_readTokens_66 : decode cX8_readTokens 66 = .ok (.getfield 21, 3) := by decide +kernel
theorem dX8_readTokens_69 : decode cX8_readTokens 69 = .ok (.iload_n 1, 1) := by decide +kernel
theorem dX8_readTokens_70 : decode cX8_readTokens 70 = .ok (.baload, 1) := by decide +kernel
theorem dX8_readTokens_71 : decode cX8_readTokens 71 = .ok (.bipush 126, 2) := by decide +kernel
theorem dX8_readTokens_73 : decode cX8_readTokens 73 = .ok (.if_icmp .le 7, 3) := by decide +kernel
theorem dX8_readTokens_76 : decode cX8_readTokens 76 = .ok (.iconst (-1), 1) := by decide +kernel
theorem dX8_readTokens_77 : decode cX8_readTokens 77 = .ok (.goto 8, 3) := by decide +kernel
theorem dX8_readTokens_80 : decode cX8_readTokens 80 = .ok (.aload_n 0, 1) := by decide +kernel
theorem dX8_readTokens_81 : decode cX8_readTokens 81 = .ok (.iload_n 1, 1) := by decide +kernel
theorem dX8_readTokens_82 : decode cX8_readTokens 82 = .ok (.invokevirtual 242, 3) := by decide +kernel
theorem dX8_readTokens_85 : decode cX8_readTokens 85 = .ok (.istore_n 2, 1) := by decide +kernel
theorem dX8_readTokens_86 : decode cX8_readTokens 86 = .ok (.iload_n 2, 1) := by decide +kernel
theorem dX8_readTokens_87 : decode cX8_readTokens 87 = .ok (.ifCond .ge 9, 3) := by decide +kernel
theorem dX8_readTokens_90 : decode cX8_readTokens 90 = .ok (.aload_n 0, 1) := by decide +kernel
theorem dX8_readTokens_91 : decode cX8_readTokens 91 = .ok (.iconst 1, 1) := by decide +kernel
theorem dX8_readTokens_92 : decode cX8_readTokens 92 = .ok (.invokevirtual 189, 3) := by decide +kernel
theorem dX8_readTokens_95 : decode cX8_readTokens 95 = .ok (.return_, 1) := by decide +kernel
theorem dX8_readTokens_96 : decode cX8_readTokens 96 = .ok (.iload_n 2, 1) := by decide +kernel
theorem dX8_readTokens_97 : decode cX8_readTokens 97 = .ok (.istore_n 1, 1) := by decide +kernel
theorem dX8_readTokens_98 : decode cX8_readTokens 98 = .ok (.goto (-91), 3) := by decide +kernel
theorem dX8_readTokens_101 : decode cX8_readTokens 101 = .ok (.aload_n 0, 1) := by decide +kernel
theorem dX8_readTokens_102 : decode cX8_readTokens 102 = .ok (.iconst 0, 1) := by decide +kernel
theorem dX8_readTokens_103 : decode cX8_readTokens 103 = .ok (.iload_n 1, 1) := by decide +kernel
theorem dX8_readTokens_104 : decode cX8_readTokens 104 = .ok (.iload_n 1, 1) := by decide +kernel
theorem dX8_readTokens_105 : decode cX8_readTokens 105 = .ok (.lconst 0, 1) := by decide +kernel
theorem dX8_readTokens_106 : decode cX8_readTokens 106 = .ok (.invokevirtual 229, 3) := by decide +kernel
theorem dX8_readTokens_109 : decode cX8_readTokens 109 = .ok (.aload_n 0, 1) := by decide +kernel
theorem dX8_readTokens_110 : decode cX8_readTokens 110 = .ok (.dup, 1) := by decide +kernel
theorem dX8_readTokens_111 : decode cX8_readTokens 111 = .ok (.getfield 215, 3) := by decide +kernel
theorem dX8_readTokens_114 : decode cX8_readTokens 114 = .ok (.iconst 1, 1) := by decide +kernel
theorem dX8_readTokens_115 : decode cX8_readTokens 115 = .ok (.isub, 1) := by decide +kernel
theorem dX8_readTokens_116 : decode cX8_readTokens 116 = .ok (.putfield 215, 3) := by decide +kernel
theorem dX8_readTokens_119 : decode cX8_readTokens 119 = .ok (.return_, 1) := by decide +kernel
theorem dX8_isSign_0 : decode cX8_isSign 0 = .ok (.iload_n 1, 1) := by decide +kernel
theorem dX8_isSign_1 : decode cX8_isSign 1 = .ok (.aload_n 0, 1) := by decide +kernel
theorem dX8_isSign_2 : decode cX8_isSign 2 = .ok (.getfield 215, 3) := by decide +kernel
theorem dX8_isSign_5 : decode cX8_isSign 5 = .ok (.if_icmp .ge 29, 3) := by decide +kernel
theorem dX8_isSign_8 : decode cX8_isSign 8 = .ok (.aload_n 0, 1) := by decide +kernel
theorem dX8_isSign_9 : decode cX8_isSign 9 = .ok (.getfield 90, 3) := by decide +kernel
theorem dX8_isSign_12 : decode cX8_isSign 12 = .ok (.iload_n 1, 1) := by decide +kernel
theorem dX8_isSign_13 : decode cX8_isSign 13 = .ok (.iaload, 1) := by decide +kernel
theorem dX8_isSign_14 : decode cX8_isSign 14 = .ok (.iconst 4, 1) := by decide +kernel
theorem dX8_isSign_15 : decode cX8_isSign 15 = .ok (.if_icmp .ne 19, 3) := by decide +kernel
theorem dX8_isSign_18 : decode cX8_isSign 18 = .ok (.aload_n 0, 1) := by decide +kernel
theorem dX8_isSign_19 : decode cX8_isSign 19 = .ok (.getfield 99, 3) := by decide +kernel
theorem dX8_isSign_22 : decode cX8_isSign 22 = .ok (.iload_n 1, 1) := by decide +kernel
theorem dX8_isSign_23 : decode cX8_isSign 23 = .ok (.laload, 1) := by decide +kernel
theorem dX8_isSign_24 : decode cX8_isSign 24 = .ok (.iload_n 2, 1) := by decide +kernel
theorem dX8_isSign_25 : decode cX8_isSign 25 = .ok (.i2l, 1) := by decide +kernel
theorem dX8_isSign_26 : decode cX8_isSign 26 = .ok (.lcmp, 1) := by decide +kernel
theorem dX8_isSign_27 : decode cX8_isSign 27 = .ok (.ifCond .ne 7, 3) := by decide +kernel
theorem dX8_isSign_30 : decode cX8_isSign 30 = .ok (.iconst 1, 1) := by decide +kernel
theorem dX8_isSign_31 : decode cX8_isSign 31 = .ok (.goto 4, 3) := by decide +kernel
theorem dX8_isSign_34 : decode cX8_isSign 34 = .ok (.iconst 0, 1) := by decide +kernel
theorem dX8_isSign_35 : decode cX8_isSign 35 = .ok (.ireturn, 1) := by decide +kernel
theorem dX8_isName_0 : decode cX8_isName 0 = .ok (.iload_n 1, 1) := by decide +kernel
theorem dX8_isName_1 : decode cX8_isName 1 = .ok (.aload_n 0, 1) := by decide +kernel
theorem dX8_isName_2 : decode cX8_isName 2 = .ok (.getfield 215, 3) := by decide +kernel
theorem dX8_isName_5 : decode cX8_isName 5 = .ok (.if_icmp .ge 17, 3) := by decide +kernel
theorem dX8_isName_8 : decode cX8_isName 8 = .ok (.aload_n 0, 1) := by decide +kernel
theorem dX8_isName_9 : decode cX8_isName 9 = .ok (.getfield 90, 3) := by decide +kernel
theorem dX8_isName_12 : decode cX8_isName 12 = .ok (.iload_n 1, 1) := by decide +kernel
theorem dX8_isName_13 : decode cX8_isName 13 = .ok (.iaload, 1) := by decide +kernel
theorem dX8_isName_14 : decode cX8_isName 14 = .ok (.iconst 1, 1) := by decide +kernel
theorem dX8_isName_15 : decode cX8_isName 15 = .ok (.if_icmp .ne 7, 3) := by decide +kernel
theorem dX8_isName_18 : decode cX8_isName 18 = .ok (.iconst 1, 1) := by decide +kernel
theorem dX8_isName_19 : decode cX8_isName 19 = .ok (.goto 4, 3) := by decide +kernel
theorem dX8_isName_22 : decode cX8_isName 22 = .ok (.iconst 0, 1) := by decide +kernel
theorem dX8_isName_23 : decode cX8_isName 23 = .ok (.ireturn, 1) := by decide +kernel
theorem dX8_macroNamed_0 : decode cX8_macroNamed 0 = .ok (.iconst 0, 1) := by decide +kernel
theorem dX8_macroNamed_1 : decode cX8_macroNamed 1 = .ok (.istore_n 2, 1) := by decide +kernel
theorem dX8_macroNamed_2 : decode cX8_macroNamed 2 = .ok (.iload_n 2, 1) := by decide +kernel
theorem dX8_macroNamed_3 : decode cX8_macroNamed 3 = .ok (.aload_n 0, 1) := by decide +kernel
theorem dX8_macroNamed_4 : decode cX8_macroNamed 4 = .ok (.getfield 245, 3) := by decide +kernel
theorem dX8_macroNamed_7 : decode cX8_macroNamed 7 = .ok (.if_icmp .ge 105, 3) := by decide +kernel
theorem dX8_macroNamed_10 : decode cX8_macroNamed 10 = .ok (.aload_n 0, 1) := by decide +kernel
theorem dX8_macroNamed_11 : decode cX8_macroNamed 11 = .ok (.iload_n 1, 1) := by decide +kernel
theorem dX8_macroNamed_12 : decode cX8_macroNamed 12 = .ok (.invokevirtual 248, 3) := by decide +kernel
theorem dX8_macroNamed_15 : decode cX8_macroNamed 15 = .ok (.ifCond .eq 97, 3) := by decide +kernel
theorem dX8_macroNamed_18 : decode cX8_macroNamed 18 = .ok (.aload_n 0, 1) := by decide +kernel
theorem dX8_macroNamed_19 : decode cX8_macroNamed 19 = .ok (.getfield 72, 3) := by decide +kernel
theorem dX8_macroNamed_22 : decode cX8_macroNamed 22 = .ok (.iload_n 2, 1) := by decide +kernel
theorem dX8_macroNamed_23 : decode cX8_macroNamed 23 = .ok (.iaload, 1) := by decide +kernel
theorem dX8_macroNamed_24 : decode cX8_macroNamed 24 = .ok (.aload_n 0, 1) := by decide +kernel
theorem dX8_macroNamed_25 : decode cX8_macroNamed 25 = .ok (.getfield 96, 3) := by decide +kernel
theorem dX8_macroNamed_28 : decode cX8_macroNamed 28 = .ok (.iload_n 1, 1) := by decide +kernel
theorem dX8_macroNamed_29 : decode cX8_macroNamed 29 = .ok (.iaload, 1) := by decide +kernel
theorem dX8_macroNamed_30 : decode cX8_macroNamed 30 = .ok (.if_icmp .ne 7, 3) := by decide +kernel
theorem dX8_macroNamed_33 : decode cX8_macroNamed 33 = .ok (.iconst 1, 1) := by decide +kernel
theorem dX8_macroNamed_34 : decode cX8_macroNamed 34 = .ok (.goto 4, 3) := by decide +kernel
theorem dX8_macroNamed_37 : decode cX8_macroNamed 37 = .ok (.iconst 0, 1) := by decide +kernel
theorem dX8_macroNamed_38 : decode cX8_macroNamed 38 = .ok (.istore_n 3, 1) := by decide +kernel
theorem dX8_macroNamed_39 : decode cX8_macroNamed 39 = .ok (.iconst 0, 1) := by decide +kernel
theorem dX8_macroNamed_40 : decode cX8_macroNamed 40 = .ok (.istore 4, 2) := by decide +kernel
theorem dX8_macroNamed_42 : decode cX8_macroNamed 42 = .ok (.iload 4, 2) := by decide +kernel
theorem dX8_macroNamed_44 : decode cX8_macroNamed 44 = .ok (.aload_n 0, 1) := by decide +kernel
theorem dX8_macroNamed_45 : decode cX8_macroNamed 45 = .ok (.getfield 96, 3) := by decide +kernel
theorem dX8_macroNamed_48 : decode cX8_macroNamed 48 = .ok (.iload_n 1, 1) := by decide +kernel
theorem dX8_macroNamed_49 : decode cX8_macroNamed 49 = .ok (.iaload, 1) := by decide +kernel
theorem dX8_macroNamed_50 : decode cX8_macroNamed 50 = .ok (.if_icmp .ge 50, 3) := by decide +kernel
theorem dX8_macroNamed_53 : decode cX8_macroNamed 53 = .ok (.iload_n 3, 1) := by decide +kernel
theorem dX8_macroNamed_54 : decode cX8_macroNamed 54 = .ok (.ifCond .eq 46, 3) := by decide +kernel
theorem dX8_macroNamed_57 : decode cX8_macroNamed 57 = .ok (.aload_n 0, 1) := by decide +kernel
theorem dX8_macroNamed_58 : decode cX8_macroNamed 58 = .ok (.getfield 14, 3) := by decide +kernel
theorem dX8_macroNamed_61 : decode cX8_macroNamed 61 = .ok (.aload_n 0, 1) := by decide +kernel
theorem dX8_macroNamed_62 : decode cX8_macroNamed 62 = .ok (.getfield 69, 3) := by decide +kernel
theorem dX8_macroNamed_65 : decode cX8_macroNamed 65 = .ok (.iload_n 2, 1) := by decide +kernel
theorem dX8_macroNamed_66 : decode cX8_macroNamed 66 = .ok (.iaload, 1) := by decide +kernel
theorem dX8_macroNamed_67 : decode cX8_macroNamed 67 = .ok (.iload 4, 2) := by decide +kernel
theorem dX8_macroNamed_69 : decode cX8_macroNamed 69 = .ok (.iadd, 1) := by decide +kernel
theorem dX8_macroNamed_70 : decode cX8_macroNamed 70 = .ok (.baload, 1) := by decide +kernel
theorem dX8_macroNamed_71 : decode cX8_macroNamed 71 = .ok (.aload_n 0, 1) := by decide +kernel
theorem dX8_macroNamed_72 : decode cX8_macroNamed 72 = .ok (.getfield 21, 3) := by decide +kernel
theorem dX8_macroNamed_75 : decode cX8_macroNamed 75 = .ok (.aload_n 0, 1) := by decide +kernel
theorem dX8_macroNamed_76 : decode cX8_macroNamed 76 = .ok (.getfield 93, 3) := by decide +kernel
theorem dX8_macroNamed_79 : decode cX8_macroNamed 79 = .ok (.iload_n 1, 1) := by decide +kernel
theorem dX8_macroNamed_80 : decode cX8_macroNamed 80 = .ok (.iaload, 1) := by decide +kernel
theorem dX8_macroNamed_81 : decode cX8_macroNamed 81 = .ok (.iload 4, 2) := by decide +kernel
theorem dX8_macroNamed_83 : decode cX8_macroNamed 83 = .ok (.iadd, 1) := by decide +kernel
theorem dX8_macroNamed_84 : decode cX8_macroNamed 84 = .ok (.baload, 1) := by decide +kernel
theorem dX8_macroNamed_85 : decode cX8_macroNamed 85 = .ok (.if_icmp .ne 7, 3) := by decide +kernel
theorem dX8_macroNamed_88 : decode cX8_macroNamed 88 = .ok (.iconst 1, 1) := by decide +kernel
theorem dX8_macroNamed_89 : decode cX8_macroNamed 89 = .ok (.goto 4, 3) := by decide +kernel
theorem dX8_macroNamed_92 : decode cX8_macroNamed 92 = .ok (.iconst 0, 1) := by decide +kernel
theorem dX8_macroNamed_93 : decode cX8_macroNamed 93 = .ok (.istore_n 3, 1) := by decide +kernel
theorem dX8_macroNamed_94 : decode cX8_macroNamed 94 = .ok (.iinc 4 1, 3) := by decide +kernel
theorem dX8_macroNamed_97 : decode cX8_macroNamed 97 = .ok (.goto (-55), 3) := by decide +kernel
theorem dX8_macroNamed_100 : decode cX8_macroNamed 100 = .ok (.iload_n 3, 1) := by decide +kernel
theorem dX8_macroNamed_101 : decode cX8_macroNamed 101 = .ok (.ifCond .eq 5, 3) := by decide +kernel
theorem dX8_macroNamed_104 : decode cX8_macroNamed 104 = .ok (.iload_n 2, 1) := by decide +kernel
theorem dX8_macroNamed_105 : decode cX8_macroNamed 105 = .ok (.ireturn, 1) := by decide +kernel
theorem dX8_macroNamed_106 : decode cX8_macroNamed 106 = .ok (.iinc 2 1, 3) := by decide +kernel
theorem dX8_macroNamed_109 : decode cX8_macroNamed 109 = .ok (.goto (-107), 3) := by decide +kernel
theorem dX8_macroNamed_112 : decode cX8_macroNamed 112 = .ok (.iconst (-1), 1) := by decide +kernel
theorem dX8_macroNamed_113 : decode cX8_macroNamed 113 = .ok (.ireturn, 1) := by decide +kernel
theorem dX8_nesting_0 : decode cX8_nesting 0 = .ok (.iload_n 1, 1) := by decide +kernel
theorem dX8_nesting_1 : decode cX8_nesting 1 = .ok (.iconst 1, 1) := by decide +kernel
theorem dX8_nesting_2 : decode cX8_nesting 2 = .ok (.if_icmp .eq 14, 3) := by decide +kernel
theorem dX8_nesting_5 : decode cX8_nesting 5 = .ok (.iload_n 1, 1) := by decide +kernel
theorem dX8_nesting_6 : decode cX8_nesting 6 = .ok (.iconst 4, 1) := by decide +kernel
theorem dX8_nesting_7 : decode cX8_nesting 7 = .ok (.if_icmp .eq 9, 3) := by decide +kernel
theorem dX8_nesting_10 : decode cX8_nesting 10 = .ok (.iload_n 1, 1) := by decide +kernel
theorem dX8_nesting_11 : decode cX8_nesting 11 = .ok (.bipush 8, 2) := by decide +kernel
theorem dX8_nesting_13 : decode cX8_nesting 13 = .ok (.if_icmp .ne 18, 3) := by decide +kernel
theorem dX8_nesting_16 : decode cX8_nesting 16 = .ok (.aload_n 0, 1) := by decide +kernel
theorem dX8_nesting_17 : decode cX8_nesting 17 = .ok (.getfield 139, 3) := by decide +kernel
theorem dX8_nesting_20 : decode cX8_nesting 20 = .ok (.bipush 20, 2) := by decide +kernel
theorem dX8_nesting_22 : decode cX8_nesting 22 = .ok (.if_icmp .ne 9, 3) := by decide +kernel
theorem dX8_nesting_25 : decode cX8_nesting 25 = .ok (.aload_n 0, 1) := by decide +kernel
theorem dX8_nesting_26 : decode cX8_nesting 26 = .ok (.bipush 6, 2) := by decide +kernel
theorem dX8_nesting_28 : decode cX8_nesting 28 = .ok (.invokevirtual 189, 3) := by decide +kernel
theorem dX8_nesting_31 : decode cX8_nesting 31 = .ok (.aload_n 0, 1) := by decide +kernel
theorem dX8_nesting_32 : decode cX8_nesting 32 = .ok (.getfield 139, 3) := by decide +kernel
theorem dX8_nesting_35 : decode cX8_nesting 35 = .ok (.ifCond .le 22, 3) := by decide +kernel
theorem dX8_nesting_38 : decode cX8_nesting 38 = .ok (.aload_n 0, 1) := by decide +kernel
theorem dX8_nesting_39 : decode cX8_nesting 39 = .ok (.getfield 24, 3) := by decide +kernel
theorem dX8_nesting_42 : decode cX8_nesting 42 = .ok (.aload_n 0, 1) := by decide +kernel
theorem dX8_nesting_43 : decode cX8_nesting 43 = .ok (.getfield 139, 3) := by decide +kernel
theorem dX8_nesting_46 : decode cX8_nesting 46 = .ok (.iconst 1, 1) := by decide +kernel
theorem dX8_nesting_47 : decode cX8_nesting 47 = .ok (.isub, 1) := by decide +kernel
theorem dX8_nesting_48 : decode cX8_nesting 48 = .ok (.iaload, 1) := by decide +kernel
theorem dX8_nesting_49 : decode cX8_nesting 49 = .ok (.iconst 1, 1) := by decide +kernel
theorem dX8_nesting_50 : decode cX8_nesting 50 = .ok (.if_icmp .ne 7, 3) := by decide +kernel
theorem dX8_nesting_53 : decode cX8_nesting 53 = .ok (.iconst 1, 1) := by decide +kernel
theorem dX8_nesting_54 : decode cX8_nesting 54 = .ok (.goto 4, 3) := by decide +kernel
theorem dX8_nesting_57 : decode cX8_nesting 57 = .ok (.iconst 0, 1) := by decide +kernel
theorem dX8_nesting_58 : decode cX8_nesting 58 = .ok (.istore_n 3, 1) := by decide +kernel
theorem dX8_nesting_59 : decode cX8_nesting 59 = .ok (.iload_n 1, 1) := by decide +kernel
theorem dX8_nesting_60 : decode cX8_nesting 60 = .ok (.iconst 2, 1) := by decide +kernel
theorem dX8_nesting_61 : decode cX8_nesting 61 = .ok (.if_icmp .ne 21, 3) := by decide +kernel
theorem dX8_nesting_64 : decode cX8_nesting 64 = .ok (.iload_n 3, 1) := by decide +kernel
theorem dX8_nesting_65 : decode cX8_nesting 65 = .ok (.ifCond .eq 37, 3) := by decide +kernel
theorem dX8_nesting_68 : decode cX8_nesting 68 = .ok (.aload_n 0, 1) := by decide +kernel
theorem dX8_nesting_69 : decode cX8_nesting 69 = .ok (.getfield 52, 3) := by decide +kernel
theorem dX8_nesting_72 : decode cX8_nesting 72 = .ok (.aload_n 0, 1) := by decide +kernel
theorem dX8_nesting_73 : decode cX8_nesting 73 = .ok (.getfield 139, 3) := by decide +kernel
theorem dX8_nesting_76 : decode cX8_nesting 76 = .ok (.iconst 1, 1) := by decide +kernel
theorem dX8_nesting_77 : decode cX8_nesting 77 = .ok (.isub, 1) := by decide +kernel
theorem dX8_nesting_78 : decode cX8_nesting 78 = .ok (.baload, 1) := by decide +kernel
theorem dX8_nesting_79 : decode cX8_nesting 79 = .ok (.ifCond .ne 23, 3) := by decide +kernel
theorem dX8_nesting_82 : decode cX8_nesting 82 = .ok (.iload_n 1, 1) := by decide +kernel
theorem dX8_nesting_83 : decode cX8_nesting 83 = .ok (.iconst 3, 1) := by decide +kernel
theorem dX8_nesting_84 : decode cX8_nesting 84 = .ok (.if_icmp .ne 7, 3) := by decide +kernel
theorem dX8_nesting_87 : decode cX8_nesting 87 = .ok (.iload_n 3, 1) := by decide +kernel
theorem dX8_nesting_88 : decode cX8_nesting 88 = .ok (.ifCond .eq 14, 3) := by decide +kernel
theorem dX8_nesting_91 : decode cX8_nesting 91 = .ok (.iload_n 1, 1) := by decide +kernel
theorem dX8_nesting_92 : decode cX8_nesting 92 = .ok (.iconst 5, 1) := by decide +kernel
theorem dX8_nesting_93 : decode cX8_nesting 93 = .ok (.if_icmp .eq 9, 3) := by decide +kernel
theorem dX8_nesting_96 : decode cX8_nesting 96 = .ok (.iload_n 1, 1) := by decide +kernel
theorem dX8_nesting_97 : decode cX8_nesting 97 = .ok (.bipush 7, 2) := by decide +kernel
theorem dX8_nesting_99 : decode cX8_nesting 99 = .ok (.if_icmp .ne 9, 3) := by decide +kernel
theorem dX8_nesting_102 : decode cX8_nesting 102 = .ok (.aload_n 0, 1) := by decide +kernel
theorem dX8_nesting_103 : decode cX8_nesting 103 = .ok (.bipush 6, 2) := by decide +kernel
theorem dX8_nesting_105 : decode cX8_nesting 105 = .ok (.invokevirtual 189, 3) := by decide +kernel
theorem dX8_nesting_108 : decode cX8_nesting 108 = .ok (.aload_n 0, 1) := by decide +kernel
theorem dX8_nesting_109 : decode cX8_nesting 109 = .ok (.invokevirtual 183, 3) := by decide +kernel
theorem dX8_nesting_112 : decode cX8_nesting 112 = .ok (.istore 4, 2) := by decide +kernel
theorem dX8_nesting_114 : decode cX8_nesting 114 = .ok (.iload_n 1, 1) := by decide +kernel
theorem dX8_nesting_115 : decode cX8_nesting 115 = .ok (.bipush 6, 2) := by decide +kernel
theorem dX8_nesting_117 : decode cX8_nesting 117 = .ok (.if_icmp .ne 14, 3) := by decide +kernel
theorem dX8_nesting_120 : decode cX8_nesting 120 = .ok (.iload 4, 2) := by decide +kernel
theorem dX8_nesting_122 : decode cX8_nesting 122 = .ok (.ifCond .lt 9, 3) := by decide +kernel
theorem dX8_nesting_125 : decode cX8_nesting 125 = .ok (.aload_n 0, 1) := by decide +kernel
theorem dX8_nesting_126 : decode cX8_nesting 126 = .ok (.bipush 6, 2) := by decide +kernel
theorem dX8_nesting_128 : decode cX8_nesting 128 = .ok (.invokevirtual 189, 3) := by decide +kernel
theorem dX8_nesting_131 : decode cX8_nesting 131 = .ok (.iload_n 1, 1) := by decide +kernel
theorem dX8_nesting_132 : decode cX8_nesting 132 = .ok (.iconst 1, 1) := by decide +kernel
theorem dX8_nesting_133 : decode cX8_nesting 133 = .ok (.if_icmp .eq 8, 3) := by decide +kernel
theorem dX8_nesting_136 : decode cX8_nesting 136 = .ok (.iload_n 1, 1) := by decide +kernel
theorem dX8_nesting_137 : decode cX8_nesting 137 = .ok (.iconst 4, 1) := by decide +kernel
theorem dX8_nesting_138 : decode cX8_nesting 138 = .ok (.if_icmp .ne 50, 3) := by decide +kernel
theorem dX8_nesting_141 : decode cX8_nesting 141 = .ok (.iload 4, 2) := by decide +kernel
theorem dX8_nesting_143 : decode cX8_nesting 143 = .ok (.ifCond .lt 45, 3) := by decide +kernel
theorem dX8_nesting_146 : decode cX8_nesting 146 = .ok (.aload_n 0, 1) := by decide +kernel
theorem dX8_nesting_147 : decode cX8_nesting 147 = .ok (.aload_n 0, 1) := by decide +kernel
theorem dX8_nesting_148 : decode cX8_nesting 148 = .ok (.getfield 186, 3) := by decide +kernel
theorem dX8_nesting_151 : decode cX8_nesting 151 = .ok (.aload_n 0, 1) := by decide +kernel
theorem dX8_nesting_152 : decode cX8_nesting 152 = .ok (.getfield 136, 3) := by decide +kernel
theorem dX8_nesting_155 : decode cX8_nesting 155 = .ok (.iconst 1, 1) := by decide +kernel
theorem dX8_nesting_156 : decode cX8_nesting 156 = .ok (.iadd, 1) := by decide +kernel
theorem dX8_nesting_157 : decode cX8_nesting 157 = .ok (.aload_n 0, 1) := by decide +kernel
theorem dX8_nesting_158 : decode cX8_nesting 158 = .ok (.getfield 28, 3) := by decide +kernel
theorem dX8_nesting_161 : decode cX8_nesting 161 = .ok (.iload 4, 2) := by decide +kernel
theorem dX8_nesting_163 : decode cX8_nesting 163 = .ok (.iaload, 1) := by decide +kernel
theorem dX8_nesting_164 : decode cX8_nesting 164 = .ok (.iload_n 1, 1) := by decide +kernel
theorem dX8_nesting_165 : decode cX8_nesting 165 = .ok (.iload_n 1, 1) := by decide +kernel
theorem dX8_nesting_166 : decode cX8_nesting 166 = .ok (.iconst 1, 1) := by decide +kernel
theorem dX8_nesting_167 : decode cX8_nesting 167 = .ok (.if_icmp .ne 7, 3) := by decide +kernel
theorem dX8_nesting_170 : decode cX8_nesting 170 = .ok (.iconst 3, 1) := by decide +kernel
theorem dX8_nesting_171 : decode cX8_nesting 171 = .ok (.goto 4, 3) := by decide +kernel
theorem dX8_nesting_174 : decode cX8_nesting 174 = .ok (.iconst 5, 1) := by decide +kernel
theorem dX8_nesting_175 : decode cX8_nesting 175 = .ok (.iconst 0, 1) := by decide +kernel
theorem dX8_nesting_176 : decode cX8_nesting 176 = .ok (.invokevirtual 251, 3) := by decide +kernel
theorem dX8_nesting_179 : decode cX8_nesting 179 = .ok (.ifCond .ne 9, 3) := by decide +kernel
theorem dX8_nesting_182 : decode cX8_nesting 182 = .ok (.aload_n 0, 1) := by decide +kernel
theorem dX8_nesting_183 : decode cX8_nesting 183 = .ok (.bipush 6, 2) := by decide +kernel
theorem dX8_nesting_185 : decode cX8_nesting 185 = .ok (.invokevirtual 189, 3) := by decide +kernel
theorem dX8_nesting_188 : decode cX8_nesting 188 = .ok (.iload_n 1, 1) := by decide +kernel
theorem dX8_nesting_189 : decode cX8_nesting 189 = .ok (.iconst 2, 1) := by decide +kernel
theorem dX8_nesting_190 : decode cX8_nesting 190 = .ok (.if_icmp .ne 48, 3) := by decide +kernel
theorem dX8_nesting_193 : decode cX8_nesting 193 = .ok (.aload_n 0, 1) := by decide +kernel
theorem dX8_nesting_194 : decode cX8_nesting 194 = .ok (.getfield 142, 3) := by decide +kernel
theorem dX8_nesting_197 : decode cX8_nesting 197 = .ok (.ifCond .ne 41, 3) := by decide +kernel
theorem dX8_nesting_200 : decode cX8_nesting 200 = .ok (.iload 4, 2) := by decide +kernel
theorem dX8_nesting_202 : decode cX8_nesting 202 = .ok (.ifCond .lt 36, 3) := by decide +kernel
theorem dX8_nesting_205 : decode cX8_nesting 205 = .ok (.aload_n 0, 1) := by decide +kernel
theorem dX8_nesting_206 : decode cX8_nesting 206 = .ok (.aload_n 0, 1) := by decide +kernel
theorem dX8_nesting_207 : decode cX8_nesting 207 = .ok (.getfield 186, 3) := by decide +kernel
theorem dX8_nesting_210 : decode cX8_nesting 210 = .ok (.aload_n 0, 1) := by decide +kernel
theorem dX8_nesting_211 : decode cX8_nesting 211 = .ok (.getfield 136, 3) := by decide +kernel
theorem dX8_nesting_214 : decode cX8_nesting 214 = .ok (.iconst 1, 1) := by decide +kernel
theorem dX8_nesting_215 : decode cX8_nesting 215 = .ok (.iadd, 1) := by decide +kernel
theorem dX8_nesting_216 : decode cX8_nesting 216 = .ok (.aload_n 0, 1) := by decide +kernel
theorem dX8_nesting_217 : decode cX8_nesting 217 = .ok (.getfield 28, 3) := by decide +kernel
theorem dX8_nesting_220 : decode cX8_nesting 220 = .ok (.iload 4, 2) := by decide +kernel
theorem dX8_nesting_222 : decode cX8_nesting 222 = .ok (.iaload, 1) := by decide +kernel
theorem dX8_nesting_223 : decode cX8_nesting 223 = .ok (.iconst 1, 1) := by decide +kernel
theorem dX8_nesting_224 : decode cX8_nesting 224 = .ok (.iconst 3, 1) := by decide +kernel
theorem dX8_nesting_225 : decode cX8_nesting 225 = .ok (.iconst 0, 1) := by decide +kernel
theorem dX8_nesting_226 : decode cX8_nesting 226 = .ok (.invokevirtual 251, 3) := by decide +kernel
theorem dX8_nesting_229 : decode cX8_nesting 229 = .ok (.ifCond .ne 9, 3) := by decide +kernel
theorem dX8_nesting_232 : decode cX8_nesting 232 = .ok (.aload_n 0, 1) := by decide +kernel
theorem dX8_nesting_233 : decode cX8_nesting 233 = .ok (.bipush 6, 2) := by decide +kernel
theorem dX8_nesting_235 : decode cX8_nesting 235 = .ok (.invokevirtual 189, 3) := by decide +kernel
theorem dX8_nesting_238 : decode cX8_nesting 238 = .ok (.iload_n 1, 1) := by decide +kernel
theorem dX8_nesting_239 : decode cX8_nesting 239 = .ok (.bipush 8, 2) := by decide +kernel
theorem dX8_nesting_241 : decode cX8_nesting 241 = .ok (.if_icmp .ne 37, 3) := by decide +kernel
theorem dX8_nesting_244 : decode cX8_nesting 244 = .ok (.aload_n 0, 1) := by decide +kernel
theorem dX8_nesting_245 : decode cX8_nesting 245 = .ok (.getfield 142, 3) := by decide +kernel
theorem dX8_nesting_248 : decode cX8_nesting 248 = .ok (.ifCond .ne 30, 3) := by decide +kernel
theorem dX8_nesting_251 : decode cX8_nesting 251 = .ok (.aload_n 0, 1) := by decide +kernel
theorem dX8_nesting_252 : decode cX8_nesting 252 = .ok (.invokevirtual 255, 3) := by decide +kernel
theorem dX8_nesting_255 : decode cX8_nesting 255 = .ok (.aload_n 0, 1) := by decide +kernel
theorem dX8_nesting_256 : decode cX8_nesting 256 = .ok (.getfield 66, 3) := by decide +kernel
theorem dX8_nesting_259 : decode cX8_nesting 259 = .ok (.aload_n 0, 1) := by decide +kernel
theorem dX8_nesting_260 : decode cX8_nesting 260 = .ok (.getfield 139, 3) := by decide +kernel
theorem dX8_nesting_263 : decode cX8_nesting 263 = .ok (.iaload, 1) := by decide +kernel
theorem dX8_nesting_264 : decode cX8_nesting 264 = .ok (.aload_n 0, 1) := by decide +kernel
theorem dX8_nesting_265 : decode cX8_nesting 265 = .ok (.iload_n 2, 1) := by decide +kernel
theorem dX8_nesting_266 : decode cX8_nesting 266 = .ok (.invokevirtual 258, 3) := by decide +kernel
theorem dX8_nesting_269 : decode cX8_nesting 269 = .ok (.if_icmp .le 9, 3) := by decide +kernel
theorem dX8_nesting_272 : decode cX8_nesting 272 = .ok (.aload_n 0, 1) := by decide +kernel
theorem dX8_nesting_273 : decode cX8_nesting 273 = .ok (.bipush 6, 2) := by decide +kernel
theorem dX8_nesting_275 : decode cX8_nesting 275 = .ok (.invokevirtual 189, 3) := by decide +kernel
theorem dX8_nesting_278 : decode cX8_nesting 278 = .ok (.return_, 1) := by decide +kernel
theorem dX8_parametersOf_0 : decode cX8_parametersOf 0 = .ok (.aload_n 0, 1) := by decide +kernel
theorem dX8_parametersOf_1 : decode cX8_parametersOf 1 = .ok (.getfield 75, 3) := by decide +kernel
theorem dX8_parametersOf_4 : decode cX8_parametersOf 4 = .ok (.iload_n 1, 1) := by decide +kernel
theorem dX8_parametersOf_5 : decode cX8_parametersOf 5 = .ok (.iaload, 1) := by decide +kernel
theorem dX8_parametersOf_6 : decode cX8_parametersOf 6 = .ok (.istore_n 2, 1) := by decide +kernel
theorem dX8_parametersOf_7 : decode cX8_parametersOf 7 = .ok (.aload_n 0, 1) := by decide +kernel
theorem dX8_parametersOf_8 : decode cX8_parametersOf 8 = .ok (.iload_n 2, 1) := by decide +kernel
theorem dX8_parametersOf_9 : decode cX8_parametersOf 9 = .ok (.invokevirtual 163, 3) := by decide +kernel
theorem dX8_parametersOf_12 : decode cX8_parametersOf 12 = .ok (.istore_n 3, 1) := by decide +kernel
theorem dX8_parametersOf_13 : decode cX8_parametersOf 13 = .ok (.iconst 0, 1) := by decide +kernel
theorem dX8_parametersOf_14 : decode cX8_parametersOf 14 = .ok (.istore 4, 2) := by decide +kernel
theorem dX8_parametersOf_16 : decode cX8_parametersOf 16 = .ok (.iload_n 2, 1) := by decide +kernel
theorem dX8_parametersOf_17 : decode cX8_parametersOf 17 = .ok (.iload_n 3, 1) := by decide +kernel
theorem dX8_parametersOf_18 : decode cX8_parametersOf 18 = .ok (.if_icmp .ge 49, 3) := by decide +kernel
theorem dX8_parametersOf_21 : decode cX8_parametersOf 21 = .ok (.aload_n 0, 1) := by decide +kernel
theorem dX8_parametersOf_22 : decode cX8_parametersOf 22 = .ok (.getfield 14, 3) := by decide +kernel
theorem dX8_parametersOf_25 : decode cX8_parametersOf 25 = .ok (.iload_n 2, 1) := by decide +kernel
theorem dX8_parametersOf_26 : decode cX8_parametersOf 26 = .ok (.baload, 1) := by decide +kernel
theorem dX8_parametersOf_27 : decode cX8_parametersOf 27 = .ok (.bipush 59, 2) := by decide +kernel
theorem dX8_parametersOf_29 : decode cX8_parametersOf 29 = .ok (.if_icmp .eq 38, 3) := by decide +kernel
theorem dX8_parametersOf_32 : decode cX8_parametersOf 32 = .ok (.aload_n 0, 1) := by decide +kernel
theorem dX8_parametersOf_33 : decode cX8_parametersOf 33 = .ok (.getfield 14, 3) := by decide +kernel
theorem dX8_parametersOf_36 : decode cX8_parametersOf 36 = .ok (.iload_n 2, 1) := by decide +kernel
theorem dX8_parametersOf_37 : decode cX8_parametersOf 37 = .ok (.baload, 1) := by decide +kernel
theorem dX8_parametersOf_38 : decode cX8_parametersOf 38 = .ok (.invokestatic 117, 3) := by decide +kernel
theorem dX8_parametersOf_41 : decode cX8_parametersOf 41 = .ok (.ifCond .eq 20, 3) := by decide +kernel
theorem dX8_parametersOf_44 : decode cX8_parametersOf 44 = .ok (.aload_n 0, 1) := by decide +kernel
theorem dX8_parametersOf_45 : decode cX8_parametersOf 45 = .ok (.getfield 14, 3) := by decide +kernel
theorem dX8_parametersOf_48 : decode cX8_parametersOf 48 = .ok (.iload_n 2, 1) := by decide +kernel
theorem dX8_parametersOf_49 : decode cX8_parametersOf 49 = .ok (.iconst 1, 1) := by decide +kernel
theorem dX8_parametersOf_50 : decode cX8_parametersOf 50 = .ok (.isub, 1) := by decide +kernel
theorem dX8_parametersOf_51 : decode cX8_parametersOf 51 = .ok (.baload, 1) := by decide +kernel
theorem dX8_parametersOf_52 : decode cX8_parametersOf 52 = .ok (.invokestatic 117, 3) := by decide +kernel
theorem dX8_parametersOf_55 : decode cX8_parametersOf 55 = .ok (.ifCond .ne 6, 3) := by decide +kernel
theorem dX8_parametersOf_58 : decode cX8_parametersOf 58 = .ok (.iinc 4 1, 3) := by decide +kernel
theorem dX8_parametersOf_61 : decode cX8_parametersOf 61 = .ok (.iinc 2 1, 3) := by decide +kernel
theorem dX8_parametersOf_64 : decode cX8_parametersOf 64 = .ok (.goto (-48), 3) := by decide +kernel
theorem dX8_parametersOf_67 : decode cX8_parametersOf 67 = .ok (.iload 4, 2) := by decide +kernel
theorem dX8_parametersOf_69 : decode cX8_parametersOf 69 = .ok (.ireturn, 1) := by decide +kernel
theorem dX8_split_0 : decode cX8_split 0 = .ok (.aload_n 0, 1) := by decide +kernel
theorem dX8_split_1 : decode cX8_split 1 = .ok (.getfield 139, 3) := by decide +kernel
theorem dX8_split_4 : decode cX8_split 4 = .ok (.istore_n 1, 1) := by decide +kernel
theorem dX8_split_5 : decode cX8_split 5 = .ok (.aload_n 0, 1) := by decide +kernel
theorem dX8_split_6 : decode cX8_split 6 = .ok (.getfield 66, 3) := by decide +kernel
theorem dX8_split_9 : decode cX8_split 9 = .ok (.iload_n 1, 1) := by decide +kernel
theorem dX8_split_10 : decode cX8_split 10 = .ok (.iconst 0, 1) := by decide +kernel
theorem dX8_split_11 : decode cX8_split 11 = .ok (.iastore, 1) := by decide +kernel
theorem dX8_split_12 : decode cX8_split 12 = .ok (.iconst 0, 1) := by decide +kernel
theorem dX8_split_13 : decode cX8_split 13 = .ok (.istore_n 2, 1) := by decide +kernel
theorem dX8_split_14 : decode cX8_split 14 = .ok (.aload_n 0, 1) := by decide +kernel
theorem dX8_split_15 : decode cX8_split 15 = .ok (.getfield 215, 3) := by decide +kernel
theorem dX8_split_18 : decode cX8_split 18 = .ok (.iconst 1, 1) := by decide +kernel
theorem dX8_split_19 : decode cX8_split 19 = .ok (.if_icmp .ne 4, 3) := by decide +kernel
theorem dX8_split_22 : decode cX8_split 22 = .ok (.return_, 1) := by decide +kernel
theorem dX8_split_23 : decode cX8_split 23 = .ok (.iconst 0, 1) := by decide +kernel
theorem dX8_split_24 : decode cX8_split 24 = .ok (.istore_n 3, 1) := by decide +kernel
theorem dX8_split_25 : decode cX8_split 25 = .ok (.aload_n 0, 1) := by decide +kernel
theorem dX8_split_26 : decode cX8_split 26 = .ok (.getfield 93, 3) := by decide +kernel
theorem dX8_split_29 : decode cX8_split 29 = .ok (.iconst 0, 1) := by decide +kernel
theorem dX8_split_30 : decode cX8_split 30 = .ok (.iaload, 1) := by decide +kernel
theorem dX8_split_31 : decode cX8_split 31 = .ok (.aload_n 0, 1) := by decide +kernel
theorem dX8_split_32 : decode cX8_split 32 = .ok (.getfield 96, 3) := by decide +kernel
theorem dX8_split_35 : decode cX8_split 35 = .ok (.iconst 0, 1) := by decide +kernel
theorem dX8_split_36 : decode cX8_split 36 = .ok (.iaload, 1) := by decide +kernel
theorem dX8_split_37 : decode cX8_split 37 = .ok (.iadd, 1) := by decide +kernel
theorem dX8_split_38 : decode cX8_split 38 = .ok (.istore 4, 2) := by decide +kernel
theorem dX8_split_40 : decode cX8_split 40 = .ok (.iconst 1, 1) := by decide +kernel
theorem dX8_split_41 : decode cX8_split 41 = .ok (.istore 5, 2) := by decide +kernel
theorem dX8_split_43 : decode cX8_split 43 = .ok (.iload 5, 2) := by decide +kernel
theorem dX8_split_45 : decode cX8_split 45 = .ok (.aload_n 0, 1) := by decide +kernel
theorem dX8_split_46 : decode cX8_split 46 = .ok (.getfield 215, 3) := by decide +kernel
theorem dX8_split_49 : decode cX8_split 49 = .ok (.if_icmp .gt 279, 3) := by decide +kernel
theorem dX8_split_52 : decode cX8_split 52 = .ok (.aload_n 0, 1) := by decide +kernel
theorem dX8_split_53 : decode cX8_split 53 = .ok (.iload 5, 2) := by decide +kernel
theorem dX8_split_55 : decode cX8_split 55 = .ok (.bipush 40, 2) := by decide +kernel
theorem dX8_split_57 : decode cX8_split 57 = .ok (.invokevirtual 261, 3) := by decide +kernel
theorem dX8_split_60 : decode cX8_split 60 = .ok (.ifCond .ne 14, 3) := by decide +kernel
theorem dX8_split_63 : decode cX8_split 63 = .ok (.aload_n 0, 1) := by decide +kernel
theorem dX8_split_64 : decode cX8_split 64 = .ok (.iload 5, 2) := by decide +kernel
theorem dX8_split_66 : decode cX8_split 66 = .ok (.bipush 91, 2) := by decide +kernel
theorem dX8_split_68 : decode cX8_split 68 = .ok (.invokevirtual 261, 3) := by decide +kernel
theorem dX8_split_71 : decode cX8_split 71 = .ok (.ifCond .eq 6, 3) := by decide +kernel
theorem dX8_split_74 : decode cX8_split 74 = .ok (.iinc 3 1, 3) := by decide +kernel
theorem dX8_split_77 : decode cX8_split 77 = .ok (.aload_n 0, 1) := by decide +kernel
theorem dX8_split_78 : decode cX8_split 78 = .ok (.iload 5, 2) := by decide +kernel
theorem dX8_split_80 : decode cX8_split 80 = .ok (.bipush 41, 2) := by decide +kernel
theorem dX8_split_82 : decode cX8_split 82 = .ok (.invokevirtual 261, 3) := by decide +kernel
theorem dX8_split_85 : decode cX8_split 85 = .ok (.ifCond .ne 14, 3) := by decide +kernel
theorem dX8_split_88 : decode cX8_split 88 = .ok (.aload_n 0, 1) := by decide +kernel
theorem dX8_split_89 : decode cX8_split 89 = .ok (.iload 5, 2) := by decide +kernel
theorem dX8_split_91 : decode cX8_split 91 = .ok (.bipush 93, 2) := by decide +kernel
theorem dX8_split_93 : decode cX8_split 93 = .ok (.invokevirtual 261, 3) := by decide +kernel
theorem dX8_split_96 : decode cX8_split 96 = .ok (.ifCond .eq 10, 3) := by decide +kernel
theorem dX8_split_99 : decode cX8_split 99 = .ok (.iload_n 3, 1) := by decide +kernel
theorem dX8_split_100 : decode cX8_split 100 = .ok (.ifCond .le 6, 3) := by decide +kernel
theorem dX8_split_103 : decode cX8_split 103 = .ok (.iinc 3 (-1), 3) := by decide +kernel
theorem dX8_split_106 : decode cX8_split 106 = .ok (.iload 5, 2) := by decide +kernel
theorem dX8_split_108 : decode cX8_split 108 = .ok (.aload_n 0, 1) := by decide +kernel
theorem dX8_split_109 : decode cX8_split 109 = .ok (.getfield 215, 3) := by decide +kernel
theorem dX8_split_112 : decode cX8_split 112 = .ok (.if_icmp .eq 18, 3) := by decide +kernel
theorem dX8_split_115 : decode cX8_split 115 = .ok (.iload_n 3, 1) := by decide +kernel
theorem dX8_split_116 : decode cX8_split 116 = .ok (.ifCond .ne 18, 3) := by decide +kernel
theorem dX8_split_119 : decode cX8_split 119 = .ok (.aload_n 0, 1) := by decide +kernel
theorem dX8_split_120 : decode cX8_split 120 = .ok (.iload 5, 2) := by decide +kernel
theorem dX8_split_122 : decode cX8_split 122 = .ok (.bipush 44, 2) := by decide +kernel
theorem dX8_split_124 : decode cX8_split 124 = .ok (.invokevirtual 261, 3) := by decide +kernel
theorem dX8_split_127 : decode cX8_split 127 = .ok (.ifCond .eq 7, 3) := by decide +kernel
theorem dX8_split_130 : decode cX8_split 130 = .ok (.iconst 1, 1) := by decide +kernel
theorem dX8_split_131 : decode cX8_split 131 = .ok (.goto 4, 3) := by decide +kernel
theorem dX8_split_134 : decode cX8_split 134 = .ok (.iconst 0, 1) := by decide +kernel
theorem dX8_split_135 : decode cX8_split 135 = .ok (.istore 6, 2) := by decide +kernel
theorem dX8_split_137 : decode cX8_split 137 = .ok (.iload 6, 2) := by decide +kernel
theorem dX8_split_139 : decode cX8_split 139 = .ok (.ifCond .ne 6, 3) := by decide +kernel
theorem dX8_split_142 : decode cX8_split 142 = .ok (.goto 180, 3) := by decide +kernel
theorem dX8_split_145 : decode cX8_split 145 = .ok (.aload_n 0, 1) := by decide +kernel
theorem dX8_split_146 : decode cX8_split 146 = .ok (.getfield 93, 3) := by decide +kernel
theorem dX8_split_149 : decode cX8_split 149 = .ok (.iload 5, 2) := by decide +kernel
theorem dX8_split_151 : decode cX8_split 151 = .ok (.iaload, 1) := by decide +kernel
theorem dX8_split_152 : decode cX8_split 152 = .ok (.istore 7, 2) := by decide +kernel
theorem dX8_split_154 : decode cX8_split 154 = .ok (.iload 4, 2) := by decide +kernel
theorem dX8_split_156 : decode cX8_split 156 = .ok (.iload 7, 2) := by decide +kernel
theorem dX8_split_158 : decode cX8_split 158 = .ok (.if_icmp .ge 33, 3) := by decide +kernel
theorem dX8_split_161 : decode cX8_split 161 = .ok (.aload_n 0, 1) := by decide +kernel
theorem dX8_split_162 : decode cX8_split 162 = .ok (.getfield 21, 3) := by decide +kernel
theorem dX8_split_165 : decode cX8_split 165 = .ok (.iload 4, 2) := by decide +kernel
theorem dX8_split_167 : decode cX8_split 167 = .ok (.baload, 1) := by decide +kernel
theorem dX8_split_168 : decode cX8_split 168 = .ok (.bipush 32, 2) := by decide +kernel
theorem dX8_split_170 : decode cX8_split 170 = .ok (.if_icmp .eq 15, 3) := by decide +kernel
theorem dX8_split_173 : decode cX8_split 173 = .ok (.aload_n 0, 1) := by decide +kernel
theorem dX8_split_174 : decode cX8_split 174 = .ok (.getfield 21, 3) := by decide +kernel
theorem dX8_split_177 : decode cX8_split 177 = .ok (.iload 4, 2) := by decide +kernel
theorem dX8_split_179 : decode cX8_split 179 = .ok (.baload, 1) := by decide +kernel
theorem dX8_split_180 : decode cX8_split 180 = .ok (.bipush 9, 2) := by decide +kernel
theorem dX8_split_182 : decode cX8_split 182 = .ok (.if_icmp .ne 9, 3) := by decide +kernel
theorem dX8_split_185 : decode cX8_split 185 = .ok (.iinc 4 1, 3) := by decide +kernel
theorem dX8_split_188 : decode cX8_split 188 = .ok (.goto (-34), 3) := by decide +kernel
theorem dX8_split_191 : decode cX8_split 191 = .ok (.iload 7, 2) := by decide +kernel
theorem dX8_split_193 : decode cX8_split 193 = .ok (.iload 4, 2) := by decide +kernel
theorem dX8_split_195 : decode cX8_split 195 = .ok (.if_icmp .le 37, 3) := by decide +kernel
theorem dX8_split_198 : decode cX8_split 198 = .ok (.aload_n 0, 1) := by decide +kernel
theorem dX8_split_199 : decode cX8_split 199 = .ok (.getfield 21, 3) := by decide +kernel
theorem dX8_split_202 : decode cX8_split 202 = .ok (.iload 7, 2) := by decide +kernel
theorem dX8_split_204 : decode cX8_split 204 = .ok (.iconst 1, 1) := by decide +kernel
theorem dX8_split_205 : decode cX8_split 205 = .ok (.isub, 1) := by decide +kernel
theorem dX8_split_206 : decode cX8_split 206 = .ok (.baload, 1) := by decide +kernel
theorem dX8_split_207 : decode cX8_split 207 = .ok (.bipush 32, 2) := by decide +kernel
theorem dX8_split_209 : decode cX8_split 209 = .ok (.if_icmp .eq 17, 3) := by decide +kernel
theorem dX8_split_212 : decode cX8_split 212 = .ok (.aload_n 0, 1) := by decide +kernel
theorem dX8_split_213 : decode cX8_split 213 = .ok (.getfield 21, 3) := by decide +kernel
theorem dX8_split_216 : decode cX8_split 216 = .ok (.iload 7, 2) := by decide +kernel
theorem dX8_split_218 : decode cX8_split 218 = .ok (.iconst 1, 1) := by decide +kernel
theorem dX8_split_219 : decode cX8_split 219 = .ok (.isub, 1) := by decide +kernel
theorem dX8_split_220 : decode cX8_split 220 = .ok (.baload, 1) := by decide +kernel
theorem dX8_split_221 : decode cX8_split 221 = .ok (.bipush 9, 2) := by decide +kernel
theorem dX8_split_223 : decode cX8_split 223 = .ok (.if_icmp .ne 9, 3) := by decide +kernel
theorem dX8_split_226 : decode cX8_split 226 = .ok (.iinc 7 (-1), 3) := by decide +kernel
theorem dX8_split_229 : decode cX8_split 229 = .ok (.goto (-38), 3) := by decide +kernel
theorem dX8_split_232 : decode cX8_split 232 = .ok (.aload_n 0, 1) := by decide +kernel
theorem dX8_split_233 : decode cX8_split 233 = .ok (.getfield 66, 3) := by decide +kernel
theorem dX8_split_236 : decode cX8_split 236 = .ok (.iload_n 1, 1) := by decide +kernel
theorem dX8_split_237 : decode cX8_split 237 = .ok (.iaload, 1) := by decide +kernel
theorem dX8_split_238 : decode cX8_split 238 = .ok (.istore 8, 2) := by decide +kernel
theorem dX8_split_240 : decode cX8_split 240 = .ok (.aload_n 0, 1) := by decide +kernel
theorem dX8_split_241 : decode cX8_split 241 = .ok (.getfield 63, 3) := by decide +kernel
theorem dX8_split_244 : decode cX8_split 244 = .ok (.iload_n 1, 1) := by decide +kernel
theorem dX8_split_245 : decode cX8_split 245 = .ok (.aaload, 1) := by decide +kernel
theorem dX8_split_246 : decode cX8_split 246 = .ok (.iconst 2, 1) := by decide +kernel
theorem dX8_split_247 : decode cX8_split 247 = .ok (.iload 8, 2) := by decide +kernel
theorem dX8_split_249 : decode cX8_split 249 = .ok (.imul, 1) := by decide +kernel
theorem dX8_split_250 : decode cX8_split 250 = .ok (.iload_n 2, 1) := by decide +kernel
theorem dX8_split_251 : decode cX8_split 251 = .ok (.iastore, 1) := by decide +kernel
theorem dX8_split_252 : decode cX8_split 252 = .ok (.iload 4, 2) := by decide +kernel
theorem dX8_split_254 : decode cX8_split 254 = .ok (.istore 9, 2) := by decide +kernel
theorem dX8_split_256 : decode cX8_split 256 = .ok (.iload 9, 2) := by decide +kernel
theorem dX8_split_258 : decode cX8_split 258 = .ok (.iload 7, 2) := by decide +kernel
theorem dX8_split_260 : decode cX8_split 260 = .ok (.if_icmp .ge 27, 3) := by decide +kernel
theorem dX8_split_263 : decode cX8_split 263 = .ok (.aload_n 0, 1) := by decide +kernel
theorem dX8_split_264 : decode cX8_split 264 = .ok (.getfield 58, 3) := by decide +kernel
theorem dX8_split_267 : decode cX8_split 267 = .ok (.iload_n 1, 1) := by decide +kernel
theorem dX8_split_268 : decode cX8_split 268 = .ok (.aaload, 1) := by decide +kernel
theorem dX8_split_269 : decode cX8_split 269 = .ok (.iload_n 2, 1) := by decide +kernel
theorem dX8_split_270 : decode cX8_split 270 = .ok (.aload_n 0, 1) := by decide +kernel
theorem dX8_split_271 : decode cX8_split 271 = .ok (.getfield 21, 3) := by decide +kernel
theorem dX8_split_274 : decode cX8_split 274 = .ok (.iload 9, 2) := by decide +kernel
theorem dX8_split_276 : decode cX8_split 276 = .ok (.baload, 1) := by decide +kernel
theorem dX8_split_277 : decode cX8_split 277 = .ok (.bastore, 1) := by decide +kernel
theorem dX8_split_278 : decode cX8_split 278 = .ok (.iinc 2 1, 3) := by decide +kernel
theorem dX8_split_281 : decode cX8_split 281 = .ok (.iinc 9 1, 3) := by decide +kernel
theorem dX8_split_284 : decode cX8_split 284 = .ok (.goto (-28), 3) := by decide +kernel
theorem dX8_split_287 : decode cX8_split 287 = .ok (.aload_n 0, 1) := by decide +kernel
theorem dX8_split_288 : decode cX8_split 288 = .ok (.getfield 63, 3) := by decide +kernel
theorem dX8_split_291 : decode cX8_split 291 = .ok (.iload_n 1, 1) := by decide +kernel
theorem dX8_split_292 : decode cX8_split 292 = .ok (.aaload, 1) := by decide +kernel
theorem dX8_split_293 : decode cX8_split 293 = .ok (.iconst 2, 1) := by decide +kernel
theorem dX8_split_294 : decode cX8_split 294 = .ok (.iload 8, 2) := by decide +kernel
theorem dX8_split_296 : decode cX8_split 296 = .ok (.imul, 1) := by decide +kernel
theorem dX8_split_297 : decode cX8_split 297 = .ok (.iconst 1, 1) := by decide +kernel
theorem dX8_split_298 : decode cX8_split 298 = .ok (.iadd, 1) := by decide +kernel
theorem dX8_split_299 : decode cX8_split 299 = .ok (.iload_n 2, 1) := by decide +kernel
theorem dX8_split_300 : decode cX8_split 300 = .ok (.iastore, 1) := by decide +kernel
theorem dX8_split_301 : decode cX8_split 301 = .ok (.aload_n 0, 1) := by decide +kernel
theorem dX8_split_302 : decode cX8_split 302 = .ok (.getfield 66, 3) := by decide +kernel
theorem dX8_split_305 : decode cX8_split 305 = .ok (.iload_n 1, 1) := by decide +kernel
theorem dX8_split_306 : decode cX8_split 306 = .ok (.dup2, 1) := by decide +kernel
theorem dX8_split_307 : decode cX8_split 307 = .ok (.iaload, 1) := by decide +kernel
theorem dX8_split_308 : decode cX8_split 308 = .ok (.iconst 1, 1) := by decide +kernel
theorem dX8_split_309 : decode cX8_split 309 = .ok (.iadd, 1) := by decide +kernel
theorem dX8_split_310 : decode cX8_split 310 = .ok (.iastore, 1) := by decide +kernel
theorem dX8_split_311 : decode cX8_split 311 = .ok (.aload_n 0, 1) := by decide +kernel
theorem dX8_split_312 : decode cX8_split 312 = .ok (.getfield 93, 3) := by decide +kernel
theorem dX8_split_315 : decode cX8_split 315 = .ok (.iload 5, 2) := by decide +kernel
theorem dX8_split_317 : decode cX8_split 317 = .ok (.iaload, 1) := by decide +kernel
theorem dX8_split_318 : decode cX8_split 318 = .ok (.iconst 1, 1) := by decide +kernel
theorem dX8_split_319 : decode cX8_split 319 = .ok (.iadd, 1) := by decide +kernel
theorem dX8_split_320 : decode cX8_split 320 = .ok (.istore 4, 2) := by decide +kernel
theorem dX8_split_322 : decode cX8_split 322 = .ok (.iinc 5 1, 3) := by decide +kernel
theorem dX8_split_325 : decode cX8_split 325 = .ok (.goto (-282), 3) := by decide +kernel
theorem dX8_split_328 : decode cX8_split 328 = .ok (.return_, 1) := by decide +kernel
theorem dX8_enter_0 : decode cX8_enter 0 = .ok (.aload_n 0, 1) := by decide +kernel
theorem dX8_enter_1 : decode cX8_enter 1 = .ok (.getfield 139, 3) := by decide +kernel
theorem dX8_enter_4 : decode cX8_enter 4 = .ok (.istore 4, 2) := by decide +kernel
theorem dX8_enter_6 : decode cX8_enter 6 = .ok (.aload_n 0, 1) := by decide +kernel
theorem dX8_enter_7 : decode cX8_enter 7 = .ok (.getfield 24, 3) := by decide +kernel
theorem dX8_enter_10 : decode cX8_enter 10 = .ok (.iload 4, 2) := by decide +kernel
theorem dX8_enter_12 : decode cX8_enter 12 = .ok (.iload_n 1, 1) := by decide +kernel
theorem dX8_enter_13 : decode cX8_enter 13 = .ok (.iastore, 1) := by decide +kernel
theorem dX8_enter_14 : decode cX8_enter 14 = .ok (.aload_n 0, 1) := by decide +kernel
theorem dX8_enter_15 : decode cX8_enter 15 = .ok (.getfield 28, 3) := by decide +kernel
theorem dX8_enter_18 : decode cX8_enter 18 = .ok (.iload 4, 2) := by decide +kernel
theorem dX8_enter_20 : decode cX8_enter 20 = .ok (.iload_n 2, 1) := by decide +kernel
theorem dX8_enter_21 : decode cX8_enter 21 = .ok (.iastore, 1) := by decide +kernel
theorem dX8_enter_22 : decode cX8_enter 22 = .ok (.aload_n 0, 1) := by decide +kernel
theorem dX8_enter_23 : decode cX8_enter 23 = .ok (.getfield 31, 3) := by decide +kernel
theorem dX8_enter_26 : decode cX8_enter 26 = .ok (.iload 4, 2) := by decide +kernel
theorem dX8_enter_28 : decode cX8_enter 28 = .ok (.iload_n 3, 1) := by decide +kernel
theorem dX8_enter_29 : decode cX8_enter 29 = .ok (.iastore, 1) := by decide +kernel
theorem dX8_enter_30 : decode cX8_enter 30 = .ok (.aload_n 0, 1) := by decide +kernel
theorem dX8_enter_31 : decode cX8_enter 31 = .ok (.getfield 34, 3) := by decide +kernel
theorem dX8_enter_34 : decode cX8_enter 34 = .ok (.iload 4, 2) := by decide +kernel
theorem dX8_enter_36 : decode cX8_enter 36 = .ok (.aload_n 0, 1) := by decide +kernel
theorem dX8_enter_37 : decode cX8_enter 37 = .ok (.getfield 186, 3) := by decide +kernel
theorem dX8_enter_40 : decode cX8_enter 40 = .ok (.iastore, 1) := by decide +kernel
theorem dX8_enter_41 : decode cX8_enter 41 = .ok (.aload_n 0, 1) := by decide +kernel
theorem dX8_enter_42 : decode cX8_enter 42 = .ok (.getfield 37, 3) := by decide +kernel
theorem dX8_enter_45 : decode cX8_enter 45 = .ok (.iload 4, 2) := by decide +kernel
theorem dX8_enter_47 : decode cX8_enter 47 = .ok (.aload_n 0, 1) := by decide +kernel
theorem dX8_enter_48 : decode cX8_enter 48 = .ok (.getfield 136, 3) := by decide +kernel
theorem dX8_enter_51 : decode cX8_enter 51 = .ok (.iastore, 1) := by decide +kernel
theorem dX8_enter_52 : decode cX8_enter 52 = .ok (.aload_n 0, 1) := by decide +kernel
theorem dX8_enter_53 : decode cX8_enter 53 = .ok (.getfield 43, 3) := by decide +kernel
theorem dX8_enter_56 : decode cX8_enter 56 = .ok (.iload 4, 2) := by decide +kernel
theorem dX8_enter_58 : decode cX8_enter 58 = .ok (.aload_n 0, 1) := by decide +kernel
theorem dX8_enter_59 : decode cX8_enter 59 = .ok (.getfield 136, 3) := by decide +kernel
theorem dX8_enter_62 : decode cX8_enter 62 = .ok (.iastore, 1) := by decide +kernel
theorem dX8_enter_63 : decode cX8_enter 63 = .ok (.aload_n 0, 1) := by decide +kernel
theorem dX8_enter_64 : decode cX8_enter 64 = .ok (.getfield 52, 3) := by decide +kernel
theorem dX8_enter_67 : decode cX8_enter 67 = .ok (.iload 4, 2) := by decide +kernel
theorem dX8_enter_69 : decode cX8_enter 69 = .ok (.iconst 0, 1) := by decide +kernel
theorem dX8_enter_70 : decode cX8_enter 70 = .ok (.bastore, 1) := by decide +kernel
theorem dX8_enter_71 : decode cX8_enter 71 = .ok (.aload_n 0, 1) := by decide +kernel
theorem dX8_enter_72 : decode cX8_enter 72 = .ok (.dup, 1) := by decide +kernel
theorem dX8_enter_73 : decode cX8_enter 73 = .ok (.getfield 139, 3) := by decide +kernel
theorem dX8_enter_76 : decode cX8_enter 76 = .ok (.iconst 1, 1) := by decide +kernel
theorem dX8_enter_77 : decode cX8_enter 77 = .ok (.iadd, 1) := by decide +kernel
theorem dX8_enter_78 : decode cX8_enter 78 = .ok (.putfield 139, 3) := by decide +kernel
theorem dX8_enter_81 : decode cX8_enter 81 = .ok (.return_, 1) := by decide +kernel
theorem dX8_goBehind_0 : decode cX8_goBehind 0 = .ok (.aload_n 0, 1) := by decide +kernel
theorem dX8_goBehind_1 : decode cX8_goBehind 1 = .ok (.aload_n 0, 1) := by decide +kernel
theorem dX8_goBehind_2 : decode cX8_goBehind 2 = .ok (.getfield 180, 3) := by decide +kernel
theorem dX8_goBehind_5 : decode cX8_goBehind 5 = .ok (.putfield 186, 3) := by decide +kernel
theorem dX8_goBehind_8 : decode cX8_goBehind 8 = .ok (.aload_n 0, 1) := by decide +kernel
theorem dX8_goBehind_9 : decode cX8_goBehind 9 = .ok (.aload_n 0, 1) := by decide +kernel
theorem dX8_goBehind_10 : decode cX8_goBehind 10 = .ok (.getfield 174, 3) := by decide +kernel
theorem dX8_goBehind_13 : decode cX8_goBehind 13 = .ok (.putfield 136, 3) := by decide +kernel
theorem dX8_goBehind_16 : decode cX8_goBehind 16 = .ok (.return_, 1) := by decide +kernel
theorem dX8_call_0 : decode cX8_call 0 = .ok (.aload_n 0, 1) := by decide +kernel
theorem dX8_call_1 : decode cX8_call 1 = .ok (.bipush 6, 2) := by decide +kernel
theorem dX8_call_3 : decode cX8_call 3 = .ok (.aload_n 0, 1) := by decide +kernel
theorem dX8_call_4 : decode cX8_call 4 = .ok (.getfield 84, 3) := by decide +kernel
theorem dX8_call_7 : decode cX8_call 7 = .ok (.iload_n 1, 1) := by decide +kernel
theorem dX8_call_8 : decode cX8_call 8 = .ok (.iaload, 1) := by decide +kernel
theorem dX8_call_9 : decode cX8_call 9 = .ok (.aload_n 0, 1) := by decide +kernel
theorem dX8_call_10 : decode cX8_call 10 = .ok (.getfield 87, 3) := by decide +kernel
theorem dX8_call_13 : decode cX8_call 13 = .ok (.iload_n 1, 1) := by decide +kernel
theorem dX8_call_14 : decode cX8_call 14 = .ok (.iaload, 1) := by decide +kernel
theorem dX8_call_15 : decode cX8_call 15 = .ok (.invokevirtual 265, 3) := by decide +kernel
theorem dX8_call_18 : decode cX8_call 18 = .ok (.aload_n 0, 1) := by decide +kernel
theorem dX8_call_19 : decode cX8_call 19 = .ok (.getfield 139, 3) := by decide +kernel
theorem dX8_call_22 : decode cX8_call 22 = .ok (.iconst 1, 1) := by decide +kernel
theorem dX8_call_23 : decode cX8_call 23 = .ok (.isub, 1) := by decide +kernel
theorem dX8_call_24 : decode cX8_call 24 = .ok (.istore_n 2, 1) := by decide +kernel
theorem dX8_call_25 : decode cX8_call 25 = .ok (.aload_n 0, 1) := by decide +kernel
theorem dX8_call_26 : decode cX8_call 26 = .ok (.getfield 46, 3) := by decide +kernel
theorem dX8_call_29 : decode cX8_call 29 = .ok (.iload_n 2, 1) := by decide +kernel
theorem dX8_call_30 : decode cX8_call 30 = .ok (.iload_n 1, 1) := by decide +kernel
theorem dX8_call_31 : decode cX8_call 31 = .ok (.iastore, 1) := by decide +kernel
theorem dX8_call_32 : decode cX8_call 32 = .ok (.aload_n 0, 1) := by decide +kernel
theorem dX8_call_33 : decode cX8_call 33 = .ok (.getfield 49, 3) := by decide +kernel
theorem dX8_call_36 : decode cX8_call 36 = .ok (.iload_n 2, 1) := by decide +kernel
theorem dX8_call_37 : decode cX8_call 37 = .ok (.aload_n 0, 1) := by decide +kernel
theorem dX8_call_38 : decode cX8_call 38 = .ok (.getfield 269, 3) := by decide +kernel
theorem dX8_call_41 : decode cX8_call 41 = .ok (.iastore, 1) := by decide +kernel
theorem dX8_call_42 : decode cX8_call 42 = .ok (.aload_n 0, 1) := by decide +kernel
theorem dX8_call_43 : decode cX8_call 43 = .ok (.getfield 40, 3) := by decide +kernel
theorem dX8_call_46 : decode cX8_call 46 = .ok (.iload_n 2, 1) := by decide +kernel
theorem dX8_call_47 : decode cX8_call 47 = .ok (.iconst 1, 1) := by decide +kernel
theorem dX8_call_48 : decode cX8_call 48 = .ok (.iastore, 1) := by decide +kernel
theorem dX8_call_49 : decode cX8_call 49 = .ok (.aload_n 0, 1) := by decide +kernel
theorem dX8_call_50 : decode cX8_call 50 = .ok (.dup, 1) := by decide +kernel
theorem dX8_call_51 : decode cX8_call 51 = .ok (.getfield 269, 3) := by decide +kernel
theorem dX8_call_54 : decode cX8_call 54 = .ok (.iconst 1, 1) := by decide +kernel
theorem dX8_call_55 : decode cX8_call 55 = .ok (.iadd, 1) := by decide +kernel
theorem dX8_call_56 : decode cX8_call 56 = .ok (.putfield 269, 3) := by decide +kernel
theorem dX8_call_59 : decode cX8_call 59 = .ok (.aload_n 0, 1) := by decide +kernel
theorem dX8_call_60 : decode cX8_call 60 = .ok (.aload_n 0, 1) := by decide +kernel
theorem dX8_call_61 : decode cX8_call 61 = .ok (.getfield 78, 3) := by decide +kernel
theorem dX8_call_64 : decode cX8_call 64 = .ok (.iload_n 1, 1) := by decide +kernel
theorem dX8_call_65 : decode cX8_call 65 = .ok (.iaload, 1) := by decide +kernel
theorem dX8_call_66 : decode cX8_call 66 = .ok (.putfield 186, 3) := by decide +kernel
theorem dX8_call_69 : decode cX8_call 69 = .ok (.aload_n 0, 1) := by decide +kernel
theorem dX8_call_70 : decode cX8_call 70 = .ok (.aload_n 0, 1) := by decide +kernel
theorem dX8_call_71 : decode cX8_call 71 = .ok (.getfield 81, 3) := by decide +kernel
theorem dX8_call_74 : decode cX8_call 74 = .ok (.iload_n 1, 1) := by decide +kernel
theorem dX8_call_75 : decode cX8_call 75 = .ok (.iaload, 1) := by decide +kernel
theorem dX8_call_76 : decode cX8_call 76 = .ok (.putfield 136, 3) := by decide +kernel
theorem dX8_call_79 : decode cX8_call 79 = .ok (.return_, 1) := by decide +kernel
theorem dX8_structure_0 : decode cX8_structure 0 = .ok (.aload_n 0, 1) := by decide +kernel
theorem dX8_structure_1 : decode cX8_structure 1 = .ok (.invokevirtual 183, 3) := by decide +kernel
theorem dX8_structure_4 : decode cX8_structure 4 = .ok (.istore_n 2, 1) := by decide +kernel
theorem dX8_structure_5 : decode cX8_structure 5 = .ok (.iload_n 2, 1) := by decide +kernel
theorem dX8_structure_6 : decode cX8_structure 6 = .ok (.ifCond .lt 12, 3) := by decide +kernel
theorem dX8_structure_9 : decode cX8_structure 9 = .ok (.aload_n 0, 1) := by decide +kernel
theorem dX8_structure_10 : decode cX8_structure 10 = .ok (.getfield 28, 3) := by decide +kernel
theorem dX8_structure_13 : decode cX8_structure 13 = .ok (.iload_n 2, 1) := by decide +kernel
theorem dX8_structure_14 : decode cX8_structure 14 = .ok (.iaload, 1) := by decide +kernel
theorem dX8_structure_15 : decode cX8_structure 15 = .ok (.goto 7, 3) := by decide +kernel
theorem dX8_structure_18 : decode cX8_structure 18 = .ok (.aload_n 0, 1) := by decide +kernel
theorem dX8_structure_19 : decode cX8_structure 19 = .ok (.getfield 160, 3) := by decide +kernel
theorem dX8_structure_22 : decode cX8_structure 22 = .ok (.istore_n 3, 1) := by decide +kernel
theorem dX8_structure_23 : decode cX8_structure 23 = .ok (.iload_n 1, 1) := by decide +kernel
theorem dX8_structure_24 : decode cX8_structure 24 = .ok (.bipush 6, 2) := by decide +kernel
theorem dX8_structure_26 : decode cX8_structure 26 = .ok (.if_icmp .ne 8, 3) := by decide +kernel
theorem dX8_structure_29 : decode cX8_structure 29 = .ok (.aload_n 0, 1) := by decide +kernel
theorem dX8_structure_30 : decode cX8_structure 30 = .ok (.invokevirtual 272, 3) := by decide +kernel
theorem dX8_structure_33 : decode cX8_structure 33 = .ok (.return_, 1) := by decide +kernel
theorem dX8_structure_34 : decode cX8_structure 34 = .ok (.iload_n 1, 1) := by decide +kernel
theorem dX8_structure_35 : decode cX8_structure 35 = .ok (.iconst 2, 1) := by decide +kernel
theorem dX8_structure_36 : decode cX8_structure 36 = .ok (.if_icmp .eq 8, 3) := by decide +kernel
theorem dX8_structure_39 : decode cX8_structure 39 = .ok (.iload_n 1, 1) := by decide +kernel
theorem dX8_structure_40 : decode cX8_structure 40 = .ok (.iconst 3, 1) := by decide +kernel
theorem dX8_structure_41 : decode cX8_structure 41 = .ok (.if_icmp .ne 7, 3) := by decide +kernel
theorem dX8_structure_44 : decode cX8_structure 44 = .ok (.iconst 1, 1) := by decide +kernel
theorem dX8_structure_45 : decode cX8_structure 45 = .ok (.goto 4, 3) := by decide +kernel
theorem dX8_structure_48 : decode cX8_structure 48 = .ok (.iconst 0, 1) := by decide +kernel
theorem dX8_structure_49 : decode cX8_structure 49 = .ok (.istore 4, 2) := by decide +kernel
theorem dX8_structure_51 : decode cX8_structure 51 = .ok (.iload 4, 2) := by decide +kernel
theorem dX8_structure_53 : decode cX8_structure 53 = .ok (.ifCond .eq 14, 3) := by decide +kernel
theorem dX8_structure_56 : decode cX8_structure 56 = .ok (.aload_n 0, 1) := by decide +kernel
theorem dX8_structure_57 : decode cX8_structure 57 = .ok (.getfield 215, 3) := by decide +kernel
theorem dX8_structure_60 : decode cX8_structure 60 = .ok (.iconst 1, 1) := by decide +kernel
theorem dX8_structure_61 : decode cX8_structure 61 = .ok (.if_icmp .le 29, 3) := by decide +kernel
theorem dX8_structure_64 : decode cX8_structure 64 = .ok (.goto 21, 3) := by decide +kernel
theorem dX8_structure_67 : decode cX8_structure 67 = .ok (.aload_n 0, 1) := by decide +kernel
theorem dX8_structure_68 : decode cX8_structure 68 = .ok (.getfield 215, 3) := by decide +kernel
theorem dX8_structure_71 : decode cX8_structure 71 = .ok (.iconst 2, 1) := by decide +kernel
theorem dX8_structure_72 : decode cX8_structure 72 = .ok (.if_icmp .ne 13, 3) := by decide +kernel
theorem dX8_structure_75 : decode cX8_structure 75 = .ok (.aload_n 0, 1) := by decide +kernel
theorem dX8_structure_76 : decode cX8_structure 76 = .ok (.getfield 90, 3) := by decide +kernel
theorem dX8_structure_79 : decode cX8_structure 79 = .ok (.iconst 1, 1) := by decide +kernel
theorem dX8_structure_80 : decode cX8_structure 80 = .ok (.iaload, 1) := by decide +kernel
theorem dX8_structure_81 : decode cX8_structure 81 = .ok (.iconst 2, 1) := by decide +kernel
theorem dX8_structure_82 : decode cX8_structure 82 = .ok (.if_icmp .eq 8, 3) := by decide +kernel
theorem dX8_structure_85 : decode cX8_structure 85 = .ok (.aload_n 0, 1) := by decide +kernel
theorem dX8_structure_86 : decode cX8_structure 86 = .ok (.iconst 1, 1) := by decide +kernel
theorem dX8_structure_87 : decode cX8_structure 87 = .ok (.invokevirtual 189, 3) := by decide +kernel
theorem dX8_structure_90 : decode cX8_structure 90 = .ok (.aload_n 0, 1) := by decide +kernel
theorem dX8_structure_91 : decode cX8_structure 91 = .ok (.getfield 142, 3) := by decide +kernel
theorem dX8_structure_94 : decode cX8_structure 94 = .ok (.ifCond .eq 4, 3) := by decide +kernel
theorem dX8_structure_97 : decode cX8_structure 97 = .ok (.return_, 1) := by decide +kernel
theorem dX8_structure_98 : decode cX8_structure 98 = .ok (.iload 4, 2) := by decide +kernel
theorem dX8_structure_100 : decode cX8_structure 100 = .ok (.ifCond .eq 77, 3) := by decide +kernel
theorem dX8_structure_103 : decode cX8_structure 103 = .ok (.iload_n 1, 1) := by decide +kernel
theorem dX8_structure_104 : decode cX8_structure 104 = .ok (.iconst 3, 1) := by decide +kernel
theorem dX8_structure_105 : decode cX8_structure 105 = .ok (.if_icmp .eq 24, 3) := by decide +kernel
theorem dX8_structure_108 : decode cX8_structure 108 = .ok (.aload_n 0, 1) := by decide +kernel
theorem dX8_structure_109 : decode cX8_structure 109 = .ok (.aload_n 0, 1) := by decide +kernel
theorem dX8_structure_110 : decode cX8_structure 110 = .ok (.getfield 186, 3) := by decide +kernel
theorem dX8_structure_113 : decode cX8_structure 113 = .ok (.aload_n 0, 1) := by decide +kernel
theorem dX8_structure_114 : decode cX8_structure 114 = .ok (.getfield 136, 3) := by decide +kernel
theorem dX8_structure_117 : decode cX8_structure 117 = .ok (.iconst 1, 1) := by decide +kernel
theorem dX8_structure_118 : decode cX8_structure 118 = .ok (.iadd, 1) := by decide +kernel
theorem dX8_structure_119 : decode cX8_structure 119 = .ok (.iload_n 3, 1) := by decide +kernel
theorem dX8_structure_120 : decode cX8_structure 120 = .ok (.iconst 1, 1) := by decide +kernel
theorem dX8_structure_121 : decode cX8_structure 121 = .ok (.iconst 3, 1) := by decide +kernel
theorem dX8_structure_122 : decode cX8_structure 122 = .ok (.iconst 0, 1) := by decide +kernel
theorem dX8_structure_123 : decode cX8_structure 123 = .ok (.invokevirtual 251, 3) := by decide +kernel
theorem dX8_structure_126 : decode cX8_structure 126 = .ok (.ifCond .eq 7, 3) := by decide +kernel
theorem dX8_structure_129 : decode cX8_structure 129 = .ok (.iconst 1, 1) := by decide +kernel
theorem dX8_structure_130 : decode cX8_structure 130 = .ok (.goto 4, 3) := by decide +kernel
theorem dX8_structure_133 : decode cX8_structure 133 = .ok (.iconst 0, 1) := by decide +kernel
theorem dX8_structure_134 : decode cX8_structure 134 = .ok (.istore 5, 2) := by decide +kernel
theorem dX8_structure_136 : decode cX8_structure 136 = .ok (.iload 5, 2) := by decide +kernel
theorem dX8_structure_138 : decode cX8_structure 138 = .ok (.ifCond .eq 16, 3) := by decide +kernel
theorem dX8_structure_141 : decode cX8_structure 141 = .ok (.aload_n 0, 1) := by decide +kernel
theorem dX8_structure_142 : decode cX8_structure 142 = .ok (.dup, 1) := by decide +kernel
theorem dX8_structure_143 : decode cX8_structure 143 = .ok (.getfield 139, 3) := by decide +kernel
theorem dX8_structure_146 : decode cX8_structure 146 = .ok (.iconst 1, 1) := by decide +kernel
theorem dX8_structure_147 : decode cX8_structure 147 = .ok (.isub, 1) := by decide +kernel
theorem dX8_structure_148 : decode cX8_structure 148 = .ok (.putfield 139, 3) := by decide +kernel
theorem dX8_structure_151 : decode cX8_structure 151 = .ok (.goto 11, 3) := by decide +kernel
theorem dX8_structure_154 : decode cX8_structure 154 = .ok (.aload_n 0, 1) := by decide +kernel
theorem dX8_structure_155 : decode cX8_structure 155 = .ok (.aload_n 0, 1) := by decide +kernel
theorem dX8_structure_156 : decode cX8_structure 156 = .ok (.getfield 160, 3) := by decide +kernel
theorem dX8_structure_159 : decode cX8_structure 159 = .ok (.putfield 186, 3) := by decide +kernel
theorem dX8_structure_162 : decode cX8_structure 162 = .ok (.iload 5, 2) := by decide +kernel
theorem dX8_structure_164 : decode cX8_structure 164 = .ok (.ifCond .eq 12, 3) := by decide +kernel
theorem dX8_structure_167 : decode cX8_structure 167 = .ok (.iload_n 1, 1) := by decide +kernel
theorem dX8_structure_168 : decode cX8_structure 168 = .ok (.iconst 2, 1) := by decide +kernel
theorem dX8_structure_169 : decode cX8_structure 169 = .ok (.if_icmp .ne 7, 3) := by decide +kernel
theorem dX8_structure_172 : decode cX8_structure 172 = .ok (.aload_n 0, 1) := by decide +kernel
theorem dX8_structure_173 : decode cX8_structure 173 = .ok (.invokevirtual 275, 3) := by decide +kernel
theorem dX8_structure_176 : decode cX8_structure 176 = .ok (.return_, 1) := by decide +kernel
theorem dX8_structure_177 : decode cX8_structure 177 = .ok (.aload_n 0, 1) := by decide +kernel
theorem dX8_structure_178 : decode cX8_structure 178 = .ok (.getfield 99, 3) := by decide +kernel
theorem dX8_structure_181 : decode cX8_structure 181 = .ok (.iconst 1, 1) := by decide +kernel
theorem dX8_structure_182 : decode cX8_structure 182 = .ok (.laload, 1) := by decide +kernel
theorem dX8_structure_183 : decode cX8_structure 183 = .ok (.lstore 5, 2) := by decide +kernel
theorem dX8_structure_185 : decode cX8_structure 185 = .ok (.iload_n 1, 1) := by decide +kernel
theorem dX8_structure_186 : decode cX8_structure 186 = .ok (.iconst 4, 1) := by decide +kernel
theorem dX8_structure_187 : decode cX8_structure 187 = .ok (.if_icmp .ne 26, 3) := by decide +kernel
theorem dX8_structure_190 : decode cX8_structure 190 = .ok (.lload 5, 2) := by decide +kernel
theorem dX8_structure_192 : decode cX8_structure 192 = .ok (.lconst 0, 1) := by decide +kernel
theorem dX8_structure_193 : decode cX8_structure 193 = .ok (.lcmp, 1) := by decide +kernel
theorem dX8_structure_194 : decode cX8_structure 194 = .ok (.ifCond .lt 12, 3) := by decide +kernel
theorem dX8_structure_197 : decode cX8_structure 197 = .ok (.lload 5, 2) := by decide +kernel
theorem dX8_structure_199 : decode cX8_structure 199 = .ok (.ldc2_w 278, 3) := by decide +kernel
theorem dX8_structure_202 : decode cX8_structure 202 = .ok (.lcmp, 1) := by decide +kernel
theorem dX8_structure_203 : decode cX8_structure 203 = .ok (.ifCond .le 10, 3) := by decide +kernel
theorem dX8_structure_206 : decode cX8_structure 206 = .ok (.aload_n 0, 1) := by decide +kernel
theorem dX8_structure_207 : decode cX8_structure 207 = .ok (.bipush 7, 2) := by decide +kernel
theorem dX8_structure_209 : decode cX8_structure 209 = .ok (.invokevirtual 189, 3) := by decide +kernel
theorem dX8_structure_212 : decode cX8_structure 212 = .ok (.return_, 1) := by decide +kernel
theorem dX8_structure_213 : decode cX8_structure 213 = .ok (.iload_n 1, 1) := by decide +kernel
theorem dX8_structure_214 : decode cX8_structure 214 = .ok (.iconst 1, 1) := by decide +kernel
theorem dX8_structure_215 : decode cX8_structure 215 = .ok (.if_icmp .ne 18, 3) := by decide +kernel
theorem dX8_structure_218 : decode cX8_structure 218 = .ok (.lload 5, 2) := by decide +kernel
theorem dX8_structure_220 : decode cX8_structure 220 = .ok (.lconst 0, 1) := by decide +kernel
theorem dX8_structure_221 : decode cX8_structure 221 = .ok (.lcmp, 1) := by decide +kernel
theorem dX8_structure_222 : decode cX8_structure 222 = .ok (.ifCond .eq 11, 3) := by decide +kernel
theorem dX8_structure_225 : decode cX8_structure 225 = .ok (.aload_n 0, 1) := by decide +kernel
theorem dX8_structure_226 : decode cX8_structure 226 = .ok (.iconst 1, 1) := by decide +kernel
theorem dX8_structure_227 : decode cX8_structure 227 = .ok (.iconst 0, 1) := by decide +kernel
theorem dX8_structure_228 : decode cX8_structure 228 = .ok (.iconst 0, 1) := by decide +kernel
theorem dX8_structure_229 : decode cX8_structure 229 = .ok (.invokevirtual 265, 3) := by decide +kernel
theorem dX8_structure_232 : decode cX8_structure 232 = .ok (.return_, 1) := by decide +kernel
theorem dX8_structure_233 : decode cX8_structure 233 = .ok (.aload_n 0, 1) := by decide +kernel
theorem dX8_structure_234 : decode cX8_structure 234 = .ok (.aload_n 0, 1) := by decide +kernel
theorem dX8_structure_235 : decode cX8_structure 235 = .ok (.getfield 186, 3) := by decide +kernel
theorem dX8_structure_238 : decode cX8_structure 238 = .ok (.aload_n 0, 1) := by decide +kernel
theorem dX8_structure_239 : decode cX8_structure 239 = .ok (.getfield 136, 3) := by decide +kernel
theorem dX8_structure_242 : decode cX8_structure 242 = .ok (.iconst 1, 1) := by decide +kernel
theorem dX8_structure_243 : decode cX8_structure 243 = .ok (.iadd, 1) := by decide +kernel
theorem dX8_structure_244 : decode cX8_structure 244 = .ok (.iload_n 3, 1) := by decide +kernel
theorem dX8_structure_245 : decode cX8_structure 245 = .ok (.iload_n 1, 1) := by decide +kernel
theorem dX8_structure_246 : decode cX8_structure 246 = .ok (.iload_n 1, 1) := by decide +kernel
theorem dX8_structure_247 : decode cX8_structure 247 = .ok (.iconst 1, 1) := by decide +kernel
theorem dX8_structure_248 : decode cX8_structure 248 = .ok (.if_icmp .ne 7, 3) := by decide +kernel
theorem dX8_structure_251 : decode cX8_structure 251 = .ok (.iconst 3, 1) := by decide +kernel
theorem dX8_structure_252 : decode cX8_structure 252 = .ok (.goto 4, 3) := by decide +kernel
theorem dX8_structure_255 : decode cX8_structure 255 = .ok (.iconst 5, 1) := by decide +kernel
theorem dX8_structure_256 : decode cX8_structure 256 = .ok (.iload_n 1, 1) := by decide +kernel
theorem dX8_structure_257 : decode cX8_structure 257 = .ok (.iconst 1, 1) := by decide +kernel
theorem dX8_structure_258 : decode cX8_structure 258 = .ok (.if_icmp .ne 7, 3) := by decide +kernel
theorem dX8_structure_261 : decode cX8_structure 261 = .ok (.iconst 1, 1) := by decide +kernel
theorem dX8_structure_262 : decode cX8_structure 262 = .ok (.goto 4, 3) := by decide +kernel
theorem dX8_structure_265 : decode cX8_structure 265 = .ok (.iconst 0, 1) := by decide +kernel
theorem dX8_structure_266 : decode cX8_structure 266 = .ok (.invokevirtual 251, 3) := by decide +kernel
theorem dX8_structure_269 : decode cX8_structure 269 = .ok (.istore 7, 2) := by decide +kernel
theorem dX8_structure_271 : decode cX8_structure 271 = .ok (.iload 7, 2) := by decide +kernel
theorem dX8_structure_273 : decode cX8_structure 273 = .ok (.ifCond .ne 19, 3) := by decide +kernel
theorem dX8_structure_276 : decode cX8_structure 276 = .ok (.aload_n 0, 1) := by decide +kernel
theorem dX8_structure_277 : decode cX8_structure 277 = .ok (.iconst 1, 1) := by decide +kernel
theorem dX8_structure_278 : decode cX8_structure 278 = .ok (.putfield 280, 3) := by decide +kernel
theorem dX8_structure_281 : decode cX8_structure 281 = .ok (.aload_n 0, 1) := by decide +kernel
theorem dX8_structure_282 : decode cX8_structure 282 = .ok (.aload_n 0, 1) := by decide +kernel
theorem dX8_structure_283 : decode cX8_structure 283 = .ok (.getfield 160, 3) := by decide +kernel
theorem dX8_structure_286 : decode cX8_structure 286 = .ok (.putfield 186, 3) := by decide +kernel
theorem dX8_structure_289 : decode cX8_structure 289 = .ok (.goto 93, 3) := by decide +kernel
theorem dX8_structure_292 : decode cX8_structure 292 = .ok (.iload_n 1, 1) := by decide +kernel
theorem dX8_structure_293 : decode cX8_structure 293 = .ok (.iconst 4, 1) := by decide +kernel
theorem dX8_structure_294 : decode cX8_structure 294 = .ok (.if_icmp .ne 40, 3) := by decide +kernel
theorem dX8_structure_297 : decode cX8_structure 297 = .ok (.lload 5, 2) := by decide +kernel
theorem dX8_structure_299 : decode cX8_structure 299 = .ok (.lconst 0, 1) := by decide +kernel
theorem dX8_structure_300 : decode cX8_structure 300 = .ok (.lcmp, 1) := by decide +kernel
theorem dX8_structure_301 : decode cX8_structure 301 = .ok (.ifCond .le 33, 3) := by decide +kernel
theorem dX8_structure_304 : decode cX8_structure 304 = .ok (.aload_n 0, 1) := by decide +kernel
theorem dX8_structure_305 : decode cX8_structure 305 = .ok (.iconst 4, 1) := by decide +kernel
theorem dX8_structure_306 : decode cX8_structure 306 = .ok (.aload_n 0, 1) := by decide +kernel
theorem dX8_structure_307 : decode cX8_structure 307 = .ok (.getfield 171, 3) := by decide +kernel
theorem dX8_structure_310 : decode cX8_structure 310 = .ok (.aload_n 0, 1) := by decide +kernel
theorem dX8_structure_311 : decode cX8_structure 311 = .ok (.getfield 174, 3) := by decide +kernel
theorem dX8_structure_314 : decode cX8_structure 314 = .ok (.invokevirtual 265, 3) := by decide +kernel
theorem dX8_structure_317 : decode cX8_structure 317 = .ok (.aload_n 0, 1) := by decide +kernel
theorem dX8_structure_318 : decode cX8_structure 318 = .ok (.getfield 40, 3) := by decide +kernel
theorem dX8_structure_321 : decode cX8_structure 321 = .ok (.aload_n 0, 1) := by decide +kernel
theorem dX8_structure_322 : decode cX8_structure 322 = .ok (.getfield 139, 3) := by decide +kernel
theorem dX8_structure_325 : decode cX8_structure 325 = .ok (.iconst 1, 1) := by decide +kernel
theorem dX8_structure_326 : decode cX8_structure 326 = .ok (.isub, 1) := by decide +kernel
theorem dX8_structure_327 : decode cX8_structure 327 = .ok (.lload 5, 2) := by decide +kernel
theorem dX8_structure_329 : decode cX8_structure 329 = .ok (.l2i, 1) := by decide +kernel
theorem dX8_structure_330 : decode cX8_structure 330 = .ok (.iastore, 1) := by decide +kernel
theorem dX8_structure_331 : decode cX8_structure 331 = .ok (.goto 51, 3) := by decide +kernel
theorem dX8_structure_334 : decode cX8_structure 334 = .ok (.aload_n 0, 1) := by decide +kernel
theorem dX8_structure_335 : decode cX8_structure 335 = .ok (.getfield 177, 3) := by decide +kernel
theorem dX8_structure_338 : decode cX8_structure 338 = .ok (.iconst 2, 1) := by decide +kernel
theorem dX8_structure_339 : decode cX8_structure 339 = .ok (.if_icmp .ne 7, 3) := by decide +kernel
theorem dX8_structure_342 : decode cX8_structure 342 = .ok (.iconst 1, 1) := by decide +kernel
theorem dX8_structure_343 : decode cX8_structure 343 = .ok (.goto 4, 3) := by decide +kernel
theorem dX8_structure_346 : decode cX8_structure 346 = .ok (.iconst 0, 1) := by decide +kernel
theorem dX8_structure_347 : decode cX8_structure 347 = .ok (.istore 8, 2) := by decide +kernel
theorem dX8_structure_349 : decode cX8_structure 349 = .ok (.aload_n 0, 1) := by decide +kernel
theorem dX8_structure_350 : decode cX8_structure 350 = .ok (.invokevirtual 275, 3) := by decide +kernel
theorem dX8_structure_353 : decode cX8_structure 353 = .ok (.iload 8, 2) := by decide +kernel
theorem dX8_structure_355 : decode cX8_structure 355 = .ok (.ifCond .eq 10, 3) := by decide +kernel
theorem dX8_structure_358 : decode cX8_structure 358 = .ok (.aload_n 0, 1) := by decide +kernel
theorem dX8_structure_359 : decode cX8_structure 359 = .ok (.iconst 1, 1) := by decide +kernel
theorem dX8_structure_360 : decode cX8_structure 360 = .ok (.iconst 0, 1) := by decide +kernel
theorem dX8_structure_361 : decode cX8_structure 361 = .ok (.iconst 0, 1) := by decide +kernel
theorem dX8_structure_362 : decode cX8_structure 362 = .ok (.invokevirtual 265, 3) := by decide +kernel
theorem dX8_structure_365 : decode cX8_structure 365 = .ok (.iload 8, 2) := by decide +kernel
theorem dX8_structure_367 : decode cX8_structure 367 = .ok (.ifCond .eq 15, 3) := by decide +kernel
theorem dX8_structure_370 : decode cX8_structure 370 = .ok (.aload_n 0, 1) := by decide +kernel
theorem dX8_structure_371 : decode cX8_structure 371 = .ok (.getfield 52, 3) := by decide +kernel
theorem dX8_structure_374 : decode cX8_structure 374 = .ok (.aload_n 0, 1) := by decide +kernel
theorem dX8_structure_375 : decode cX8_structure 375 = .ok (.getfield 139, 3) := by decide +kernel
theorem dX8_structure_378 : decode cX8_structure 378 = .ok (.iconst 1, 1) := by decide +kernel
theorem dX8_structure_379 : decode cX8_structure 379 = .ok (.isub, 1) := by decide +kernel
theorem dX8_structure_380 : decode cX8_structure 380 = .ok (.iconst 1, 1) := by decide +kernel
theorem dX8_structure_381 : decode cX8_structure 381 = .ok (.bastore, 1) := by decide +kernel
theorem dX8_structure_382 : decode cX8_structure 382 = .ok (.return_, 1) := by decide +kernel
theorem dX8_macro_0 : decode cX8_macro 0 = .ok (.aload_n 0, 1) := by decide +kernel
theorem dX8_macro_1 : decode cX8_macro 1 = .ok (.iconst 1, 1) := by decide +kernel
theorem dX8_macro_2 : decode cX8_macro 2 = .ok (.invokevirtual 248, 3) := by decide +kernel
theorem dX8_macro_5 : decode cX8_macro 5 = .ok (.ifCond .eq 29, 3) := by decide +kernel
theorem dX8_macro_8 : decode cX8_macro 8 = .ok (.aload_n 0, 1) := by decide +kernel
theorem dX8_macro_9 : decode cX8_macro 9 = .ok (.getfield 99, 3) := by decide +kernel
theorem dX8_macro_12 : decode cX8_macro 12 = .ok (.iconst 1, 1) := by decide +kernel
theorem dX8_macro_13 : decode cX8_macro 13 = .ok (.laload, 1) := by decide +kernel
theorem dX8_macro_14 : decode cX8_macro 14 = .ok (.invokestatic 156, 3) := by decide +kernel
theorem dX8_macro_17 : decode cX8_macro 17 = .ok (.iconst (-1), 1) := by decide +kernel
theorem dX8_macro_18 : decode cX8_macro 18 = .ok (.if_icmp .ne 11, 3) := by decide +kernel
theorem dX8_macro_21 : decode cX8_macro 21 = .ok (.aload_n 0, 1) := by decide +kernel
theorem dX8_macro_22 : decode cX8_macro 22 = .ok (.iconst 1, 1) := by decide +kernel
theorem dX8_macro_23 : decode cX8_macro 23 = .ok (.invokevirtual 283, 3) := by decide +kernel
theorem dX8_macro_26 : decode cX8_macro 26 = .ok (.ifCond .lt 8, 3) := by decide +kernel
theorem dX8_macro_29 : decode cX8_macro 29 = .ok (.aload_n 0, 1) := by decide +kernel
theorem dX8_macro_30 : decode cX8_macro 30 = .ok (.iconst 3, 1) := by decide +kernel
theorem dX8_macro_31 : decode cX8_macro 31 = .ok (.invokevirtual 189, 3) := by decide +kernel
theorem dX8_macro_34 : decode cX8_macro 34 = .ok (.iconst 2, 1) := by decide +kernel
theorem dX8_macro_35 : decode cX8_macro 35 = .ok (.istore_n 1, 1) := by decide +kernel
theorem dX8_macro_36 : decode cX8_macro 36 = .ok (.aload_n 0, 1) := by decide +kernel
theorem dX8_macro_37 : decode cX8_macro 37 = .ok (.iconst 1, 1) := by decide +kernel
theorem dX8_macro_38 : decode cX8_macro 38 = .ok (.invokevirtual 248, 3) := by decide +kernel
theorem dX8_macro_41 : decode cX8_macro 41 = .ok (.istore_n 2, 1) := by decide +kernel
theorem dX8_macro_42 : decode cX8_macro 42 = .ok (.iload_n 2, 1) := by decide +kernel
theorem dX8_macro_43 : decode cX8_macro 43 = .ok (.ifCond .eq 63, 3) := by decide +kernel
theorem dX8_macro_46 : decode cX8_macro 46 = .ok (.iload_n 1, 1) := by decide +kernel
theorem dX8_macro_47 : decode cX8_macro 47 = .ok (.aload_n 0, 1) := by decide +kernel
theorem dX8_macro_48 : decode cX8_macro 48 = .ok (.getfield 215, 3) := by decide +kernel
theorem dX8_macro_51 : decode cX8_macro 51 = .ok (.if_icmp .ge 55, 3) := by decide +kernel
theorem dX8_macro_54 : decode cX8_macro 54 = .ok (.aload_n 0, 1) := by decide +kernel
theorem dX8_macro_55 : decode cX8_macro 55 = .ok (.iload_n 1, 1) := by decide +kernel
theorem dX8_macro_56 : decode cX8_macro 56 = .ok (.invokevirtual 248, 3) := by decide +kernel
theorem dX8_macro_59 : decode cX8_macro 59 = .ok (.ifCond .eq 39, 3) := by decide +kernel
theorem dX8_macro_62 : decode cX8_macro 62 = .ok (.iload_n 1, 1) := by decide +kernel
theorem dX8_macro_63 : decode cX8_macro 63 = .ok (.iconst 1, 1) := by decide +kernel
theorem dX8_macro_64 : decode cX8_macro 64 = .ok (.iadd, 1) := by decide +kernel
theorem dX8_macro_65 : decode cX8_macro 65 = .ok (.aload_n 0, 1) := by decide +kernel
theorem dX8_macro_66 : decode cX8_macro 66 = .ok (.getfield 215, 3) := by decide +kernel
theorem dX8_macro_69 : decode cX8_macro 69 = .ok (.if_icmp .eq 25, 3) := by decide +kernel
theorem dX8_macro_72 : decode cX8_macro 72 = .ok (.aload_n 0, 1) := by decide +kernel
theorem dX8_macro_73 : decode cX8_macro 73 = .ok (.iload_n 1, 1) := by decide +kernel
theorem dX8_macro_74 : decode cX8_macro 74 = .ok (.iconst 1, 1) := by decide +kernel
theorem dX8_macro_75 : decode cX8_macro 75 = .ok (.iadd, 1) := by decide +kernel
theorem dX8_macro_76 : decode cX8_macro 76 = .ok (.bipush 44, 2) := by decide +kernel
theorem dX8_macro_78 : decode cX8_macro 78 = .ok (.invokevirtual 261, 3) := by decide +kernel
theorem dX8_macro_81 : decode cX8_macro 81 = .ok (.ifCond .eq 17, 3) := by decide +kernel
theorem dX8_macro_84 : decode cX8_macro 84 = .ok (.iload_n 1, 1) := by decide +kernel
theorem dX8_macro_85 : decode cX8_macro 85 = .ok (.iconst 2, 1) := by decide +kernel
theorem dX8_macro_86 : decode cX8_macro 86 = .ok (.iadd, 1) := by decide +kernel
theorem dX8_macro_87 : decode cX8_macro 87 = .ok (.aload_n 0, 1) := by decide +kernel
theorem dX8_macro_88 : decode cX8_macro 88 = .ok (.getfield 215, 3) := by decide +kernel
theorem dX8_macro_91 : decode cX8_macro 91 = .ok (.if_icmp .ge 7, 3) := by decide +kernel
theorem dX8_macro_94 : decode cX8_macro 94 = .ok (.iconst 1, 1) := by decide +kernel
theorem dX8_macro_95 : decode cX8_macro 95 = .ok (.goto 4, 3) := by decide +kernel
theorem dX8_macro_98 : decode cX8_macro 98 = .ok (.iconst 0, 1) := by decide +kernel
theorem dX8_macro_99 : decode cX8_macro 99 = .ok (.istore_n 2, 1) := by decide +kernel
theorem dX8_macro_100 : decode cX8_macro 100 = .ok (.iinc 1 2, 3) := by decide +kernel
theorem dX8_macro_103 : decode cX8_macro 103 = .ok (.goto (-61), 3) := by decide +kernel
theorem dX8_macro_106 : decode cX8_macro 106 = .ok (.iload_n 2, 1) := by decide +kernel
theorem dX8_macro_107 : decode cX8_macro 107 = .ok (.ifCond .ne 8, 3) := by decide +kernel
theorem dX8_macro_110 : decode cX8_macro 110 = .ok (.aload_n 0, 1) := by decide +kernel
theorem dX8_macro_111 : decode cX8_macro 111 = .ok (.iconst 1, 1) := by decide +kernel
theorem dX8_macro_112 : decode cX8_macro 112 = .ok (.invokevirtual 189, 3) := by decide +kernel
end
section
theorem dX8_macro_115 : decode cX8_macro 115 = .ok (.aload_n 0, 1) := by decide +kernel
theorem dX8_macro_116 : decode cX8_macro 116 = .ok (.getfield 142, 3) := by decide +kernel
theorem dX8_macro_119 : decode cX8_macro 119 = .ok (.ifCond .eq 4, 3) := by decide +kernel
theorem dX8_macro_122 : decode cX8_macro 122 = .ok (.return_, 1) := by decide +kernel
theorem dX8_macro_123 : decode cX8_macro 123 = .ok (.aload_n 0, 1) := by decide +kernel
theorem dX8_macro_124 : decode cX8_macro 124 = .ok (.getfield 245, 3) := by decide +kernel
theorem dX8_macro_127 : decode cX8_macro 127 = .ok (.istore_n 3, 1) := by decide +kernel
theorem dX8_macro_128 : decode cX8_macro 128 = .ok (.aload_n 0, 1) := by decide +kernel
theorem dX8_macro_129 : decode cX8_macro 129 = .ok (.getfield 69, 3) := by decide +kernel
theorem dX8_macro_132 : decode cX8_macro 132 = .ok (.iload_n 3, 1) := by decide +kernel
theorem dX8_macro_133 : decode cX8_macro 133 = .ok (.aload_n 0, 1) := by decide +kernel
theorem dX8_macro_134 : decode cX8_macro 134 = .ok (.getfield 193, 3) := by decide +kernel
theorem dX8_macro_137 : decode cX8_macro 137 = .ok (.aload_n 0, 1) := by decide +kernel
theorem dX8_macro_138 : decode cX8_macro 138 = .ok (.getfield 93, 3) := by decide +kernel
theorem dX8_macro_141 : decode cX8_macro 141 = .ok (.iconst 1, 1) := by decide +kernel
theorem dX8_macro_142 : decode cX8_macro 142 = .ok (.iaload, 1) := by decide +kernel
theorem dX8_macro_143 : decode cX8_macro 143 = .ok (.iadd, 1) := by decide +kernel
theorem dX8_macro_144 : decode cX8_macro 144 = .ok (.iastore, 1) := by decide +kernel
theorem dX8_macro_145 : decode cX8_macro 145 = .ok (.aload_n 0, 1) := by decide +kernel
theorem dX8_macro_146 : decode cX8_macro 146 = .ok (.getfield 72, 3) := by decide +kernel
theorem dX8_macro_149 : decode cX8_macro 149 = .ok (.iload_n 3, 1) := by decide +kernel
theorem dX8_macro_150 : decode cX8_macro 150 = .ok (.aload_n 0, 1) := by decide +kernel
theorem dX8_macro_151 : decode cX8_macro 151 = .ok (.getfield 96, 3) := by decide +kernel
theorem dX8_macro_154 : decode cX8_macro 154 = .ok (.iconst 1, 1) := by decide +kernel
theorem dX8_macro_155 : decode cX8_macro 155 = .ok (.iaload, 1) := by decide +kernel
theorem dX8_macro_156 : decode cX8_macro 156 = .ok (.iastore, 1) := by decide +kernel
theorem dX8_macro_157 : decode cX8_macro 157 = .ok (.aload_n 0, 1) := by decide +kernel
theorem dX8_macro_158 : decode cX8_macro 158 = .ok (.getfield 75, 3) := by decide +kernel
theorem dX8_macro_161 : decode cX8_macro 161 = .ok (.iload_n 3, 1) := by decide +kernel
theorem dX8_macro_162 : decode cX8_macro 162 = .ok (.aload_n 0, 1) := by decide +kernel
theorem dX8_macro_163 : decode cX8_macro 163 = .ok (.getfield 193, 3) := by decide +kernel
theorem dX8_macro_166 : decode cX8_macro 166 = .ok (.aload_n 0, 1) := by decide +kernel
theorem dX8_macro_167 : decode cX8_macro 167 = .ok (.getfield 93, 3) := by decide +kernel
theorem dX8_macro_170 : decode cX8_macro 170 = .ok (.iconst 1, 1) := by decide +kernel
theorem dX8_macro_171 : decode cX8_macro 171 = .ok (.iaload, 1) := by decide +kernel
theorem dX8_macro_172 : decode cX8_macro 172 = .ok (.iadd, 1) := by decide +kernel
theorem dX8_macro_173 : decode cX8_macro 173 = .ok (.aload_n 0, 1) := by decide +kernel
theorem dX8_macro_174 : decode cX8_macro 174 = .ok (.getfield 96, 3) := by decide +kernel
theorem dX8_macro_177 : decode cX8_macro 177 = .ok (.iconst 1, 1) := by decide +kernel
theorem dX8_macro_178 : decode cX8_macro 178 = .ok (.iaload, 1) := by decide +kernel
theorem dX8_macro_179 : decode cX8_macro 179 = .ok (.iadd, 1) := by decide +kernel
theorem dX8_macro_180 : decode cX8_macro 180 = .ok (.iastore, 1) := by decide +kernel
theorem dX8_macro_181 : decode cX8_macro 181 = .ok (.aload_n 0, 1) := by decide +kernel
theorem dX8_macro_182 : decode cX8_macro 182 = .ok (.getfield 78, 3) := by decide +kernel
theorem dX8_macro_185 : decode cX8_macro 185 = .ok (.iload_n 3, 1) := by decide +kernel
theorem dX8_macro_186 : decode cX8_macro 186 = .ok (.aload_n 0, 1) := by decide +kernel
theorem dX8_macro_187 : decode cX8_macro 187 = .ok (.getfield 186, 3) := by decide +kernel
theorem dX8_macro_190 : decode cX8_macro 190 = .ok (.iastore, 1) := by decide +kernel
theorem dX8_macro_191 : decode cX8_macro 191 = .ok (.aload_n 0, 1) := by decide +kernel
theorem dX8_macro_192 : decode cX8_macro 192 = .ok (.getfield 81, 3) := by decide +kernel
theorem dX8_macro_195 : decode cX8_macro 195 = .ok (.iload_n 3, 1) := by decide +kernel
theorem dX8_macro_196 : decode cX8_macro 196 = .ok (.aload_n 0, 1) := by decide +kernel
theorem dX8_macro_197 : decode cX8_macro 197 = .ok (.getfield 136, 3) := by decide +kernel
theorem dX8_macro_200 : decode cX8_macro 200 = .ok (.iastore, 1) := by decide +kernel
theorem dX8_macro_201 : decode cX8_macro 201 = .ok (.aload_n 0, 1) := by decide +kernel
theorem dX8_macro_202 : decode cX8_macro 202 = .ok (.aload_n 0, 1) := by decide +kernel
theorem dX8_macro_203 : decode cX8_macro 203 = .ok (.getfield 186, 3) := by decide +kernel
theorem dX8_macro_206 : decode cX8_macro 206 = .ok (.aload_n 0, 1) := by decide +kernel
theorem dX8_macro_207 : decode cX8_macro 207 = .ok (.getfield 136, 3) := by decide +kernel
theorem dX8_macro_210 : decode cX8_macro 210 = .ok (.iconst 1, 1) := by decide +kernel
theorem dX8_macro_211 : decode cX8_macro 211 = .ok (.iadd, 1) := by decide +kernel
theorem dX8_macro_212 : decode cX8_macro 212 = .ok (.aload_n 0, 1) := by decide +kernel
theorem dX8_macro_213 : decode cX8_macro 213 = .ok (.getfield 160, 3) := by decide +kernel
theorem dX8_macro_216 : decode cX8_macro 216 = .ok (.bipush 6, 2) := by decide +kernel
theorem dX8_macro_218 : decode cX8_macro 218 = .ok (.bipush 7, 2) := by decide +kernel
theorem dX8_macro_220 : decode cX8_macro 220 = .ok (.iconst 0, 1) := by decide +kernel
theorem dX8_macro_221 : decode cX8_macro 221 = .ok (.invokevirtual 251, 3) := by decide +kernel
theorem dX8_macro_224 : decode cX8_macro 224 = .ok (.ifCond .eq 40, 3) := by decide +kernel
theorem dX8_macro_227 : decode cX8_macro 227 = .ok (.aload_n 0, 1) := by decide +kernel
theorem dX8_macro_228 : decode cX8_macro 228 = .ok (.getfield 84, 3) := by decide +kernel
theorem dX8_macro_231 : decode cX8_macro 231 = .ok (.iload_n 3, 1) := by decide +kernel
theorem dX8_macro_232 : decode cX8_macro 232 = .ok (.aload_n 0, 1) := by decide +kernel
theorem dX8_macro_233 : decode cX8_macro 233 = .ok (.getfield 171, 3) := by decide +kernel
theorem dX8_macro_236 : decode cX8_macro 236 = .ok (.iastore, 1) := by decide +kernel
theorem dX8_macro_237 : decode cX8_macro 237 = .ok (.aload_n 0, 1) := by decide +kernel
theorem dX8_macro_238 : decode cX8_macro 238 = .ok (.getfield 87, 3) := by decide +kernel
theorem dX8_macro_241 : decode cX8_macro 241 = .ok (.iload_n 3, 1) := by decide +kernel
theorem dX8_macro_242 : decode cX8_macro 242 = .ok (.aload_n 0, 1) := by decide +kernel
theorem dX8_macro_243 : decode cX8_macro 243 = .ok (.getfield 174, 3) := by decide +kernel
theorem dX8_macro_246 : decode cX8_macro 246 = .ok (.iastore, 1) := by decide +kernel
theorem dX8_macro_247 : decode cX8_macro 247 = .ok (.aload_n 0, 1) := by decide +kernel
theorem dX8_macro_248 : decode cX8_macro 248 = .ok (.dup, 1) := by decide +kernel
theorem dX8_macro_249 : decode cX8_macro 249 = .ok (.getfield 245, 3) := by decide +kernel
theorem dX8_macro_252 : decode cX8_macro 252 = .ok (.iconst 1, 1) := by decide +kernel
theorem dX8_macro_253 : decode cX8_macro 253 = .ok (.iadd, 1) := by decide +kernel
theorem dX8_macro_254 : decode cX8_macro 254 = .ok (.putfield 245, 3) := by decide +kernel
theorem dX8_macro_257 : decode cX8_macro 257 = .ok (.aload_n 0, 1) := by decide +kernel
theorem dX8_macro_258 : decode cX8_macro 258 = .ok (.invokevirtual 275, 3) := by decide +kernel
theorem dX8_macro_261 : decode cX8_macro 261 = .ok (.goto 16, 3) := by decide +kernel
theorem dX8_macro_264 : decode cX8_macro 264 = .ok (.aload_n 0, 1) := by decide +kernel
theorem dX8_macro_265 : decode cX8_macro 265 = .ok (.iconst 1, 1) := by decide +kernel
theorem dX8_macro_266 : decode cX8_macro 266 = .ok (.putfield 280, 3) := by decide +kernel
theorem dX8_macro_269 : decode cX8_macro 269 = .ok (.aload_n 0, 1) := by decide +kernel
theorem dX8_macro_270 : decode cX8_macro 270 = .ok (.aload_n 0, 1) := by decide +kernel
theorem dX8_macro_271 : decode cX8_macro 271 = .ok (.getfield 160, 3) := by decide +kernel
theorem dX8_macro_274 : decode cX8_macro 274 = .ok (.putfield 186, 3) := by decide +kernel
theorem dX8_macro_277 : decode cX8_macro 277 = .ok (.return_, 1) := by decide +kernel
theorem dX8_readLine_0 : decode cX8_readLine 0 = .ok (.aload_n 0, 1) := by decide +kernel
theorem dX8_readLine_1 : decode cX8_readLine 1 = .ok (.dup, 1) := by decide +kernel
theorem dX8_readLine_2 : decode cX8_readLine 2 = .ok (.getfield 286, 3) := by decide +kernel
theorem dX8_readLine_5 : decode cX8_readLine 5 = .ok (.iconst 1, 1) := by decide +kernel
theorem dX8_readLine_6 : decode cX8_readLine 6 = .ok (.iadd, 1) := by decide +kernel
theorem dX8_readLine_7 : decode cX8_readLine 7 = .ok (.putfield 286, 3) := by decide +kernel
theorem dX8_readLine_10 : decode cX8_readLine 10 = .ok (.aload_n 0, 1) := by decide +kernel
theorem dX8_readLine_11 : decode cX8_readLine 11 = .ok (.getfield 286, 3) := by decide +kernel
theorem dX8_readLine_14 : decode cX8_readLine 14 = .ok (.ldc 9, 2) := by decide +kernel
theorem dX8_readLine_16 : decode cX8_readLine 16 = .ok (.if_icmp .le 8, 3) := by decide +kernel
theorem dX8_readLine_19 : decode cX8_readLine 19 = .ok (.aload_n 0, 1) := by decide +kernel
theorem dX8_readLine_20 : decode cX8_readLine 20 = .ok (.iconst 5, 1) := by decide +kernel
theorem dX8_readLine_21 : decode cX8_readLine 21 = .ok (.invokevirtual 189, 3) := by decide +kernel
theorem dX8_readLine_24 : decode cX8_readLine 24 = .ok (.aload_n 0, 1) := by decide +kernel
theorem dX8_readLine_25 : decode cX8_readLine 25 = .ok (.getfield 142, 3) := by decide +kernel
theorem dX8_readLine_28 : decode cX8_readLine 28 = .ok (.ifCond .ne 7, 3) := by decide +kernel
theorem dX8_readLine_31 : decode cX8_readLine 31 = .ok (.aload_n 0, 1) := by decide +kernel
theorem dX8_readLine_32 : decode cX8_readLine 32 = .ok (.invokevirtual 289, 3) := by decide +kernel
theorem dX8_readLine_35 : decode cX8_readLine 35 = .ok (.aload_n 0, 1) := by decide +kernel
theorem dX8_readLine_36 : decode cX8_readLine 36 = .ok (.getfield 142, 3) := by decide +kernel
theorem dX8_readLine_39 : decode cX8_readLine 39 = .ok (.ifCond .ne 7, 3) := by decide +kernel
theorem dX8_readLine_42 : decode cX8_readLine 42 = .ok (.aload_n 0, 1) := by decide +kernel
theorem dX8_readLine_43 : decode cX8_readLine 43 = .ok (.invokevirtual 292, 3) := by decide +kernel
theorem dX8_readLine_46 : decode cX8_readLine 46 = .ok (.aload_n 0, 1) := by decide +kernel
theorem dX8_readLine_47 : decode cX8_readLine 47 = .ok (.getfield 142, 3) := by decide +kernel
theorem dX8_readLine_50 : decode cX8_readLine 50 = .ok (.ifCond .eq 5, 3) := by decide +kernel
theorem dX8_readLine_53 : decode cX8_readLine 53 = .ok (.iconst 0, 1) := by decide +kernel
theorem dX8_readLine_54 : decode cX8_readLine 54 = .ok (.ireturn, 1) := by decide +kernel
theorem dX8_readLine_55 : decode cX8_readLine 55 = .ok (.aload_n 0, 1) := by decide +kernel
theorem dX8_readLine_56 : decode cX8_readLine 56 = .ok (.iconst 0, 1) := by decide +kernel
theorem dX8_readLine_57 : decode cX8_readLine 57 = .ok (.invokevirtual 248, 3) := by decide +kernel
theorem dX8_readLine_60 : decode cX8_readLine 60 = .ok (.ifCond .eq 15, 3) := by decide +kernel
theorem dX8_readLine_63 : decode cX8_readLine 63 = .ok (.aload_n 0, 1) := by decide +kernel
theorem dX8_readLine_64 : decode cX8_readLine 64 = .ok (.getfield 99, 3) := by decide +kernel
theorem dX8_readLine_67 : decode cX8_readLine 67 = .ok (.iconst 0, 1) := by decide +kernel
theorem dX8_readLine_68 : decode cX8_readLine 68 = .ok (.laload, 1) := by decide +kernel
theorem dX8_readLine_69 : decode cX8_readLine 69 = .ok (.invokestatic 156, 3) := by decide +kernel
theorem dX8_readLine_72 : decode cX8_readLine 72 = .ok (.goto 4, 3) := by decide +kernel
theorem dX8_readLine_75 : decode cX8_readLine 75 = .ok (.iconst (-1), 1) := by decide +kernel
theorem dX8_readLine_76 : decode cX8_readLine 76 = .ok (.istore_n 1, 1) := by decide +kernel
theorem dX8_readLine_77 : decode cX8_readLine 77 = .ok (.iload_n 1, 1) := by decide +kernel
theorem dX8_readLine_78 : decode cX8_readLine 78 = .ok (.iconst (-1), 1) := by decide +kernel
theorem dX8_readLine_79 : decode cX8_readLine 79 = .ok (.if_icmp .ne 11, 3) := by decide +kernel
theorem dX8_readLine_82 : decode cX8_readLine 82 = .ok (.aload_n 0, 1) := by decide +kernel
theorem dX8_readLine_83 : decode cX8_readLine 83 = .ok (.iconst 0, 1) := by decide +kernel
theorem dX8_readLine_84 : decode cX8_readLine 84 = .ok (.invokevirtual 283, 3) := by decide +kernel
theorem dX8_readLine_87 : decode cX8_readLine 87 = .ok (.goto 4, 3) := by decide +kernel
theorem dX8_readLine_90 : decode cX8_readLine 90 = .ok (.iconst (-1), 1) := by decide +kernel
theorem dX8_readLine_91 : decode cX8_readLine 91 = .ok (.istore_n 2, 1) := by decide +kernel
theorem dX8_readLine_92 : decode cX8_readLine 92 = .ok (.iload_n 2, 1) := by decide +kernel
theorem dX8_readLine_93 : decode cX8_readLine 93 = .ok (.ifCond .lt 6, 3) := by decide +kernel
theorem dX8_readLine_96 : decode cX8_readLine 96 = .ok (.bipush 8, 2) := by decide +kernel
theorem dX8_readLine_98 : decode cX8_readLine 98 = .ok (.istore_n 1, 1) := by decide +kernel
theorem dX8_readLine_99 : decode cX8_readLine 99 = .ok (.iload_n 1, 1) := by decide +kernel
theorem dX8_readLine_100 : decode cX8_readLine 100 = .ok (.iconst (-1), 1) := by decide +kernel
theorem dX8_readLine_101 : decode cX8_readLine 101 = .ok (.if_icmp .ne 5, 3) := by decide +kernel
theorem dX8_readLine_104 : decode cX8_readLine 104 = .ok (.iconst 1, 1) := by decide +kernel
theorem dX8_readLine_105 : decode cX8_readLine 105 = .ok (.ireturn, 1) := by decide +kernel
theorem dX8_readLine_106 : decode cX8_readLine 106 = .ok (.aload_n 0, 1) := by decide +kernel
theorem dX8_readLine_107 : decode cX8_readLine 107 = .ok (.iload_n 1, 1) := by decide +kernel
theorem dX8_readLine_108 : decode cX8_readLine 108 = .ok (.iload_n 2, 1) := by decide +kernel
theorem dX8_readLine_109 : decode cX8_readLine 109 = .ok (.invokevirtual 295, 3) := by decide +kernel
theorem dX8_readLine_112 : decode cX8_readLine 112 = .ok (.aload_n 0, 1) := by decide +kernel
theorem dX8_readLine_113 : decode cX8_readLine 113 = .ok (.getfield 142, 3) := by decide +kernel
theorem dX8_readLine_116 : decode cX8_readLine 116 = .ok (.ifCond .eq 5, 3) := by decide +kernel
theorem dX8_readLine_119 : decode cX8_readLine 119 = .ok (.iconst 0, 1) := by decide +kernel
theorem dX8_readLine_120 : decode cX8_readLine 120 = .ok (.ireturn, 1) := by decide +kernel
theorem dX8_readLine_121 : decode cX8_readLine 121 = .ok (.iload_n 1, 1) := by decide +kernel
theorem dX8_readLine_122 : decode cX8_readLine 122 = .ok (.bipush 8, 2) := by decide +kernel
theorem dX8_readLine_124 : decode cX8_readLine 124 = .ok (.if_icmp .ne 11, 3) := by decide +kernel
theorem dX8_readLine_127 : decode cX8_readLine 127 = .ok (.aload_n 0, 1) := by decide +kernel
theorem dX8_readLine_128 : decode cX8_readLine 128 = .ok (.iload_n 2, 1) := by decide +kernel
theorem dX8_readLine_129 : decode cX8_readLine 129 = .ok (.invokevirtual 299, 3) := by decide +kernel
theorem dX8_readLine_132 : decode cX8_readLine 132 = .ok (.goto 8, 3) := by decide +kernel
theorem dX8_readLine_135 : decode cX8_readLine 135 = .ok (.aload_n 0, 1) := by decide +kernel
theorem dX8_readLine_136 : decode cX8_readLine 136 = .ok (.iload_n 1, 1) := by decide +kernel
theorem dX8_readLine_137 : decode cX8_readLine 137 = .ok (.invokevirtual 302, 3) := by decide +kernel
theorem dX8_readLine_140 : decode cX8_readLine 140 = .ok (.iconst 0, 1) := by decide +kernel
theorem dX8_readLine_141 : decode cX8_readLine 141 = .ok (.ireturn, 1) := by decide +kernel
theorem dX8_linesOfSource_0 : decode cX8_linesOfSource 0 = .ok (.iconst 0, 1) := by decide +kernel
theorem dX8_linesOfSource_1 : decode cX8_linesOfSource 1 = .ok (.istore_n 1, 1) := by decide +kernel
theorem dX8_linesOfSource_2 : decode cX8_linesOfSource 2 = .ok (.iconst 0, 1) := by decide +kernel
theorem dX8_linesOfSource_3 : decode cX8_linesOfSource 3 = .ok (.istore_n 2, 1) := by decide +kernel
theorem dX8_linesOfSource_4 : decode cX8_linesOfSource 4 = .ok (.iload_n 2, 1) := by decide +kernel
theorem dX8_linesOfSource_5 : decode cX8_linesOfSource 5 = .ok (.aload_n 0, 1) := by decide +kernel
theorem dX8_linesOfSource_6 : decode cX8_linesOfSource 6 = .ok (.getfield 160, 3) := by decide +kernel
theorem dX8_linesOfSource_9 : decode cX8_linesOfSource 9 = .ok (.if_icmp .ge 17, 3) := by decide +kernel
theorem dX8_linesOfSource_12 : decode cX8_linesOfSource 12 = .ok (.iinc 1 1, 3) := by decide +kernel
theorem dX8_linesOfSource_15 : decode cX8_linesOfSource 15 = .ok (.aload_n 0, 1) := by decide +kernel
theorem dX8_linesOfSource_16 : decode cX8_linesOfSource 16 = .ok (.iload_n 2, 1) := by decide +kernel
theorem dX8_linesOfSource_17 : decode cX8_linesOfSource 17 = .ok (.invokevirtual 163, 3) := by decide +kernel
theorem dX8_linesOfSource_20 : decode cX8_linesOfSource 20 = .ok (.iconst 1, 1) := by decide +kernel
theorem dX8_linesOfSource_21 : decode cX8_linesOfSource 21 = .ok (.iadd, 1) := by decide +kernel
theorem dX8_linesOfSource_22 : decode cX8_linesOfSource 22 = .ok (.istore_n 2, 1) := by decide +kernel
theorem dX8_linesOfSource_23 : decode cX8_linesOfSource 23 = .ok (.goto (-19), 3) := by decide +kernel
theorem dX8_linesOfSource_26 : decode cX8_linesOfSource 26 = .ok (.iload_n 1, 1) := by decide +kernel
theorem dX8_linesOfSource_27 : decode cX8_linesOfSource 27 = .ok (.ireturn, 1) := by decide +kernel
theorem dX8_begin_0 : decode cX8_begin 0 = .ok (.aload_n 0, 1) := by decide +kernel
theorem dX8_begin_1 : decode cX8_begin 1 = .ok (.iconst 0, 1) := by decide +kernel
theorem dX8_begin_2 : decode cX8_begin 2 = .ok (.putfield 103, 3) := by decide +kernel
theorem dX8_begin_5 : decode cX8_begin 5 = .ok (.iconst 0, 1) := by decide +kernel
theorem dX8_begin_6 : decode cX8_begin 6 = .ok (.istore_n 1, 1) := by decide +kernel
theorem dX8_begin_7 : decode cX8_begin 7 = .ok (.iload_n 1, 1) := by decide +kernel
theorem dX8_begin_8 : decode cX8_begin 8 = .ok (.aload_n 0, 1) := by decide +kernel
theorem dX8_begin_9 : decode cX8_begin 9 = .ok (.getfield 107, 3) := by decide +kernel
theorem dX8_begin_12 : decode cX8_begin 12 = .ok (.if_icmp .ge 21, 3) := by decide +kernel
theorem dX8_begin_15 : decode cX8_begin 15 = .ok (.aload_n 0, 1) := by decide +kernel
theorem dX8_begin_16 : decode cX8_begin 16 = .ok (.getfield 14, 3) := by decide +kernel
theorem dX8_begin_19 : decode cX8_begin 19 = .ok (.iload_n 1, 1) := by decide +kernel
theorem dX8_begin_20 : decode cX8_begin 20 = .ok (.aload_n 0, 1) := by decide +kernel
theorem dX8_begin_21 : decode cX8_begin 21 = .ok (.getfield 10, 3) := by decide +kernel
theorem dX8_begin_24 : decode cX8_begin 24 = .ok (.iload_n 1, 1) := by decide +kernel
theorem dX8_begin_25 : decode cX8_begin 25 = .ok (.baload, 1) := by decide +kernel
theorem dX8_begin_26 : decode cX8_begin 26 = .ok (.bastore, 1) := by decide +kernel
theorem dX8_begin_27 : decode cX8_begin 27 = .ok (.iinc 1 1, 3) := by decide +kernel
theorem dX8_begin_30 : decode cX8_begin 30 = .ok (.goto (-23), 3) := by decide +kernel
theorem dX8_begin_33 : decode cX8_begin 33 = .ok (.aload_n 0, 1) := by decide +kernel
theorem dX8_begin_34 : decode cX8_begin 34 = .ok (.aload_n 0, 1) := by decide +kernel
theorem dX8_begin_35 : decode cX8_begin 35 = .ok (.getfield 107, 3) := by decide +kernel
theorem dX8_begin_38 : decode cX8_begin 38 = .ok (.putfield 160, 3) := by decide +kernel
theorem dX8_begin_41 : decode cX8_begin 41 = .ok (.aload_n 0, 1) := by decide +kernel
theorem dX8_begin_42 : decode cX8_begin 42 = .ok (.iconst 0, 1) := by decide +kernel
theorem dX8_begin_43 : decode cX8_begin 43 = .ok (.putfield 107, 3) := by decide +kernel
theorem dX8_begin_46 : decode cX8_begin 46 = .ok (.aload_n 0, 1) := by decide +kernel
theorem dX8_begin_47 : decode cX8_begin 47 = .ok (.iconst 0, 1) := by decide +kernel
theorem dX8_begin_48 : decode cX8_begin 48 = .ok (.putfield 186, 3) := by decide +kernel
theorem dX8_begin_51 : decode cX8_begin 51 = .ok (.aload_n 0, 1) := by decide +kernel
theorem dX8_begin_52 : decode cX8_begin 52 = .ok (.iconst 0, 1) := by decide +kernel
theorem dX8_begin_53 : decode cX8_begin 53 = .ok (.putfield 136, 3) := by decide +kernel
theorem dX8_begin_56 : decode cX8_begin 56 = .ok (.aload_n 0, 1) := by decide +kernel
theorem dX8_begin_57 : decode cX8_begin 57 = .ok (.iconst 0, 1) := by decide +kernel
theorem dX8_begin_58 : decode cX8_begin 58 = .ok (.putfield 286, 3) := by decide +kernel
theorem dX8_begin_61 : decode cX8_begin 61 = .ok (.aload_n 0, 1) := by decide +kernel
theorem dX8_begin_62 : decode cX8_begin 62 = .ok (.iconst 0, 1) := by decide +kernel
theorem dX8_begin_63 : decode cX8_begin 63 = .ok (.putfield 269, 3) := by decide +kernel
theorem dX8_begin_66 : decode cX8_begin 66 = .ok (.aload_n 0, 1) := by decide +kernel
theorem dX8_begin_67 : decode cX8_begin 67 = .ok (.iconst 0, 1) := by decide +kernel
theorem dX8_begin_68 : decode cX8_begin 68 = .ok (.putfield 245, 3) := by decide +kernel
theorem dX8_begin_71 : decode cX8_begin 71 = .ok (.aload_n 0, 1) := by decide +kernel
theorem dX8_begin_72 : decode cX8_begin 72 = .ok (.iconst 0, 1) := by decide +kernel
theorem dX8_begin_73 : decode cX8_begin 73 = .ok (.putfield 139, 3) := by decide +kernel
theorem dX8_begin_76 : decode cX8_begin 76 = .ok (.aload_n 0, 1) := by decide +kernel
theorem dX8_begin_77 : decode cX8_begin 77 = .ok (.iconst 0, 1) := by decide +kernel
theorem dX8_begin_78 : decode cX8_begin 78 = .ok (.putfield 142, 3) := by decide +kernel
theorem dX8_begin_81 : decode cX8_begin 81 = .ok (.aload_n 0, 1) := by decide +kernel
theorem dX8_begin_82 : decode cX8_begin 82 = .ok (.iconst 0, 1) := by decide +kernel
theorem dX8_begin_83 : decode cX8_begin 83 = .ok (.putfield 149, 3) := by decide +kernel
theorem dX8_begin_86 : decode cX8_begin 86 = .ok (.aload_n 0, 1) := by decide +kernel
theorem dX8_begin_87 : decode cX8_begin 87 = .ok (.iconst 0, 1) := by decide +kernel
theorem dX8_begin_88 : decode cX8_begin 88 = .ok (.putfield 305, 3) := by decide +kernel
theorem dX8_begin_91 : decode cX8_begin 91 = .ok (.aload_n 0, 1) := by decide +kernel
theorem dX8_begin_92 : decode cX8_begin 92 = .ok (.iconst 0, 1) := by decide +kernel
theorem dX8_begin_93 : decode cX8_begin 93 = .ok (.putfield 280, 3) := by decide +kernel
theorem dX8_begin_96 : decode cX8_begin 96 = .ok (.aload_n 0, 1) := by decide +kernel
theorem dX8_begin_97 : decode cX8_begin 97 = .ok (.iconst 0, 1) := by decide +kernel
theorem dX8_begin_98 : decode cX8_begin 98 = .ok (.putfield 17, 3) := by decide +kernel
theorem dX8_begin_101 : decode cX8_begin 101 = .ok (.aload_n 0, 1) := by decide +kernel
theorem dX8_begin_102 : decode cX8_begin 102 = .ok (.iconst 0, 1) := by decide +kernel
theorem dX8_begin_103 : decode cX8_begin 103 = .ok (.putfield 308, 3) := by decide +kernel
theorem dX8_begin_106 : decode cX8_begin 106 = .ok (.aload_n 0, 1) := by decide +kernel
theorem dX8_begin_107 : decode cX8_begin 107 = .ok (.invokevirtual 311, 3) := by decide +kernel
theorem dX8_begin_110 : decode cX8_begin 110 = .ok (.ireturn, 1) := by decide +kernel
theorem dX8_next_0 : decode cX8_next 0 = .ok (.aload_n 0, 1) := by decide +kernel
theorem dX8_next_1 : decode cX8_next 1 = .ok (.iconst 0, 1) := by decide +kernel
theorem dX8_next_2 : decode cX8_next 2 = .ok (.putfield 103, 3) := by decide +kernel
theorem dX8_next_5 : decode cX8_next 5 = .ok (.aload_n 0, 1) := by decide +kernel
theorem dX8_next_6 : decode cX8_next 6 = .ok (.iconst 0, 1) := by decide +kernel
theorem dX8_next_7 : decode cX8_next 7 = .ok (.putfield 308, 3) := by decide +kernel
theorem dX8_next_10 : decode cX8_next 10 = .ok (.aload_n 0, 1) := by decide +kernel
theorem dX8_next_11 : decode cX8_next 11 = .ok (.getfield 17, 3) := by decide +kernel
theorem dX8_next_14 : decode cX8_next 14 = .ok (.ifCond .eq 24, 3) := by decide +kernel
theorem dX8_next_17 : decode cX8_next 17 = .ok (.aload_n 0, 1) := by decide +kernel
theorem dX8_next_18 : decode cX8_next 18 = .ok (.aload_n 0, 1) := by decide +kernel
theorem dX8_next_19 : decode cX8_next 19 = .ok (.getfield 142, 3) := by decide +kernel
theorem dX8_next_22 : decode cX8_next 22 = .ok (.ifCond .ne 7, 3) := by decide +kernel
theorem dX8_next_25 : decode cX8_next 25 = .ok (.iconst 0, 1) := by decide +kernel
theorem dX8_next_26 : decode cX8_next 26 = .ok (.goto 7, 3) := by decide +kernel
theorem dX8_next_29 : decode cX8_next 29 = .ok (.aload_n 0, 1) := by decide +kernel
theorem dX8_next_30 : decode cX8_next 30 = .ok (.getfield 149, 3) := by decide +kernel
theorem dX8_next_33 : decode cX8_next 33 = .ok (.putfield 305, 3) := by decide +kernel
theorem dX8_next_36 : decode cX8_next 36 = .ok (.iconst (-1), 1) := by decide +kernel
theorem dX8_next_37 : decode cX8_next 37 = .ok (.ireturn, 1) := by decide +kernel
theorem dX8_next_38 : decode cX8_next 38 = .ok (.aload_n 0, 1) := by decide +kernel
theorem dX8_next_39 : decode cX8_next 39 = .ok (.invokevirtual 314, 3) := by decide +kernel
theorem dX8_next_42 : decode cX8_next 42 = .ok (.ifCond .eq 31, 3) := by decide +kernel
theorem dX8_next_45 : decode cX8_next 45 = .ok (.aload_n 0, 1) := by decide +kernel
theorem dX8_next_46 : decode cX8_next 46 = .ok (.invokevirtual 318, 3) := by decide +kernel
theorem dX8_next_49 : decode cX8_next 49 = .ok (.ifCond .ne 6, 3) := by decide +kernel
theorem dX8_next_52 : decode cX8_next 52 = .ok (.goto (-14), 3) := by decide +kernel
theorem dX8_next_55 : decode cX8_next 55 = .ok (.aload_n 0, 1) := by decide +kernel
theorem dX8_next_56 : decode cX8_next 56 = .ok (.iconst 1, 1) := by decide +kernel
theorem dX8_next_57 : decode cX8_next 57 = .ok (.putfield 308, 3) := by decide +kernel
theorem dX8_next_60 : decode cX8_next 60 = .ok (.aload_n 0, 1) := by decide +kernel
theorem dX8_next_61 : decode cX8_next 61 = .ok (.aload_n 0, 1) := by decide +kernel
theorem dX8_next_62 : decode cX8_next 62 = .ok (.invokevirtual 145, 3) := by decide +kernel
theorem dX8_next_65 : decode cX8_next 65 = .ok (.putfield 305, 3) := by decide +kernel
theorem dX8_next_68 : decode cX8_next 68 = .ok (.aload_n 0, 1) := by decide +kernel
theorem dX8_next_69 : decode cX8_next 69 = .ok (.getfield 199, 3) := by decide +kernel
theorem dX8_next_72 : decode cX8_next 72 = .ok (.ireturn, 1) := by decide +kernel
theorem dX8_next_73 : decode cX8_next 73 = .ok (.aload_n 0, 1) := by decide +kernel
theorem dX8_next_74 : decode cX8_next 74 = .ok (.getfield 142, 3) := by decide +kernel
theorem dX8_next_77 : decode cX8_next 77 = .ok (.ifCond .ne 31, 3) := by decide +kernel
theorem dX8_next_80 : decode cX8_next 80 = .ok (.aload_n 0, 1) := by decide +kernel
theorem dX8_next_81 : decode cX8_next 81 = .ok (.getfield 139, 3) := by decide +kernel
theorem dX8_next_84 : decode cX8_next 84 = .ok (.ifCond .gt 10, 3) := by decide +kernel
theorem dX8_next_87 : decode cX8_next 87 = .ok (.aload_n 0, 1) := by decide +kernel
theorem dX8_next_88 : decode cX8_next 88 = .ok (.getfield 280, 3) := by decide +kernel
theorem dX8_next_91 : decode cX8_next 91 = .ok (.ifCond .eq 17, 3) := by decide +kernel
theorem dX8_next_94 : decode cX8_next 94 = .ok (.aload_n 0, 1) := by decide +kernel
theorem dX8_next_95 : decode cX8_next 95 = .ok (.bipush 6, 2) := by decide +kernel
theorem dX8_next_97 : decode cX8_next 97 = .ok (.putfield 142, 3) := by decide +kernel
theorem dX8_next_100 : decode cX8_next 100 = .ok (.aload_n 0, 1) := by decide +kernel
theorem dX8_next_101 : decode cX8_next 101 = .ok (.aload_n 0, 1) := by decide +kernel
theorem dX8_next_102 : decode cX8_next 102 = .ok (.invokevirtual 311, 3) := by decide +kernel
theorem dX8_next_105 : decode cX8_next 105 = .ok (.putfield 149, 3) := by decide +kernel
theorem dX8_next_108 : decode cX8_next 108 = .ok (.aload_n 0, 1) := by decide +kernel
theorem dX8_next_109 : decode cX8_next 109 = .ok (.iconst 1, 1) := by decide +kernel
theorem dX8_next_110 : decode cX8_next 110 = .ok (.putfield 17, 3) := by decide +kernel
theorem dX8_next_113 : decode cX8_next 113 = .ok (.aload_n 0, 1) := by decide +kernel
theorem dX8_next_114 : decode cX8_next 114 = .ok (.iconst 0, 1) := by decide +kernel
theorem dX8_next_115 : decode cX8_next 115 = .ok (.putfield 139, 3) := by decide +kernel
theorem dX8_next_118 : decode cX8_next 118 = .ok (.aload_n 0, 1) := by decide +kernel
theorem dX8_next_119 : decode cX8_next 119 = .ok (.aload_n 0, 1) := by decide +kernel
theorem dX8_next_120 : decode cX8_next 120 = .ok (.getfield 142, 3) := by decide +kernel
theorem dX8_next_123 : decode cX8_next 123 = .ok (.ifCond .ne 7, 3) := by decide +kernel
theorem dX8_next_126 : decode cX8_next 126 = .ok (.iconst 0, 1) := by decide +kernel
theorem dX8_next_127 : decode cX8_next 127 = .ok (.goto 7, 3) := by decide +kernel
theorem dX8_next_130 : decode cX8_next 130 = .ok (.aload_n 0, 1) := by decide +kernel
theorem dX8_next_131 : decode cX8_next 131 = .ok (.getfield 149, 3) := by decide +kernel
theorem dX8_next_134 : decode cX8_next 134 = .ok (.putfield 305, 3) := by decide +kernel
theorem dX8_next_137 : decode cX8_next 137 = .ok (.aload_n 0, 1) := by decide +kernel
theorem dX8_next_138 : decode cX8_next 138 = .ok (.getfield 142, 3) := by decide +kernel
theorem dX8_next_141 : decode cX8_next 141 = .ok (.ifCond .ne 5, 3) := by decide +kernel
theorem dX8_next_144 : decode cX8_next 144 = .ok (.iconst (-1), 1) := by decide +kernel
theorem dX8_next_145 : decode cX8_next 145 = .ok (.ireturn, 1) := by decide +kernel
theorem dX8_next_146 : decode cX8_next 146 = .ok (.aload_n 0, 1) := by decide +kernel
theorem dX8_next_147 : decode cX8_next 147 = .ok (.iconst 1, 1) := by decide +kernel
theorem dX8_next_148 : decode cX8_next 148 = .ok (.putfield 103, 3) := by decide +kernel
theorem dX8_next_151 : decode cX8_next 151 = .ok (.iconst 0, 1) := by decide +kernel
theorem dX8_next_152 : decode cX8_next 152 = .ok (.ireturn, 1) := by decide +kernel
theorem dX8_octet_0 : decode cX8_octet 0 = .ok (.aload_n 0, 1) := by decide +kernel
theorem dX8_octet_1 : decode cX8_octet 1 = .ok (.iconst 0, 1) := by decide +kernel
theorem dX8_octet_2 : decode cX8_octet 2 = .ok (.putfield 103, 3) := by decide +kernel
theorem dX8_octet_5 : decode cX8_octet 5 = .ok (.aload_n 0, 1) := by decide +kernel
theorem dX8_octet_6 : decode cX8_octet 6 = .ok (.getfield 308, 3) := by decide +kernel
theorem dX8_octet_9 : decode cX8_octet 9 = .ok (.ifCond .eq 28, 3) := by decide +kernel
theorem dX8_octet_12 : decode cX8_octet 12 = .ok (.iload_n 1, 1) := by decide +kernel
theorem dX8_octet_13 : decode cX8_octet 13 = .ok (.ifCond .lt 24, 3) := by decide +kernel
theorem dX8_octet_16 : decode cX8_octet 16 = .ok (.iload_n 1, 1) := by decide +kernel
theorem dX8_octet_17 : decode cX8_octet 17 = .ok (.aload_n 0, 1) := by decide +kernel
theorem dX8_octet_18 : decode cX8_octet 18 = .ok (.getfield 199, 3) := by decide +kernel
theorem dX8_octet_21 : decode cX8_octet 21 = .ok (.if_icmp .ge 16, 3) := by decide +kernel
theorem dX8_octet_24 : decode cX8_octet 24 = .ok (.aload_n 0, 1) := by decide +kernel
theorem dX8_octet_25 : decode cX8_octet 25 = .ok (.getfield 21, 3) := by decide +kernel
theorem dX8_octet_28 : decode cX8_octet 28 = .ok (.iload_n 1, 1) := by decide +kernel
theorem dX8_octet_29 : decode cX8_octet 29 = .ok (.baload, 1) := by decide +kernel
theorem dX8_octet_30 : decode cX8_octet 30 = .ok (.sipush 255, 3) := by decide +kernel
theorem dX8_octet_33 : decode cX8_octet 33 = .ok (.iand, 1) := by decide +kernel
theorem dX8_octet_34 : decode cX8_octet 34 = .ok (.goto 4, 3) := by decide +kernel
theorem dX8_octet_37 : decode cX8_octet 37 = .ok (.iconst (-1), 1) := by decide +kernel
theorem dX8_octet_38 : decode cX8_octet 38 = .ok (.ireturn, 1) := by decide +kernel
theorem dX8_line_0 : decode cX8_line 0 = .ok (.aload_n 0, 1) := by decide +kernel
theorem dX8_line_1 : decode cX8_line 1 = .ok (.iconst 0, 1) := by decide +kernel
theorem dX8_line_2 : decode cX8_line 2 = .ok (.putfield 103, 3) := by decide +kernel
theorem dX8_line_5 : decode cX8_line 5 = .ok (.aload_n 0, 1) := by decide +kernel
theorem dX8_line_6 : decode cX8_line 6 = .ok (.getfield 305, 3) := by decide +kernel
theorem dX8_line_9 : decode cX8_line 9 = .ok (.ireturn, 1) := by decide +kernel
theorem dX8_fault_0 : decode cX8_fault 0 = .ok (.aload_n 0, 1) := by decide +kernel
theorem dX8_fault_1 : decode cX8_fault 1 = .ok (.iconst 0, 1) := by decide +kernel
theorem dX8_fault_2 : decode cX8_fault 2 = .ok (.putfield 103, 3) := by decide +kernel
theorem dX8_fault_5 : decode cX8_fault 5 = .ok (.aload_n 0, 1) := by decide +kernel
theorem dX8_fault_6 : decode cX8_fault 6 = .ok (.getfield 142, 3) := by decide +kernel
theorem dX8_fault_9 : decode cX8_fault 9 = .ok (.ireturn, 1) := by decide +kernel
theorem dX8_depth_0 : decode cX8_depth 0 = .ok (.aload_n 0, 1) := by decide +kernel
theorem dX8_depth_1 : decode cX8_depth 1 = .ok (.iconst 0, 1) := by decide +kernel
theorem dX8_depth_2 : decode cX8_depth 2 = .ok (.putfield 103, 3) := by decide +kernel
theorem dX8_depth_5 : decode cX8_depth 5 = .ok (.aload_n 0, 1) := by decide +kernel
theorem dX8_depth_6 : decode cX8_depth 6 = .ok (.getfield 17, 3) := by decide +kernel
theorem dX8_depth_9 : decode cX8_depth 9 = .ok (.ifCond .eq 7, 3) := by decide +kernel
theorem dX8_depth_12 : decode cX8_depth 12 = .ok (.iconst 0, 1) := by decide +kernel
theorem dX8_depth_13 : decode cX8_depth 13 = .ok (.goto 7, 3) := by decide +kernel
theorem dX8_depth_16 : decode cX8_depth 16 = .ok (.aload_n 0, 1) := by decide +kernel
theorem dX8_depth_17 : decode cX8_depth 17 = .ok (.getfield 139, 3) := by decide +kernel
theorem dX8_depth_20 : decode cX8_depth 20 = .ok (.ireturn, 1) := by decide +kernel
theorem dJ13_compare_74951_0 : decode cJ13_compare_74951 0 = .ok (.lload_n 0, 1) := by decide +kernel
theorem dJ13_compare_74951_1 : decode cJ13_compare_74951 1 = .ok (.lload_n 2, 1) := by decide +kernel
theorem dJ13_compare_74951_2 : decode cJ13_compare_74951 2 = .ok (.lcmp, 1) := by decide +kernel
theorem dJ13_compare_74951_3 : decode cJ13_compare_74951 3 = .ok (.ifCond .ge 7, 3) := by decide +kernel
theorem dJ13_compare_74951_6 : decode cJ13_compare_74951 6 = .ok (.iconst (-1), 1) := by decide +kernel
theorem dJ13_compare_74951_7 : decode cJ13_compare_74951 7 = .ok (.goto 14, 3) := by decide +kernel
theorem dJ13_compare_74951_10 : decode cJ13_compare_74951 10 = .ok (.lload_n 0, 1) := by decide +kernel
theorem dJ13_compare_74951_11 : decode cJ13_compare_74951 11 = .ok (.lload_n 2, 1) := by decide +kernel
theorem dJ13_compare_74951_12 : decode cJ13_compare_74951 12 = .ok (.lcmp, 1) := by decide +kernel
theorem dJ13_compare_74951_13 : decode cJ13_compare_74951 13 = .ok (.ifCond .ne 7, 3) := by decide +kernel
theorem dJ13_compare_74951_16 : decode cJ13_compare_74951 16 = .ok (.iconst 0, 1) := by decide +kernel
theorem dJ13_compare_74951_17 : decode cJ13_compare_74951 17 = .ok (.goto 4, 3) := by decide +kernel
theorem dJ13_compare_74951_20 : decode cJ13_compare_74951 20 = .ok (.iconst 1, 1) := by decide +kernel
theorem dJ13_compare_74951_21 : decode cJ13_compare_74951 21 = .ok (.ireturn, 1) := by decide +kernel
theorem dJ13_compareUnsigned_74951_0 : decode cJ13_compareUnsigned_74951 0 = .ok (.lload_n 0, 1) := by decide +kernel
theorem dJ13_compareUnsigned_74951_1 : decode cJ13_compareUnsigned_74951 1 = .ok (.ldc2_w 168, 3) := by decide +kernel
theorem dJ13_compareUnsigned_74951_4 : decode cJ13_compareUnsigned_74951 4 = .ok (.ladd, 1) := by decide +kernel
theorem dJ13_compareUnsigned_74951_5 : decode cJ13_compareUnsigned_74951 5 = .ok (.lload_n 2, 1) := by decide +kernel
theorem dJ13_compareUnsigned_74951_6 : decode cJ13_compareUnsigned_74951 6 = .ok (.ldc2_w 168, 3) := by decide +kernel
theorem dJ13_compareUnsigned_74951_9 : decode cJ13_compareUnsigned_74951 9 = .ok (.ladd, 1) := by decide +kernel
theorem dJ13_compareUnsigned_74951_10 : decode cJ13_compareUnsigned_74951 10 = .ok (.invokestatic 302, 3) := by decide +kernel
theorem dJ13_compareUnsigned_74951_13 : decode cJ13_compareUnsigned_74951 13 = .ok (.ireturn, 1) := by decide +kernel
theorem dJ9_max_7cf53_0 : decode cJ9_max_7cf53 0 = .ok (.iload_n 0, 1) := by decide +kernel
theorem dJ9_max_7cf53_1 : decode cJ9_max_7cf53 1 = .ok (.iload_n 1, 1) := by decide +kernel
theorem dJ9_max_7cf53_2 : decode cJ9_max_7cf53 2 = .ok (.if_icmp .lt 7, 3) := by decide +kernel
theorem dJ9_max_7cf53_5 : decode cJ9_max_7cf53 5 = .ok (.iload_n 0, 1) := by decide +kernel
theorem dJ9_max_7cf53_6 : decode cJ9_max_7cf53 6 = .ok (.goto 4, 3) := by decide +kernel
theorem dJ9_max_7cf53_9 : decode cJ9_max_7cf53 9 = .ok (.iload_n 1, 1) := by decide +kernel
theorem dJ9_max_7cf53_10 : decode cJ9_max_7cf53 10 = .ok (.ireturn, 1) := by decide +kernel
theorem dJ9_min_7cf53_0 : decode cJ9_min_7cf53 0 = .ok (.iload_n 0, 1) := by decide +kernel
theorem dJ9_min_7cf53_1 : decode cJ9_min_7cf53 1 = .ok (.iload_n 1, 1) := by decide +kernel
theorem dJ9_min_7cf53_2 : decode cJ9_min_7cf53 2 = .ok (.if_icmp .gt 7, 3) := by decide +kernel
theorem dJ9_min_7cf53_5 : decode cJ9_min_7cf53 5 = .ok (.iload_n 0, 1) := by decide +kernel
theorem dJ9_min_7cf53_6 : decode cJ9_min_7cf53 6 = .ok (.goto 4, 3) := by decide +kernel
theorem dJ9_min_7cf53_9 : decode cJ9_min_7cf53 9 = .ok (.iload_n 1, 1) := by decide +kernel
theorem dJ9_min_7cf53_10 : decode cJ9_min_7cf53 10 = .ok (.ireturn, 1) := by decide +kernel
theorem dJ0_length_8abf5_0 : decode cJ0_length_8abf5 0 = .ok (.aload_n 0, 1) := by decide +kernel
theorem dJ0_length_8abf5_1 : decode cJ0_length_8abf5 1 = .ok (.getfield 9, 3) := by decide +kernel
theorem dJ0_length_8abf5_4 : decode cJ0_length_8abf5 4 = .ok (.arraylength, 1) := by decide +kernel
theorem dJ0_length_8abf5_5 : decode cJ0_length_8abf5 5 = .ok (.aload_n 0, 1) := by decide +kernel
theorem dJ0_length_8abf5_6 : decode cJ0_length_8abf5 6 = .ok (.invokevirtual 335, 3) := by decide +kernel
theorem dJ0_length_8abf5_9 : decode cJ0_length_8abf5 9 = .ok (.ishr, 1) := by decide +kernel
theorem dJ0_length_8abf5_10 : decode cJ0_length_8abf5 10 = .ok (.ireturn, 1) := by decide +kernel
theorem dJ0_charAt_5068e_0 : decode cJ0_charAt_5068e 0 = .ok (.aload_n 0, 1) := by decide +kernel
theorem dJ0_charAt_5068e_1 : decode cJ0_charAt_5068e 1 = .ok (.invokevirtual 492, 3) := by decide +kernel
theorem dJ0_charAt_5068e_4 : decode cJ0_charAt_5068e 4 = .ok (.ifCond .eq 12, 3) := by decide +kernel
theorem dJ0_charAt_5068e_7 : decode cJ0_charAt_5068e 7 = .ok (.aload_n 0, 1) := by decide +kernel
theorem dJ0_charAt_5068e_8 : decode cJ0_charAt_5068e 8 = .ok (.getfield 9, 3) := by decide +kernel
theorem dJ0_charAt_5068e_11 : decode cJ0_charAt_5068e 11 = .ok (.iload_n 1, 1) := by decide +kernel
theorem dJ0_charAt_5068e_12 : decode cJ0_charAt_5068e 12 = .ok (.invokestatic 495, 3) := by decide +kernel
theorem dJ0_charAt_5068e_15 : decode cJ0_charAt_5068e 15 = .ok (.ireturn, 1) := by decide +kernel
theorem dJ0_charAt_5068e_16 : decode cJ0_charAt_5068e 16 = .ok (.aload_n 0, 1) := by decide +kernel
theorem dJ0_charAt_5068e_17 : decode cJ0_charAt_5068e 17 = .ok (.getfield 9, 3) := by decide +kernel
theorem dJ0_charAt_5068e_20 : decode cJ0_charAt_5068e 20 = .ok (.iload_n 1, 1) := by decide +kernel
theorem dJ0_charAt_5068e_21 : decode cJ0_charAt_5068e 21 = .ok (.invokestatic 498, 3) := by decide +kernel
theorem dJ0_charAt_5068e_24 : decode cJ0_charAt_5068e 24 = .ok (.ireturn, 1) := by decide +kernel
theorem dJ0_coder_7d493_0 : decode cJ0_coder_7d493 0 = .ok (.getstatic 38, 3) := by decide +kernel
theorem dJ0_coder_7d493_3 : decode cJ0_coder_7d493 3 = .ok (.ifCond .eq 10, 3) := by decide +kernel
theorem dJ0_coder_7d493_6 : decode cJ0_coder_7d493 6 = .ok (.aload_n 0, 1) := by decide +kernel
theorem dJ0_coder_7d493_7 : decode cJ0_coder_7d493 7 = .ok (.getfield 15, 3) := by decide +kernel
theorem dJ0_coder_7d493_10 : decode cJ0_coder_7d493 10 = .ok (.goto 4, 3) := by decide +kernel
theorem dJ0_coder_7d493_13 : decode cJ0_coder_7d493 13 = .ok (.iconst 1, 1) := by decide +kernel
theorem dJ0_coder_7d493_14 : decode cJ0_coder_7d493 14 = .ok (.ireturn, 1) := by decide +kernel
theorem dJ0_isLatin1_aae02_0 : decode cJ0_isLatin1_aae02 0 = .ok (.getstatic 38, 3) := by decide +kernel
theorem dJ0_isLatin1_aae02_3 : decode cJ0_isLatin1_aae02 3 = .ok (.ifCond .eq 14, 3) := by decide +kernel
theorem dJ0_isLatin1_aae02_6 : decode cJ0_isLatin1_aae02 6 = .ok (.aload_n 0, 1) := by decide +kernel
theorem dJ0_isLatin1_aae02_7 : decode cJ0_isLatin1_aae02 7 = .ok (.getfield 15, 3) := by decide +kernel
theorem dJ0_isLatin1_aae02_10 : decode cJ0_isLatin1_aae02 10 = .ok (.ifCond .ne 7, 3) := by decide +kernel
theorem dJ0_isLatin1_aae02_13 : decode cJ0_isLatin1_aae02 13 = .ok (.iconst 1, 1) := by decide +kernel
theorem dJ0_isLatin1_aae02_14 : decode cJ0_isLatin1_aae02 14 = .ok (.goto 4, 3) := by decide +kernel
theorem dJ0_isLatin1_aae02_17 : decode cJ0_isLatin1_aae02 17 = .ok (.iconst 0, 1) := by decide +kernel
theorem dJ0_isLatin1_aae02_18 : decode cJ0_isLatin1_aae02 18 = .ok (.ireturn, 1) := by decide +kernel
theorem dJ0_checkIndex_df160_0 : decode cJ0_checkIndex_df160 0 = .ok (.iload_n 0, 1) := by decide +kernel
theorem dJ0_checkIndex_df160_1 : decode cJ0_checkIndex_df160 1 = .ok (.iload_n 1, 1) := by decide +kernel
theorem dJ0_checkIndex_df160_2 : decode cJ0_checkIndex_df160 2 = .ok (.getstatic 1053, 3) := by decide +kernel
theorem dJ0_checkIndex_df160_5 : decode cJ0_checkIndex_df160 5 = .ok (.invokestatic 1059, 3) := by decide +kernel
theorem dJ0_checkIndex_df160_8 : decode cJ0_checkIndex_df160 8 = .ok (.pop, 1) := by decide +kernel
theorem dJ0_checkIndex_df160_9 : decode cJ0_checkIndex_df160 9 = .ok (.return_, 1) := by decide +kernel
theorem dJ1_charAt_3b067_0 : decode cJ1_charAt_3b067 0 = .ok (.iload_n 1, 1) := by decide +kernel
theorem dJ1_charAt_3b067_1 : decode cJ1_charAt_3b067 1 = .ok (.aload_n 0, 1) := by decide +kernel
theorem dJ1_charAt_3b067_2 : decode cJ1_charAt_3b067 2 = .ok (.arraylength, 1) := by decide +kernel
theorem dJ1_charAt_3b067_3 : decode cJ1_charAt_3b067 3 = .ok (.invokestatic 9, 3) := by decide +kernel
theorem dJ1_charAt_3b067_6 : decode cJ1_charAt_3b067 6 = .ok (.aload_n 0, 1) := by decide +kernel
theorem dJ1_charAt_3b067_7 : decode cJ1_charAt_3b067 7 = .ok (.iload_n 1, 1) := by decide +kernel
theorem dJ1_charAt_3b067_8 : decode cJ1_charAt_3b067 8 = .ok (.baload, 1) := by decide +kernel
theorem dJ1_charAt_3b067_9 : decode cJ1_charAt_3b067 9 = .ok (.sipush 255, 3) := by decide +kernel
theorem dJ1_charAt_3b067_12 : decode cJ1_charAt_3b067 12 = .ok (.iand, 1) := by decide +kernel
theorem dJ1_charAt_3b067_13 : decode cJ1_charAt_3b067 13 = .ok (.i2c, 1) := by decide +kernel
theorem dJ1_charAt_3b067_14 : decode cJ1_charAt_3b067 14 = .ok (.ireturn, 1) := by decide +kernel
theorem dJ2_getChar_3b067_0 : decode cJ2_getChar_3b067 0 = .ok (.getstatic 44, 3) := by decide +kernel
theorem dJ2_getChar_3b067_3 : decode cJ2_getChar_3b067 3 = .ok (.ifCond .ne 25, 3) := by decide +kernel
theorem dJ2_getChar_3b067_6 : decode cJ2_getChar_3b067 6 = .ok (.iload_n 1, 1) := by decide +kernel
theorem dJ2_getChar_3b067_7 : decode cJ2_getChar_3b067 7 = .ok (.ifCond .lt 11, 3) := by decide +kernel
theorem dJ2_getChar_3b067_10 : decode cJ2_getChar_3b067 10 = .ok (.iload_n 1, 1) := by decide +kernel
theorem dJ2_getChar_3b067_11 : decode cJ2_getChar_3b067 11 = .ok (.aload_n 0, 1) := by decide +kernel
theorem dJ2_getChar_3b067_12 : decode cJ2_getChar_3b067 12 = .ok (.invokestatic 48, 3) := by decide +kernel
theorem dJ2_getChar_3b067_15 : decode cJ2_getChar_3b067 15 = .ok (.if_icmp .lt 13, 3) := by decide +kernel
theorem dJ2_getChar_3b067_18 : decode cJ2_getChar_3b067 18 = .ok (.new 52, 3) := by decide +kernel
theorem dJ2_getChar_3b067_21 : decode cJ2_getChar_3b067 21 = .ok (.dup, 1) := by decide +kernel
theorem dJ2_getChar_3b067_22 : decode cJ2_getChar_3b067 22 = .ok (.ldc 54, 2) := by decide +kernel
theorem dJ2_getChar_3b067_24 : decode cJ2_getChar_3b067 24 = .ok (.invokespecial 56, 3) := by decide +kernel
theorem dJ2_getChar_3b067_27 : decode cJ2_getChar_3b067 27 = .ok (.athrow, 1) := by decide +kernel
theorem dJ2_getChar_3b067_28 : decode cJ2_getChar_3b067 28 = .ok (.iload_n 1, 1) := by decide +kernel
theorem dJ2_getChar_3b067_29 : decode cJ2_getChar_3b067 29 = .ok (.iconst 1, 1) := by decide +kernel
theorem dJ2_getChar_3b067_30 : decode cJ2_getChar_3b067 30 = .ok (.ishl, 1) := by decide +kernel
theorem dJ2_getChar_3b067_31 : decode cJ2_getChar_3b067 31 = .ok (.istore_n 1, 1) := by decide +kernel
theorem dJ2_getChar_3b067_32 : decode cJ2_getChar_3b067 32 = .ok (.aload_n 0, 1) := by decide +kernel
theorem dJ2_getChar_3b067_33 : decode cJ2_getChar_3b067 33 = .ok (.iload_n 1, 1) := by decide +kernel
theorem dJ2_getChar_3b067_34 : decode cJ2_getChar_3b067 34 = .ok (.iinc 1 1, 3) := by decide +kernel
theorem dJ2_getChar_3b067_37 : decode cJ2_getChar_3b067 37 = .ok (.baload, 1) := by decide +kernel
theorem dJ2_getChar_3b067_38 : decode cJ2_getChar_3b067 38 = .ok (.sipush 255, 3) := by decide +kernel
theorem dJ2_getChar_3b067_41 : decode cJ2_getChar_3b067 41 = .ok (.iand, 1) := by decide +kernel
theorem dJ2_getChar_3b067_42 : decode cJ2_getChar_3b067 42 = .ok (.getstatic 59, 3) := by decide +kernel
theorem dJ2_getChar_3b067_45 : decode cJ2_getChar_3b067 45 = .ok (.ishl, 1) := by decide +kernel
theorem dJ2_getChar_3b067_46 : decode cJ2_getChar_3b067 46 = .ok (.aload_n 0, 1) := by decide +kernel
theorem dJ2_getChar_3b067_47 : decode cJ2_getChar_3b067 47 = .ok (.iload_n 1, 1) := by decide +kernel
theorem dJ2_getChar_3b067_48 : decode cJ2_getChar_3b067 48 = .ok (.baload, 1) := by decide +kernel
theorem dJ2_getChar_3b067_49 : decode cJ2_getChar_3b067 49 = .ok (.sipush 255, 3) := by decide +kernel
theorem dJ2_getChar_3b067_52 : decode cJ2_getChar_3b067 52 = .ok (.iand, 1) := by decide +kernel
theorem dJ2_getChar_3b067_53 : decode cJ2_getChar_3b067 53 = .ok (.getstatic 63, 3) := by decide +kernel
theorem dJ2_getChar_3b067_56 : decode cJ2_getChar_3b067 56 = .ok (.ishl, 1) := by decide +kernel
theorem dJ2_getChar_3b067_57 : decode cJ2_getChar_3b067 57 = .ok (.ior, 1) := by decide +kernel
theorem dJ2_getChar_3b067_58 : decode cJ2_getChar_3b067 58 = .ok (.i2c, 1) := by decide +kernel
theorem dJ2_getChar_3b067_59 : decode cJ2_getChar_3b067 59 = .ok (.ireturn, 1) := by decide +kernel
theorem dJ2_length_9d52b_0 : decode cJ2_length_9d52b 0 = .ok (.aload_n 0, 1) := by decide +kernel
theorem dJ2_length_9d52b_1 : decode cJ2_length_9d52b 1 = .ok (.arraylength, 1) := by decide +kernel
theorem dJ2_length_9d52b_2 : decode cJ2_length_9d52b 2 = .ok (.iconst 1, 1) := by decide +kernel
theorem dJ2_length_9d52b_3 : decode cJ2_length_9d52b 3 = .ok (.ishr, 1) := by decide +kernel
theorem dJ2_length_9d52b_4 : decode cJ2_length_9d52b 4 = .ok (.ireturn, 1) := by decide +kernel
theorem dJ2_charAt_3b067_0 : decode cJ2_charAt_3b067 0 = .ok (.iload_n 1, 1) := by decide +kernel
theorem dJ2_charAt_3b067_1 : decode cJ2_charAt_3b067 1 = .ok (.aload_n 0, 1) := by decide +kernel
theorem dJ2_charAt_3b067_2 : decode cJ2_charAt_3b067 2 = .ok (.invokestatic 67, 3) := by decide +kernel
theorem dJ2_charAt_3b067_5 : decode cJ2_charAt_3b067 5 = .ok (.aload_n 0, 1) := by decide +kernel
theorem dJ2_charAt_3b067_6 : decode cJ2_charAt_3b067 6 = .ok (.iload_n 1, 1) := by decide +kernel
theorem dJ2_charAt_3b067_7 : decode cJ2_charAt_3b067 7 = .ok (.invokestatic 71, 3) := by decide +kernel
theorem dJ2_charAt_3b067_10 : decode cJ2_charAt_3b067 10 = .ok (.ireturn, 1) := by decide +kernel
theorem dJ2_checkIndex_2214a_0 : decode cJ2_checkIndex_2214a 0 = .ok (.iload_n 0, 1) := by decide +kernel
theorem dJ2_checkIndex_2214a_1 : decode cJ2_checkIndex_2214a 1 = .ok (.aload_n 1, 1) := by decide +kernel
theorem dJ2_checkIndex_2214a_2 : decode cJ2_checkIndex_2214a 2 = .ok (.invokestatic 48, 3) := by decide +kernel
theorem dJ2_checkIndex_2214a_5 : decode cJ2_checkIndex_2214a 5 = .ok (.invokestatic 414, 3) := by decide +kernel
theorem dJ2_checkIndex_2214a_8 : decode cJ2_checkIndex_2214a 8 = .ok (.return_, 1) := by decide +kernel
theorem dJxa1e45_init_da8c8_0 : decode cJxa1e45_init_da8c8 0 = .ok (.aload_n 0, 1) := by decide +kernel
theorem dJxa1e45_init_da8c8_1 : decode cJxa1e45_init_da8c8 1 = .ok (.invokespecial 1, 3) := by decide +kernel
theorem dJxa1e45_init_da8c8_4 : decode cJxa1e45_init_da8c8 4 = .ok (.return_, 1) := by decide +kernel
theorem dJxc12de_init_da8c8_0 : decode cJxc12de_init_da8c8 0 = .ok (.aload_n 0, 1) := by decide +kernel
theorem dJxc12de_init_da8c8_1 : decode cJxc12de_init_da8c8 1 = .ok (.invokespecial 1, 3) := by decide +kernel
theorem dJxc12de_init_da8c8_4 : decode cJxc12de_init_da8c8 4 = .ok (.aload_n 0, 1) := by decide +kernel
theorem dJxc12de_init_da8c8_5 : decode cJxc12de_init_da8c8 5 = .ok (.iconst 0, 1) := by decide +kernel
theorem dJxc12de_init_da8c8_6 : decode cJxc12de_init_da8c8 6 = .ok (.putfield 7, 3) := by decide +kernel
theorem dJxc12de_init_da8c8_9 : decode cJxc12de_init_da8c8 9 = .ok (.return_, 1) := by decide +kernel
theorem dJx4a65c_init_da8c8_0 : decode cJx4a65c_init_da8c8 0 = .ok (.aload_n 0, 1) := by decide +kernel
theorem dJx4a65c_init_da8c8_1 : decode cJx4a65c_init_da8c8 1 = .ok (.invokespecial 1, 3) := by decide +kernel
theorem dJx4a65c_init_da8c8_4 : decode cJx4a65c_init_da8c8 4 = .ok (.aload_n 0, 1) := by decide +kernel
theorem dJx4a65c_init_da8c8_5 : decode cJx4a65c_init_da8c8 5 = .ok (.getstatic 39, 3) := by decide +kernel
theorem dJx4a65c_init_da8c8_8 : decode cJx4a65c_init_da8c8 8 = .ok (.putfield 9, 3) := by decide +kernel
theorem dJx4a65c_init_da8c8_11 : decode cJx4a65c_init_da8c8 11 = .ok (.return_, 1) := by decide +kernel
theorem dJx4a65c_grow_92f84_0 : decode cJx4a65c_grow_92f84 0 = .ok (.aload_n 0, 1) := by decide +kernel
theorem dJx4a65c_grow_92f84_1 : decode cJx4a65c_grow_92f84 1 = .ok (.getfield 9, 3) := by decide +kernel
theorem dJx4a65c_grow_92f84_4 : decode cJx4a65c_grow_92f84 4 = .ok (.arraylength, 1) := by decide +kernel
theorem dJx4a65c_grow_92f84_5 : decode cJx4a65c_grow_92f84 5 = .ok (.istore_n 2, 1) := by decide +kernel
theorem dJx4a65c_grow_92f84_6 : decode cJx4a65c_grow_92f84 6 = .ok (.iload_n 2, 1) := by decide +kernel
theorem dJx4a65c_grow_92f84_7 : decode cJx4a65c_grow_92f84 7 = .ok (.ifCond .gt 13, 3) := by decide +kernel
theorem dJx4a65c_grow_92f84_10 : decode cJx4a65c_grow_92f84 10 = .ok (.aload_n 0, 1) := by decide +kernel
theorem dJx4a65c_grow_92f84_11 : decode cJx4a65c_grow_92f84 11 = .ok (.getfield 9, 3) := by decide +kernel
theorem dJx4a65c_grow_92f84_14 : decode cJx4a65c_grow_92f84 14 = .ok (.getstatic 39, 3) := by decide +kernel
theorem dJx4a65c_grow_92f84_17 : decode cJx4a65c_grow_92f84 17 = .ok (.if_acmp .eq 28, 3) := by decide +kernel
theorem dJx4a65c_grow_92f84_20 : decode cJx4a65c_grow_92f84 20 = .ok (.iload_n 2, 1) := by decide +kernel
theorem dJx4a65c_grow_92f84_21 : decode cJx4a65c_grow_92f84 21 = .ok (.iload_n 1, 1) := by decide +kernel
theorem dJx4a65c_grow_92f84_22 : decode cJx4a65c_grow_92f84 22 = .ok (.iload_n 2, 1) := by decide +kernel
theorem dJx4a65c_grow_92f84_23 : decode cJx4a65c_grow_92f84 23 = .ok (.isub, 1) := by decide +kernel
theorem dJx4a65c_grow_92f84_24 : decode cJx4a65c_grow_92f84 24 = .ok (.iload_n 2, 1) := by decide +kernel
theorem dJx4a65c_grow_92f84_25 : decode cJx4a65c_grow_92f84 25 = .ok (.iconst 1, 1) := by decide +kernel
theorem dJx4a65c_grow_92f84_26 : decode cJx4a65c_grow_92f84 26 = .ok (.ishr, 1) := by decide +kernel
theorem dJx4a65c_grow_92f84_27 : decode cJx4a65c_grow_92f84 27 = .ok (.invokestatic 73, 3) := by decide +kernel
theorem dJx4a65c_grow_92f84_30 : decode cJx4a65c_grow_92f84 30 = .ok (.istore_n 3, 1) := by decide +kernel
theorem dJx4a65c_grow_92f84_31 : decode cJx4a65c_grow_92f84 31 = .ok (.aload_n 0, 1) := by decide +kernel
theorem dJx4a65c_grow_92f84_32 : decode cJx4a65c_grow_92f84 32 = .ok (.aload_n 0, 1) := by decide +kernel
theorem dJx4a65c_grow_92f84_33 : decode cJx4a65c_grow_92f84 33 = .ok (.getfield 9, 3) := by decide +kernel
theorem dJx4a65c_grow_92f84_36 : decode cJx4a65c_grow_92f84 36 = .ok (.iload_n 3, 1) := by decide +kernel
theorem dJx4a65c_grow_92f84_37 : decode cJx4a65c_grow_92f84 37 = .ok (.invokestatic 66, 3) := by decide +kernel
theorem dJx4a65c_grow_92f84_40 : decode cJx4a65c_grow_92f84 40 = .ok (.dup_x1, 1) := by decide +kernel
theorem dJx4a65c_grow_92f84_41 : decode cJx4a65c_grow_92f84 41 = .ok (.putfield 9, 3) := by decide +kernel
theorem dJx4a65c_grow_92f84_44 : decode cJx4a65c_grow_92f84 44 = .ok (.areturn, 1) := by decide +kernel
theorem dJx4a65c_grow_92f84_45 : decode cJx4a65c_grow_92f84 45 = .ok (.aload_n 0, 1) := by decide +kernel
theorem dJx4a65c_grow_92f84_46 : decode cJx4a65c_grow_92f84 46 = .ok (.bipush 10, 2) := by decide +kernel
theorem dJx4a65c_grow_92f84_48 : decode cJx4a65c_grow_92f84 48 = .ok (.iload_n 1, 1) := by decide +kernel
theorem dJx4a65c_grow_92f84_49 : decode cJx4a65c_grow_92f84 49 = .ok (.invokestatic 79, 3) := by decide +kernel
theorem dJx4a65c_grow_92f84_52 : decode cJx4a65c_grow_92f84 52 = .ok (.anewarray 7, 3) := by decide +kernel
theorem dJx4a65c_grow_92f84_55 : decode cJx4a65c_grow_92f84 55 = .ok (.dup_x1, 1) := by decide +kernel
theorem dJx4a65c_grow_92f84_56 : decode cJx4a65c_grow_92f84 56 = .ok (.putfield 9, 3) := by decide +kernel
theorem dJx4a65c_grow_92f84_59 : decode cJx4a65c_grow_92f84 59 = .ok (.areturn, 1) := by decide +kernel
theorem dJx4a65c_grow_d5877_0 : decode cJx4a65c_grow_d5877 0 = .ok (.aload_n 0, 1) := by decide +kernel
theorem dJx4a65c_grow_d5877_1 : decode cJx4a65c_grow_d5877 1 = .ok (.aload_n 0, 1) := by decide +kernel
theorem dJx4a65c_grow_d5877_2 : decode cJx4a65c_grow_d5877 2 = .ok (.getfield 48, 3) := by decide +kernel
theorem dJx4a65c_grow_d5877_5 : decode cJx4a65c_grow_d5877 5 = .ok (.iconst 1, 1) := by decide +kernel
theorem dJx4a65c_grow_d5877_6 : decode cJx4a65c_grow_d5877 6 = .ok (.iadd, 1) := by decide +kernel
theorem dJx4a65c_grow_d5877_7 : decode cJx4a65c_grow_d5877 7 = .ok (.invokevirtual 69, 3) := by decide +kernel
theorem dJx4a65c_grow_d5877_10 : decode cJx4a65c_grow_d5877 10 = .ok (.areturn, 1) := by decide +kernel
theorem dJx4a65c_size_8abf5_0 : decode cJx4a65c_size_8abf5 0 = .ok (.aload_n 0, 1) := by decide +kernel
theorem dJx4a65c_size_8abf5_1 : decode cJx4a65c_size_8abf5 1 = .ok (.getfield 48, 3) := by decide +kernel
theorem dJx4a65c_size_8abf5_4 : decode cJx4a65c_size_8abf5 4 = .ok (.ireturn, 1) := by decide +kernel
theorem dJx4a65c_elementData_915e3_0 : decode cJx4a65c_elementData_915e3 0 = .ok (.aload_n 0, 1) := by decide +kernel
theorem dJx4a65c_elementData_915e3_1 : decode cJx4a65c_elementData_915e3 1 = .ok (.getfield 9, 3) := by decide +kernel
theorem dJx4a65c_elementData_915e3_4 : decode cJx4a65c_elementData_915e3 4 = .ok (.iload_n 1, 1) := by decide +kernel
theorem dJx4a65c_elementData_915e3_5 : decode cJx4a65c_elementData_915e3 5 = .ok (.aaload, 1) := by decide +kernel
theorem dJx4a65c_elementData_915e3_6 : decode cJx4a65c_elementData_915e3 6 = .ok (.areturn, 1) := by decide +kernel
theorem dJx4a65c_get_915e3_0 : decode cJx4a65c_get_915e3 0 = .ok (.iload_n 1, 1) := by decide +kernel
theorem dJx4a65c_get_915e3_1 : decode cJx4a65c_get_915e3 1 = .ok (.aload_n 0, 1) := by decide +kernel
theorem dJx4a65c_get_915e3_2 : decode cJx4a65c_get_915e3 2 = .ok (.getfield 48, 3) := by decide +kernel
theorem dJx4a65c_get_915e3_5 : decode cJx4a65c_get_915e3 5 = .ok (.invokestatic 118, 3) := by decide +kernel
theorem dJx4a65c_get_915e3_8 : decode cJx4a65c_get_915e3 8 = .ok (.pop, 1) := by decide +kernel
theorem dJx4a65c_get_915e3_9 : decode cJx4a65c_get_915e3 9 = .ok (.aload_n 0, 1) := by decide +kernel
theorem dJx4a65c_get_915e3_10 : decode cJx4a65c_get_915e3 10 = .ok (.iload_n 1, 1) := by decide +kernel
theorem dJx4a65c_get_915e3_11 : decode cJx4a65c_get_915e3 11 = .ok (.invokevirtual 123, 3) := by decide +kernel
theorem dJx4a65c_get_915e3_14 : decode cJx4a65c_get_915e3 14 = .ok (.areturn, 1) := by decide +kernel
theorem dJx4a65c_add_72be8_0 : decode cJx4a65c_add_72be8 0 = .ok (.iload_n 3, 1) := by decide +kernel
theorem dJx4a65c_add_72be8_1 : decode cJx4a65c_add_72be8 1 = .ok (.aload_n 2, 1) := by decide +kernel
theorem dJx4a65c_add_72be8_2 : decode cJx4a65c_add_72be8 2 = .ok (.arraylength, 1) := by decide +kernel
theorem dJx4a65c_add_72be8_3 : decode cJx4a65c_add_72be8 3 = .ok (.if_icmp .ne 8, 3) := by decide +kernel
theorem dJx4a65c_add_72be8_6 : decode cJx4a65c_add_72be8 6 = .ok (.aload_n 0, 1) := by decide +kernel
theorem dJx4a65c_add_72be8_7 : decode cJx4a65c_add_72be8 7 = .ok (.invokevirtual 129, 3) := by decide +kernel
theorem dJx4a65c_add_72be8_10 : decode cJx4a65c_add_72be8 10 = .ok (.astore_n 2, 1) := by decide +kernel
theorem dJx4a65c_add_72be8_11 : decode cJx4a65c_add_72be8 11 = .ok (.aload_n 2, 1) := by decide +kernel
theorem dJx4a65c_add_72be8_12 : decode cJx4a65c_add_72be8 12 = .ok (.iload_n 3, 1) := by decide +kernel
theorem dJx4a65c_add_72be8_13 : decode cJx4a65c_add_72be8 13 = .ok (.aload_n 1, 1) := by decide +kernel
theorem dJx4a65c_add_72be8_14 : decode cJx4a65c_add_72be8 14 = .ok (.aastore, 1) := by decide +kernel
theorem dJx4a65c_add_72be8_15 : decode cJx4a65c_add_72be8 15 = .ok (.aload_n 0, 1) := by decide +kernel
theorem dJx4a65c_add_72be8_16 : decode cJx4a65c_add_72be8 16 = .ok (.iload_n 3, 1) := by decide +kernel
theorem dJx4a65c_add_72be8_17 : decode cJx4a65c_add_72be8 17 = .ok (.iconst 1, 1) := by decide +kernel
theorem dJx4a65c_add_72be8_18 : decode cJx4a65c_add_72be8 18 = .ok (.iadd, 1) := by decide +kernel
theorem dJx4a65c_add_72be8_19 : decode cJx4a65c_add_72be8 19 = .ok (.putfield 48, 3) := by decide +kernel
theorem dJx4a65c_add_72be8_22 : decode cJx4a65c_add_72be8 22 = .ok (.return_, 1) := by decide +kernel
theorem dJx4a65c_add_9ea2d_0 : decode cJx4a65c_add_9ea2d 0 = .ok (.aload_n 0, 1) := by decide +kernel
theorem dJx4a65c_add_9ea2d_1 : decode cJx4a65c_add_9ea2d 1 = .ok (.dup, 1) := by decide +kernel
theorem dJx4a65c_add_9ea2d_2 : decode cJx4a65c_add_9ea2d 2 = .ok (.getfield 63, 3) := by decide +kernel
theorem dJx4a65c_add_9ea2d_5 : decode cJx4a65c_add_9ea2d 5 = .ok (.iconst 1, 1) := by decide +kernel
theorem dJx4a65c_add_9ea2d_6 : decode cJx4a65c_add_9ea2d 6 = .ok (.iadd, 1) := by decide +kernel
theorem dJx4a65c_add_9ea2d_7 : decode cJx4a65c_add_9ea2d 7 = .ok (.putfield 63, 3) := by decide +kernel
theorem dJx4a65c_add_9ea2d_10 : decode cJx4a65c_add_9ea2d 10 = .ok (.aload_n 0, 1) := by decide +kernel
theorem dJx4a65c_add_9ea2d_11 : decode cJx4a65c_add_9ea2d 11 = .ok (.aload_n 1, 1) := by decide +kernel
theorem dJx4a65c_add_9ea2d_12 : decode cJx4a65c_add_9ea2d 12 = .ok (.aload_n 0, 1) := by decide +kernel
theorem dJx4a65c_add_9ea2d_13 : decode cJx4a65c_add_9ea2d 13 = .ok (.getfield 9, 3) := by decide +kernel
theorem dJx4a65c_add_9ea2d_16 : decode cJx4a65c_add_9ea2d 16 = .ok (.aload_n 0, 1) := by decide +kernel
theorem dJx4a65c_add_9ea2d_17 : decode cJx4a65c_add_9ea2d 17 = .ok (.getfield 48, 3) := by decide +kernel
theorem dJx4a65c_add_9ea2d_20 : decode cJx4a65c_add_9ea2d 20 = .ok (.invokevirtual 131, 3) := by decide +kernel
theorem dJx4a65c_add_9ea2d_23 : decode cJx4a65c_add_9ea2d 23 = .ok (.iconst 1, 1) := by decide +kernel
theorem dJx4a65c_add_9ea2d_24 : decode cJx4a65c_add_9ea2d 24 = .ok (.ireturn, 1) := by decide +kernel
theorem dJx4a65c_clear_da8c8_0 : decode cJx4a65c_clear_da8c8 0 = .ok (.aload_n 0, 1) := by decide +kernel
theorem dJx4a65c_clear_da8c8_1 : decode cJx4a65c_clear_da8c8 1 = .ok (.dup, 1) := by decide +kernel
theorem dJx4a65c_clear_da8c8_2 : decode cJx4a65c_clear_da8c8 2 = .ok (.getfield 63, 3) := by decide +kernel
theorem dJx4a65c_clear_da8c8_5 : decode cJx4a65c_clear_da8c8 5 = .ok (.iconst 1, 1) := by decide +kernel
theorem dJx4a65c_clear_da8c8_6 : decode cJx4a65c_clear_da8c8 6 = .ok (.iadd, 1) := by decide +kernel
theorem dJx4a65c_clear_da8c8_7 : decode cJx4a65c_clear_da8c8 7 = .ok (.putfield 63, 3) := by decide +kernel
theorem dJx4a65c_clear_da8c8_10 : decode cJx4a65c_clear_da8c8 10 = .ok (.aload_n 0, 1) := by decide +kernel
theorem dJx4a65c_clear_da8c8_11 : decode cJx4a65c_clear_da8c8 11 = .ok (.getfield 9, 3) := by decide +kernel
theorem dJx4a65c_clear_da8c8_14 : decode cJx4a65c_clear_da8c8 14 = .ok (.astore_n 1, 1) := by decide +kernel
theorem dJx4a65c_clear_da8c8_15 : decode cJx4a65c_clear_da8c8 15 = .ok (.aload_n 0, 1) := by decide +kernel
theorem dJx4a65c_clear_da8c8_16 : decode cJx4a65c_clear_da8c8 16 = .ok (.getfield 48, 3) := by decide +kernel
theorem dJx4a65c_clear_da8c8_19 : decode cJx4a65c_clear_da8c8 19 = .ok (.istore_n 2, 1) := by decide +kernel
theorem dJx4a65c_clear_da8c8_20 : decode cJx4a65c_clear_da8c8 20 = .ok (.aload_n 0, 1) := by decide +kernel
theorem dJx4a65c_clear_da8c8_21 : decode cJx4a65c_clear_da8c8 21 = .ok (.iconst 0, 1) := by decide +kernel
theorem dJx4a65c_clear_da8c8_22 : decode cJx4a65c_clear_da8c8 22 = .ok (.dup_x1, 1) := by decide +kernel
theorem dJx4a65c_clear_da8c8_23 : decode cJx4a65c_clear_da8c8 23 = .ok (.putfield 48, 3) := by decide +kernel
theorem dJx4a65c_clear_da8c8_26 : decode cJx4a65c_clear_da8c8 26 = .ok (.istore_n 3, 1) := by decide +kernel
theorem dJx4a65c_clear_da8c8_27 : decode cJx4a65c_clear_da8c8 27 = .ok (.iload_n 3, 1) := by decide +kernel
theorem dJx4a65c_clear_da8c8_28 : decode cJx4a65c_clear_da8c8 28 = .ok (.iload_n 2, 1) := by decide +kernel
theorem dJx4a65c_clear_da8c8_29 : decode cJx4a65c_clear_da8c8 29 = .ok (.if_icmp .ge 13, 3) := by decide +kernel
theorem dJx4a65c_clear_da8c8_32 : decode cJx4a65c_clear_da8c8 32 = .ok (.aload_n 1, 1) := by decide +kernel
theorem dJx4a65c_clear_da8c8_33 : decode cJx4a65c_clear_da8c8 33 = .ok (.iload_n 3, 1) := by decide +kernel
theorem dJx4a65c_clear_da8c8_34 : decode cJx4a65c_clear_da8c8 34 = .ok (.aconst_null, 1) := by decide +kernel
theorem dJx4a65c_clear_da8c8_35 : decode cJx4a65c_clear_da8c8 35 = .ok (.aastore, 1) := by decide +kernel
theorem dJx4a65c_clear_da8c8_36 : decode cJx4a65c_clear_da8c8 36 = .ok (.iinc 3 1, 3) := by decide +kernel
theorem dJx4a65c_clear_da8c8_39 : decode cJx4a65c_clear_da8c8 39 = .ok (.goto (-12), 3) := by decide +kernel
theorem dJx4a65c_clear_da8c8_42 : decode cJx4a65c_clear_da8c8 42 = .ok (.return_, 1) := by decide +kernel
theorem dJ7_copyOf_1904c_0 : decode cJ7_copyOf_1904c 0 = .ok (.aload_n 0, 1) := by decide +kernel
theorem dJ7_copyOf_1904c_1 : decode cJ7_copyOf_1904c 1 = .ok (.iload_n 1, 1) := by decide +kernel
theorem dJ7_copyOf_1904c_2 : decode cJ7_copyOf_1904c 2 = .ok (.aload_n 0, 1) := by decide +kernel
theorem dJ7_copyOf_1904c_3 : decode cJ7_copyOf_1904c 3 = .ok (.invokevirtual 86, 3) := by decide +kernel
theorem dJ7_copyOf_1904c_6 : decode cJ7_copyOf_1904c 6 = .ok (.invokestatic 300, 3) := by decide +kernel
theorem dJ7_copyOf_1904c_9 : decode cJ7_copyOf_1904c 9 = .ok (.areturn, 1) := by decide +kernel
theorem dJ7_copyOf_6403c_0 : decode cJ7_copyOf_6403c 0 = .ok (.aload_n 2, 1) := by decide +kernel
theorem dJ7_copyOf_6403c_1 : decode cJ7_copyOf_6403c 1 = .ok (.ldc 110, 2) := by decide +kernel
theorem dJ7_copyOf_6403c_3 : decode cJ7_copyOf_6403c 3 = .ok (.if_acmp .ne 10, 3) := by decide +kernel
theorem dJ7_copyOf_6403c_6 : decode cJ7_copyOf_6403c 6 = .ok (.iload_n 1, 1) := by decide +kernel
theorem dJ7_copyOf_6403c_7 : decode cJ7_copyOf_6403c 7 = .ok (.anewarray 2, 3) := by decide +kernel
theorem dJ7_copyOf_6403c_10 : decode cJ7_copyOf_6403c 10 = .ok (.goto 14, 3) := by decide +kernel
theorem dJ7_copyOf_6403c_13 : decode cJ7_copyOf_6403c 13 = .ok (.aload_n 2, 1) := by decide +kernel
theorem dJ7_copyOf_6403c_14 : decode cJ7_copyOf_6403c 14 = .ok (.invokevirtual 90, 3) := by decide +kernel
theorem dJ7_copyOf_6403c_17 : decode cJ7_copyOf_6403c 17 = .ok (.iload_n 1, 1) := by decide +kernel
theorem dJ7_copyOf_6403c_18 : decode cJ7_copyOf_6403c 18 = .ok (.invokestatic 95, 3) := by decide +kernel
theorem dJ7_copyOf_6403c_21 : decode cJ7_copyOf_6403c 21 = .ok (.checkcast 110, 3) := by decide +kernel
theorem dJ7_copyOf_6403c_24 : decode cJ7_copyOf_6403c 24 = .ok (.astore_n 3, 1) := by decide +kernel
theorem dJ7_copyOf_6403c_25 : decode cJ7_copyOf_6403c 25 = .ok (.aload_n 0, 1) := by decide +kernel
theorem dJ7_copyOf_6403c_26 : decode cJ7_copyOf_6403c 26 = .ok (.iconst 0, 1) := by decide +kernel
theorem dJ7_copyOf_6403c_27 : decode cJ7_copyOf_6403c 27 = .ok (.aload_n 3, 1) := by decide +kernel
theorem dJ7_copyOf_6403c_28 : decode cJ7_copyOf_6403c 28 = .ok (.iconst 0, 1) := by decide +kernel
theorem dJ7_copyOf_6403c_29 : decode cJ7_copyOf_6403c 29 = .ok (.aload_n 0, 1) := by decide +kernel
theorem dJ7_copyOf_6403c_30 : decode cJ7_copyOf_6403c 30 = .ok (.arraylength, 1) := by decide +kernel
theorem dJ7_copyOf_6403c_31 : decode cJ7_copyOf_6403c 31 = .ok (.iload_n 1, 1) := by decide +kernel
theorem dJ7_copyOf_6403c_32 : decode cJ7_copyOf_6403c 32 = .ok (.invokestatic 304, 3) := by decide +kernel
theorem dJ7_copyOf_6403c_35 : decode cJ7_copyOf_6403c 35 = .ok (.invokestatic 150, 3) := by decide +kernel
theorem dJ7_copyOf_6403c_38 : decode cJ7_copyOf_6403c 38 = .ok (.aload_n 3, 1) := by decide +kernel
theorem dJ7_copyOf_6403c_39 : decode cJ7_copyOf_6403c 39 = .ok (.areturn, 1) := by decide +kernel
theorem dJ7_copyOf_9075b_0 : decode cJ7_copyOf_9075b 0 = .ok (.iload_n 1, 1) := by decide +kernel
theorem dJ7_copyOf_9075b_1 : decode cJ7_copyOf_9075b 1 = .ok (.aload_n 0, 1) := by decide +kernel
theorem dJ7_copyOf_9075b_2 : decode cJ7_copyOf_9075b 2 = .ok (.arraylength, 1) := by decide +kernel
theorem dJ7_copyOf_9075b_3 : decode cJ7_copyOf_9075b 3 = .ok (.if_icmp .ne 11, 3) := by decide +kernel
theorem dJ7_copyOf_9075b_6 : decode cJ7_copyOf_9075b 6 = .ok (.aload_n 0, 1) := by decide +kernel
theorem dJ7_copyOf_9075b_7 : decode cJ7_copyOf_9075b 7 = .ok (.invokevirtual 310, 3) := by decide +kernel
theorem dJ7_copyOf_9075b_10 : decode cJ7_copyOf_9075b 10 = .ok (.checkcast 311, 3) := by decide +kernel
theorem dJ7_copyOf_9075b_13 : decode cJ7_copyOf_9075b 13 = .ok (.areturn, 1) := by decide +kernel
theorem dJ7_copyOf_9075b_14 : decode cJ7_copyOf_9075b 14 = .ok (.iload_n 1, 1) := by decide +kernel
theorem dJ7_copyOf_9075b_15 : decode cJ7_copyOf_9075b 15 = .ok (.newarray .byte, 2) := by decide +kernel
theorem dJ7_copyOf_9075b_17 : decode cJ7_copyOf_9075b 17 = .ok (.astore_n 2, 1) := by decide +kernel
theorem dJ7_copyOf_9075b_18 : decode cJ7_copyOf_9075b 18 = .ok (.aload_n 0, 1) := by decide +kernel
theorem dJ7_copyOf_9075b_19 : decode cJ7_copyOf_9075b 19 = .ok (.iconst 0, 1) := by decide +kernel
theorem dJ7_copyOf_9075b_20 : decode cJ7_copyOf_9075b 20 = .ok (.aload_n 2, 1) := by decide +kernel
theorem dJ7_copyOf_9075b_21 : decode cJ7_copyOf_9075b 21 = .ok (.iconst 0, 1) := by decide +kernel
theorem dJ7_copyOf_9075b_22 : decode cJ7_copyOf_9075b 22 = .ok (.aload_n 0, 1) := by decide +kernel
theorem dJ7_copyOf_9075b_23 : decode cJ7_copyOf_9075b 23 = .ok (.arraylength, 1) := by decide +kernel
theorem dJ7_copyOf_9075b_24 : decode cJ7_copyOf_9075b 24 = .ok (.iload_n 1, 1) := by decide +kernel
theorem dJ7_copyOf_9075b_25 : decode cJ7_copyOf_9075b 25 = .ok (.invokestatic 304, 3) := by decide +kernel
theorem dJ7_copyOf_9075b_28 : decode cJ7_copyOf_9075b 28 = .ok (.invokestatic 150, 3) := by decide +kernel
theorem dJ7_copyOf_9075b_31 : decode cJ7_copyOf_9075b 31 = .ok (.aload_n 2, 1) := by decide +kernel
theorem dJ7_copyOf_9075b_32 : decode cJ7_copyOf_9075b 32 = .ok (.areturn, 1) := by decide +kernel
theorem dJ7_copyOf_59c91_0 : decode cJ7_copyOf_59c91 0 = .ok (.iload_n 1, 1) := by decide +kernel
theorem dJ7_copyOf_59c91_1 : decode cJ7_copyOf_59c91 1 = .ok (.aload_n 0, 1) := by decide +kernel
theorem dJ7_copyOf_59c91_2 : decode cJ7_copyOf_59c91 2 = .ok (.arraylength, 1) := by decide +kernel
theorem dJ7_copyOf_59c91_3 : decode cJ7_copyOf_59c91 3 = .ok (.if_icmp .ne 11, 3) := by decide +kernel
theorem dJ7_copyOf_59c91_6 : decode cJ7_copyOf_59c91 6 = .ok (.aload_n 0, 1) := by decide +kernel
theorem dJ7_copyOf_59c91_7 : decode cJ7_copyOf_59c91 7 = .ok (.invokevirtual 316, 3) := by decide +kernel
theorem dJ7_copyOf_59c91_10 : decode cJ7_copyOf_59c91 10 = .ok (.checkcast 317, 3) := by decide +kernel
theorem dJ7_copyOf_59c91_13 : decode cJ7_copyOf_59c91 13 = .ok (.areturn, 1) := by decide +kernel
theorem dJ7_copyOf_59c91_14 : decode cJ7_copyOf_59c91 14 = .ok (.iload_n 1, 1) := by decide +kernel
theorem dJ7_copyOf_59c91_15 : decode cJ7_copyOf_59c91 15 = .ok (.newarray .int, 2) := by decide +kernel
theorem dJ7_copyOf_59c91_17 : decode cJ7_copyOf_59c91 17 = .ok (.astore_n 2, 1) := by decide +kernel
theorem dJ7_copyOf_59c91_18 : decode cJ7_copyOf_59c91 18 = .ok (.aload_n 0, 1) := by decide +kernel
theorem dJ7_copyOf_59c91_19 : decode cJ7_copyOf_59c91 19 = .ok (.iconst 0, 1) := by decide +kernel
theorem dJ7_copyOf_59c91_20 : decode cJ7_copyOf_59c91 20 = .ok (.aload_n 2, 1) := by decide +kernel
theorem dJ7_copyOf_59c91_21 : decode cJ7_copyOf_59c91 21 = .ok (.iconst 0, 1) := by decide +kernel
theorem dJ7_copyOf_59c91_22 : decode cJ7_copyOf_59c91 22 = .ok (.aload_n 0, 1) := by decide +kernel
theorem dJ7_copyOf_59c91_23 : decode cJ7_copyOf_59c91 23 = .ok (.arraylength, 1) := by decide +kernel
theorem dJ7_copyOf_59c91_24 : decode cJ7_copyOf_59c91 24 = .ok (.iload_n 1, 1) := by decide +kernel
theorem dJ7_copyOf_59c91_25 : decode cJ7_copyOf_59c91 25 = .ok (.invokestatic 304, 3) := by decide +kernel
theorem dJ7_copyOf_59c91_28 : decode cJ7_copyOf_59c91 28 = .ok (.invokestatic 150, 3) := by decide +kernel
theorem dJ7_copyOf_59c91_31 : decode cJ7_copyOf_59c91 31 = .ok (.aload_n 2, 1) := by decide +kernel
theorem dJ7_copyOf_59c91_32 : decode cJ7_copyOf_59c91 32 = .ok (.areturn, 1) := by decide +kernel
theorem dJ15_checkIndex_7cf53_0 : decode cJ15_checkIndex_7cf53 0 = .ok (.iload_n 0, 1) := by decide +kernel
theorem dJ15_checkIndex_7cf53_1 : decode cJ15_checkIndex_7cf53 1 = .ok (.iload_n 1, 1) := by decide +kernel
theorem dJ15_checkIndex_7cf53_2 : decode cJ15_checkIndex_7cf53 2 = .ok (.aconst_null, 1) := by decide +kernel
theorem dJ15_checkIndex_7cf53_3 : decode cJ15_checkIndex_7cf53 3 = .ok (.invokestatic 105, 3) := by decide +kernel
theorem dJ15_checkIndex_7cf53_6 : decode cJ15_checkIndex_7cf53 6 = .ok (.ireturn, 1) := by decide +kernel
theorem dJ8_newLength_cabcc_0 : decode cJ8_newLength_cabcc 0 = .ok (.iload_n 0, 1) := by decide +kernel
theorem dJ8_newLength_cabcc_1 : decode cJ8_newLength_cabcc 1 = .ok (.iload_n 1, 1) := by decide +kernel
theorem dJ8_newLength_cabcc_2 : decode cJ8_newLength_cabcc 2 = .ok (.iload_n 2, 1) := by decide +kernel
theorem dJ8_newLength_cabcc_3 : decode cJ8_newLength_cabcc 3 = .ok (.invokestatic 194, 3) := by decide +kernel
theorem dJ8_newLength_cabcc_6 : decode cJ8_newLength_cabcc 6 = .ok (.iadd, 1) := by decide +kernel
theorem dJ8_newLength_cabcc_7 : decode cJ8_newLength_cabcc 7 = .ok (.istore_n 3, 1) := by decide +kernel
theorem dJ8_newLength_cabcc_8 : decode cJ8_newLength_cabcc 8 = .ok (.iconst 0, 1) := by decide +kernel
theorem dJ8_newLength_cabcc_9 : decode cJ8_newLength_cabcc 9 = .ok (.iload_n 3, 1) := by decide +kernel
theorem dJ8_newLength_cabcc_10 : decode cJ8_newLength_cabcc 10 = .ok (.if_icmp .ge 11, 3) := by decide +kernel
theorem dJ8_newLength_cabcc_13 : decode cJ8_newLength_cabcc 13 = .ok (.iload_n 3, 1) := by decide +kernel
theorem dJ8_newLength_cabcc_14 : decode cJ8_newLength_cabcc 14 = .ok (.ldc 200, 2) := by decide +kernel
theorem dJ8_newLength_cabcc_16 : decode cJ8_newLength_cabcc 16 = .ok (.if_icmp .gt 5, 3) := by decide +kernel
theorem dJ8_newLength_cabcc_19 : decode cJ8_newLength_cabcc 19 = .ok (.iload_n 3, 1) := by decide +kernel
theorem dJ8_newLength_cabcc_20 : decode cJ8_newLength_cabcc 20 = .ok (.ireturn, 1) := by decide +kernel
theorem dJ8_newLength_cabcc_21 : decode cJ8_newLength_cabcc 21 = .ok (.iload_n 0, 1) := by decide +kernel
theorem dJ8_newLength_cabcc_22 : decode cJ8_newLength_cabcc 22 = .ok (.iload_n 1, 1) := by decide +kernel
theorem dJ8_newLength_cabcc_23 : decode cJ8_newLength_cabcc 23 = .ok (.invokestatic 201, 3) := by decide +kernel
theorem dJ8_newLength_cabcc_26 : decode cJ8_newLength_cabcc 26 = .ok (.ireturn, 1) := by decide +kernel
theorem dJ8_hugeLength_7cf53_0 : decode cJ8_hugeLength_7cf53 0 = .ok (.iload_n 0, 1) := by decide +kernel
theorem dJ8_hugeLength_7cf53_1 : decode cJ8_hugeLength_7cf53 1 = .ok (.iload_n 1, 1) := by decide +kernel
theorem dJ8_hugeLength_7cf53_2 : decode cJ8_hugeLength_7cf53 2 = .ok (.iadd, 1) := by decide +kernel
theorem dJ8_hugeLength_7cf53_3 : decode cJ8_hugeLength_7cf53 3 = .ok (.istore_n 2, 1) := by decide +kernel
theorem dJ8_hugeLength_7cf53_4 : decode cJ8_hugeLength_7cf53 4 = .ok (.iload_n 2, 1) := by decide +kernel
theorem dJ8_hugeLength_7cf53_5 : decode cJ8_hugeLength_7cf53 5 = .ok (.ifCond .ge 44, 3) := by decide +kernel
theorem dJ8_hugeLength_7cf53_8 : decode cJ8_hugeLength_7cf53 8 = .ok (.new 204, 3) := by decide +kernel
theorem dJ8_hugeLength_7cf53_11 : decode cJ8_hugeLength_7cf53 11 = .ok (.dup, 1) := by decide +kernel
theorem dJ8_hugeLength_7cf53_12 : decode cJ8_hugeLength_7cf53 12 = .ok (.new 89, 3) := by decide +kernel
theorem dJ8_hugeLength_7cf53_15 : decode cJ8_hugeLength_7cf53 15 = .ok (.dup, 1) := by decide +kernel
theorem dJ8_hugeLength_7cf53_16 : decode cJ8_hugeLength_7cf53 16 = .ok (.invokespecial 91, 3) := by decide +kernel
theorem dJ8_hugeLength_7cf53_19 : decode cJ8_hugeLength_7cf53 19 = .ok (.ldc 206, 2) := by decide +kernel
theorem dJ8_hugeLength_7cf53_21 : decode cJ8_hugeLength_7cf53 21 = .ok (.invokevirtual 94, 3) := by decide +kernel
theorem dJ8_hugeLength_7cf53_24 : decode cJ8_hugeLength_7cf53 24 = .ok (.iload_n 0, 1) := by decide +kernel
theorem dJ8_hugeLength_7cf53_25 : decode cJ8_hugeLength_7cf53 25 = .ok (.invokevirtual 98, 3) := by decide +kernel
theorem dJ8_hugeLength_7cf53_28 : decode cJ8_hugeLength_7cf53 28 = .ok (.ldc 208, 2) := by decide +kernel
theorem dJ8_hugeLength_7cf53_30 : decode cJ8_hugeLength_7cf53 30 = .ok (.invokevirtual 94, 3) := by decide +kernel
theorem dJ8_hugeLength_7cf53_33 : decode cJ8_hugeLength_7cf53 33 = .ok (.iload_n 1, 1) := by decide +kernel
theorem dJ8_hugeLength_7cf53_34 : decode cJ8_hugeLength_7cf53 34 = .ok (.invokevirtual 98, 3) := by decide +kernel
theorem dJ8_hugeLength_7cf53_37 : decode cJ8_hugeLength_7cf53 37 = .ok (.ldc 210, 2) := by decide +kernel
theorem dJ8_hugeLength_7cf53_39 : decode cJ8_hugeLength_7cf53 39 = .ok (.invokevirtual 94, 3) := by decide +kernel
theorem dJ8_hugeLength_7cf53_42 : decode cJ8_hugeLength_7cf53 42 = .ok (.invokevirtual 101, 3) := by decide +kernel
theorem dJ8_hugeLength_7cf53_45 : decode cJ8_hugeLength_7cf53 45 = .ok (.invokespecial 212, 3) := by decide +kernel
theorem dJ8_hugeLength_7cf53_48 : decode cJ8_hugeLength_7cf53 48 = .ok (.athrow, 1) := by decide +kernel
theorem dJ8_hugeLength_7cf53_49 : decode cJ8_hugeLength_7cf53 49 = .ok (.iload_n 2, 1) := by decide +kernel
theorem dJ8_hugeLength_7cf53_50 : decode cJ8_hugeLength_7cf53 50 = .ok (.ldc 200, 2) := by decide +kernel
theorem dJ8_hugeLength_7cf53_52 : decode cJ8_hugeLength_7cf53 52 = .ok (.if_icmp .gt 6, 3) := by decide +kernel
theorem dJ8_hugeLength_7cf53_55 : decode cJ8_hugeLength_7cf53 55 = .ok (.ldc 200, 2) := by decide +kernel
theorem dJ8_hugeLength_7cf53_57 : decode cJ8_hugeLength_7cf53 57 = .ok (.ireturn, 1) := by decide +kernel
theorem dJ8_hugeLength_7cf53_58 : decode cJ8_hugeLength_7cf53 58 = .ok (.iload_n 2, 1) := by decide +kernel
theorem dJ8_hugeLength_7cf53_59 : decode cJ8_hugeLength_7cf53 59 = .ok (.ireturn, 1) := by decide +kernel
theorem dJ3_checkIndex_8e157_0 : decode cJ3_checkIndex_8e157 0 = .ok (.iload_n 0, 1) := by decide +kernel
theorem dJ3_checkIndex_8e157_1 : decode cJ3_checkIndex_8e157 1 = .ok (.ifCond .lt 8, 3) := by decide +kernel
theorem dJ3_checkIndex_8e157_4 : decode cJ3_checkIndex_8e157 4 = .ok (.iload_n 0, 1) := by decide +kernel
theorem dJ3_checkIndex_8e157_5 : decode cJ3_checkIndex_8e157 5 = .ok (.iload_n 1, 1) := by decide +kernel
theorem dJ3_checkIndex_8e157_6 : decode cJ3_checkIndex_8e157 6 = .ok (.if_icmp .lt 10, 3) := by decide +kernel
theorem dJ3_checkIndex_8e157_9 : decode cJ3_checkIndex_8e157 9 = .ok (.aload_n 2, 1) := by decide +kernel
theorem dJ3_checkIndex_8e157_10 : decode cJ3_checkIndex_8e157 10 = .ok (.iload_n 0, 1) := by decide +kernel
theorem dJ3_checkIndex_8e157_11 : decode cJ3_checkIndex_8e157 11 = .ok (.iload_n 1, 1) := by decide +kernel
theorem dJ3_checkIndex_8e157_12 : decode cJ3_checkIndex_8e157 12 = .ok (.invokestatic 95, 3) := by decide +kernel
theorem dJ3_checkIndex_8e157_15 : decode cJ3_checkIndex_8e157 15 = .ok (.athrow, 1) := by decide +kernel
theorem dJ3_checkIndex_8e157_16 : decode cJ3_checkIndex_8e157 16 = .ok (.iload_n 0, 1) := by decide +kernel
theorem dJ3_checkIndex_8e157_17 : decode cJ3_checkIndex_8e157 17 = .ok (.ireturn, 1) := by decide +kernel
theorem dL_next_0 : decode cL_next 0 = .ok (.aload_n 1, 1) := by decide +kernel
theorem dL_next_1 : decode cL_next 1 = .ok (.iconst 0, 1) := by decide +kernel
theorem dL_next_2 : decode cL_next 2 = .ok (.aload_n 0, 1) := by decide +kernel
theorem dL_next_3 : decode cL_next 3 = .ok (.invokevirtual 7, 3) := by decide +kernel
theorem dL_next_6 : decode cL_next 6 = .ok (.i2l, 1) := by decide +kernel
theorem dL_next_7 : decode cL_next 7 = .ok (.lastore, 1) := by decide +kernel
theorem dL_next_8 : decode cL_next 8 = .ok (.goto 6, 3) := by decide +kernel
theorem dL_next_11 : decode cL_next 11 = .ok (.astore_n 2, 1) := by decide +kernel
theorem dL_next_12 : decode cL_next 12 = .ok (.iconst 1, 1) := by decide +kernel
theorem dL_next_13 : decode cL_next 13 = .ok (.ireturn, 1) := by decide +kernel
theorem dL_next_14 : decode cL_next 14 = .ok (.iconst 0, 1) := by decide +kernel
theorem dL_next_15 : decode cL_next 15 = .ok (.ireturn, 1) := by decide +kernel
theorem dL_law_0 : decode cL_law 0 = .ok (.new 8, 3) := by decide +kernel
theorem dL_law_3 : decode cL_law 3 = .ok (.dup, 1) := by decide +kernel
theorem dL_law_4 : decode cL_law 4 = .ok (.invokespecial 15, 3) := by decide +kernel
theorem dL_law_7 : decode cL_law 7 = .ok (.astore_n 1, 1) := by decide +kernel
theorem dL_law_8 : decode cL_law 8 = .ok (.new 16, 3) := by decide +kernel
theorem dL_law_11 : decode cL_law 11 = .ok (.dup, 1) := by decide +kernel
theorem dL_law_12 : decode cL_law 12 = .ok (.invokespecial 18, 3) := by decide +kernel
theorem dL_law_15 : decode cL_law 15 = .ok (.astore_n 2, 1) := by decide +kernel
theorem dL_law_16 : decode cL_law 16 = .ok (.iconst 1, 1) := by decide +kernel
theorem dL_law_17 : decode cL_law 17 = .ok (.newarray .long, 2) := by decide +kernel
theorem dL_law_19 : decode cL_law 19 = .ok (.astore_n 3, 1) := by decide +kernel
theorem dL_law_20 : decode cL_law 20 = .ok (.iconst 0, 1) := by decide +kernel
theorem dL_law_21 : decode cL_law 21 = .ok (.istore 4, 2) := by decide +kernel
theorem dL_law_23 : decode cL_law 23 = .ok (.iload 4, 2) := by decide +kernel
theorem dL_law_25 : decode cL_law 25 = .ok (.aload_n 0, 1) := by decide +kernel
theorem dL_law_26 : decode cL_law 26 = .ok (.arraylength, 1) := by decide +kernel
theorem dL_law_27 : decode cL_law 27 = .ok (.iconst 4, 1) := by decide +kernel
theorem dL_law_28 : decode cL_law 28 = .ok (.isub, 1) := by decide +kernel
theorem dL_law_29 : decode cL_law 29 = .ok (.if_icmp .gt 247, 3) := by decide +kernel
theorem dL_law_32 : decode cL_law 32 = .ok (.aload_n 0, 1) := by decide +kernel
theorem dL_law_33 : decode cL_law 33 = .ok (.iload 4, 2) := by decide +kernel
theorem dL_law_35 : decode cL_law 35 = .ok (.iaload, 1) := by decide +kernel
theorem dL_law_36 : decode cL_law 36 = .ok (.bipush 7, 2) := by decide +kernel
theorem dL_law_38 : decode cL_law 38 = .ok (.iand, 1) := by decide +kernel
theorem dL_law_39 : decode cL_law 39 = .ok (.tableswitch 231 0 6 #[41, 110, 123, 167, 192, 205, 218], 41) := by decide +kernel
theorem dL_law_80 : decode cL_law 80 = .ok (.aload_n 1, 1) := by decide +kernel
theorem dL_law_81 : decode cL_law 81 = .ok (.aload_n 0, 1) := by decide +kernel
theorem dL_law_82 : decode cL_law 82 = .ok (.iload 4, 2) := by decide +kernel
theorem dL_law_84 : decode cL_law 84 = .ok (.iconst 1, 1) := by decide +kernel
theorem dL_law_85 : decode cL_law 85 = .ok (.iadd, 1) := by decide +kernel
theorem dL_law_86 : decode cL_law 86 = .ok (.iaload, 1) := by decide +kernel
theorem dL_law_87 : decode cL_law 87 = .ok (.i2l, 1) := by decide +kernel
theorem dL_law_88 : decode cL_law 88 = .ok (.bipush 32, 2) := by decide +kernel
theorem dL_law_90 : decode cL_law 90 = .ok (.lshl, 1) := by decide +kernel
theorem dL_law_91 : decode cL_law 91 = .ok (.aload_n 0, 1) := by decide +kernel
theorem dL_law_92 : decode cL_law 92 = .ok (.iload 4, 2) := by decide +kernel
theorem dL_law_94 : decode cL_law 94 = .ok (.iconst 2, 1) := by decide +kernel
theorem dL_law_95 : decode cL_law 95 = .ok (.iadd, 1) := by decide +kernel
theorem dL_law_96 : decode cL_law 96 = .ok (.iaload, 1) := by decide +kernel
theorem dL_law_97 : decode cL_law 97 = .ok (.i2l, 1) := by decide +kernel
theorem dL_law_98 : decode cL_law 98 = .ok (.ldc2_w 19, 3) := by decide +kernel
theorem dL_law_101 : decode cL_law 101 = .ok (.land, 1) := by decide +kernel
theorem dL_law_102 : decode cL_law 102 = .ok (.lor, 1) := by decide +kernel
theorem dL_law_103 : decode cL_law 103 = .ok (.aload_n 0, 1) := by decide +kernel
theorem dL_law_104 : decode cL_law 104 = .ok (.iload 4, 2) := by decide +kernel
theorem dL_law_106 : decode cL_law 106 = .ok (.iconst 3, 1) := by decide +kernel
theorem dL_law_107 : decode cL_law 107 = .ok (.iadd, 1) := by decide +kernel
theorem dL_law_108 : decode cL_law 108 = .ok (.iaload, 1) := by decide +kernel
theorem dL_law_109 : decode cL_law 109 = .ok (.invokevirtual 21, 3) := by decide +kernel
theorem dL_law_112 : decode cL_law 112 = .ok (.aload_n 2, 1) := by decide +kernel
theorem dL_law_113 : decode cL_law 113 = .ok (.aload_n 0, 1) := by decide +kernel
theorem dL_law_114 : decode cL_law 114 = .ok (.iload 4, 2) := by decide +kernel
theorem dL_law_116 : decode cL_law 116 = .ok (.iconst 1, 1) := by decide +kernel
theorem dL_law_117 : decode cL_law 117 = .ok (.iadd, 1) := by decide +kernel
theorem dL_law_118 : decode cL_law 118 = .ok (.iaload, 1) := by decide +kernel
theorem dL_law_119 : decode cL_law 119 = .ok (.i2l, 1) := by decide +kernel
theorem dL_law_120 : decode cL_law 120 = .ok (.bipush 32, 2) := by decide +kernel
theorem dL_law_122 : decode cL_law 122 = .ok (.lshl, 1) := by decide +kernel
theorem dL_law_123 : decode cL_law 123 = .ok (.aload_n 0, 1) := by decide +kernel
theorem dL_law_124 : decode cL_law 124 = .ok (.iload 4, 2) := by decide +kernel
theorem dL_law_126 : decode cL_law 126 = .ok (.iconst 2, 1) := by decide +kernel
theorem dL_law_127 : decode cL_law 127 = .ok (.iadd, 1) := by decide +kernel
theorem dL_law_128 : decode cL_law 128 = .ok (.iaload, 1) := by decide +kernel
theorem dL_law_129 : decode cL_law 129 = .ok (.i2l, 1) := by decide +kernel
theorem dL_law_130 : decode cL_law 130 = .ok (.ldc2_w 19, 3) := by decide +kernel
theorem dL_law_133 : decode cL_law 133 = .ok (.land, 1) := by decide +kernel
theorem dL_law_134 : decode cL_law 134 = .ok (.lor, 1) := by decide +kernel
theorem dL_law_135 : decode cL_law 135 = .ok (.aload_n 0, 1) := by decide +kernel
theorem dL_law_136 : decode cL_law 136 = .ok (.iload 4, 2) := by decide +kernel
theorem dL_law_138 : decode cL_law 138 = .ok (.iconst 3, 1) := by decide +kernel
theorem dL_law_139 : decode cL_law 139 = .ok (.iadd, 1) := by decide +kernel
theorem dL_law_140 : decode cL_law 140 = .ok (.iaload, 1) := by decide +kernel
theorem dL_law_141 : decode cL_law 141 = .ok (.invokevirtual 25, 3) := by decide +kernel
theorem dL_law_144 : decode cL_law 144 = .ok (.if_icmp .eq 126, 3) := by decide +kernel
theorem dL_law_147 : decode cL_law 147 = .ok (.iconst 0, 1) := by decide +kernel
theorem dL_law_148 : decode cL_law 148 = .ok (.ireturn, 1) := by decide +kernel
theorem dL_law_149 : decode cL_law 149 = .ok (.aload_n 1, 1) := by decide +kernel
theorem dL_law_150 : decode cL_law 150 = .ok (.invokevirtual 26, 3) := by decide +kernel
theorem dL_law_153 : decode cL_law 153 = .ok (.aload_n 2, 1) := by decide +kernel
theorem dL_law_154 : decode cL_law 154 = .ok (.invokevirtual 29, 3) := by decide +kernel
theorem dL_law_157 : decode cL_law 157 = .ok (.if_icmp .eq 113, 3) := by decide +kernel
theorem dL_law_160 : decode cL_law 160 = .ok (.iconst 0, 1) := by decide +kernel
theorem dL_law_161 : decode cL_law 161 = .ok (.ireturn, 1) := by decide +kernel
theorem dL_law_162 : decode cL_law 162 = .ok (.aload_n 1, 1) := by decide +kernel
theorem dL_law_163 : decode cL_law 163 = .ok (.aload_n 3, 1) := by decide +kernel
theorem dL_law_164 : decode cL_law 164 = .ok (.invokestatic 30, 3) := by decide +kernel
theorem dL_law_167 : decode cL_law 167 = .ok (.istore 5, 2) := by decide +kernel
theorem dL_law_169 : decode cL_law 169 = .ok (.aload_n 2, 1) := by decide +kernel
theorem dL_law_170 : decode cL_law 170 = .ok (.invokevirtual 35, 3) := by decide +kernel
theorem dL_law_173 : decode cL_law 173 = .ok (.istore 6, 2) := by decide +kernel
theorem dL_law_175 : decode cL_law 175 = .ok (.aload_n 2, 1) := by decide +kernel
theorem dL_law_176 : decode cL_law 176 = .ok (.invokevirtual 36, 3) := by decide +kernel
theorem dL_law_179 : decode cL_law 179 = .ok (.iload 5, 2) := by decide +kernel
theorem dL_law_181 : decode cL_law 181 = .ok (.if_icmp .eq 5, 3) := by decide +kernel
theorem dL_law_184 : decode cL_law 184 = .ok (.iconst 0, 1) := by decide +kernel
theorem dL_law_185 : decode cL_law 185 = .ok (.ireturn, 1) := by decide +kernel
theorem dL_law_186 : decode cL_law 186 = .ok (.iload 5, 2) := by decide +kernel
theorem dL_law_188 : decode cL_law 188 = .ok (.ifCond .ne 15, 3) := by decide +kernel
theorem dL_law_191 : decode cL_law 191 = .ok (.aload_n 3, 1) := by decide +kernel
theorem dL_law_192 : decode cL_law 192 = .ok (.iconst 0, 1) := by decide +kernel
theorem dL_law_193 : decode cL_law 193 = .ok (.laload, 1) := by decide +kernel
theorem dL_law_194 : decode cL_law 194 = .ok (.iload 6, 2) := by decide +kernel
theorem dL_law_196 : decode cL_law 196 = .ok (.i2l, 1) := by decide +kernel
theorem dL_law_197 : decode cL_law 197 = .ok (.lcmp, 1) := by decide +kernel
theorem dL_law_198 : decode cL_law 198 = .ok (.ifCond .eq 5, 3) := by decide +kernel
theorem dL_law_201 : decode cL_law 201 = .ok (.iconst 0, 1) := by decide +kernel
theorem dL_law_202 : decode cL_law 202 = .ok (.ireturn, 1) := by decide +kernel
theorem dL_law_203 : decode cL_law 203 = .ok (.goto 67, 3) := by decide +kernel
theorem dL_law_206 : decode cL_law 206 = .ok (.aload_n 1, 1) := by decide +kernel
theorem dL_law_207 : decode cL_law 207 = .ok (.aload_n 0, 1) := by decide +kernel
theorem dL_law_208 : decode cL_law 208 = .ok (.iload 4, 2) := by decide +kernel
theorem dL_law_210 : decode cL_law 210 = .ok (.iconst 1, 1) := by decide +kernel
theorem dL_law_211 : decode cL_law 211 = .ok (.iadd, 1) := by decide +kernel
theorem dL_law_212 : decode cL_law 212 = .ok (.iaload, 1) := by decide +kernel
theorem dL_law_213 : decode cL_law 213 = .ok (.invokevirtual 39, 3) := by decide +kernel
theorem dL_law_216 : decode cL_law 216 = .ok (.aload_n 2, 1) := by decide +kernel
theorem dL_law_217 : decode cL_law 217 = .ok (.aload_n 0, 1) := by decide +kernel
theorem dL_law_218 : decode cL_law 218 = .ok (.iload 4, 2) := by decide +kernel
theorem dL_law_220 : decode cL_law 220 = .ok (.iconst 1, 1) := by decide +kernel
theorem dL_law_221 : decode cL_law 221 = .ok (.iadd, 1) := by decide +kernel
theorem dL_law_222 : decode cL_law 222 = .ok (.iaload, 1) := by decide +kernel
theorem dL_law_223 : decode cL_law 223 = .ok (.invokevirtual 43, 3) := by decide +kernel
theorem dL_law_226 : decode cL_law 226 = .ok (.if_icmp .eq 44, 3) := by decide +kernel
theorem dL_law_229 : decode cL_law 229 = .ok (.iconst 0, 1) := by decide +kernel
theorem dL_law_230 : decode cL_law 230 = .ok (.ireturn, 1) := by decide +kernel
theorem dL_law_231 : decode cL_law 231 = .ok (.aload_n 1, 1) := by decide +kernel
theorem dL_law_232 : decode cL_law 232 = .ok (.invokevirtual 44, 3) := by decide +kernel
theorem dL_law_235 : decode cL_law 235 = .ok (.aload_n 2, 1) := by decide +kernel
theorem dL_law_236 : decode cL_law 236 = .ok (.invokevirtual 47, 3) := by decide +kernel
theorem dL_law_239 : decode cL_law 239 = .ok (.if_icmp .eq 31, 3) := by decide +kernel
theorem dL_law_242 : decode cL_law 242 = .ok (.iconst 0, 1) := by decide +kernel
theorem dL_law_243 : decode cL_law 243 = .ok (.ireturn, 1) := by decide +kernel
theorem dL_law_244 : decode cL_law 244 = .ok (.aload_n 1, 1) := by decide +kernel
theorem dL_law_245 : decode cL_law 245 = .ok (.invokevirtual 48, 3) := by decide +kernel
theorem dL_law_248 : decode cL_law 248 = .ok (.aload_n 2, 1) := by decide +kernel
theorem dL_law_249 : decode cL_law 249 = .ok (.invokevirtual 51, 3) := by decide +kernel
theorem dL_law_252 : decode cL_law 252 = .ok (.if_icmp .eq 18, 3) := by decide +kernel
theorem dL_law_255 : decode cL_law 255 = .ok (.iconst 0, 1) := by decide +kernel
theorem dL_law_256 : decode cL_law 256 = .ok (.ireturn, 1) := by decide +kernel
theorem dL_law_257 : decode cL_law 257 = .ok (.aload_n 1, 1) := by decide +kernel
theorem dL_law_258 : decode cL_law 258 = .ok (.invokevirtual 52, 3) := by decide +kernel
theorem dL_law_261 : decode cL_law 261 = .ok (.aload_n 2, 1) := by decide +kernel
theorem dL_law_262 : decode cL_law 262 = .ok (.invokevirtual 55, 3) := by decide +kernel
theorem dL_law_265 : decode cL_law 265 = .ok (.if_icmp .eq 5, 3) := by decide +kernel
theorem dL_law_268 : decode cL_law 268 = .ok (.iconst 0, 1) := by decide +kernel
theorem dL_law_269 : decode cL_law 269 = .ok (.ireturn, 1) := by decide +kernel
theorem dL_law_270 : decode cL_law 270 = .ok (.iinc 4 4, 3) := by decide +kernel
theorem dL_law_273 : decode cL_law 273 = .ok (.goto (-250), 3) := by decide +kernel
theorem dL_law_276 : decode cL_law 276 = .ok (.iconst 1, 1) := by decide +kernel
theorem dL_law_277 : decode cL_law 277 = .ok (.ireturn, 1) := by decide +kernel
end
section
abbrev zC : Type := (FieldType × vp_A) ⊕ (Nat × List Value)
/-- a store: how many cells, how many slots in all, each cell -/
abbrev zS : Type := Nat × Nat × (Nat → zC)
abbrev zL : Type := List (Nat × Value)
/-- a method: its name, its bytes, its locals, what it returns -/
abbrev zM : Type := MethodName × ByteArray × Nat × Option FieldType
/-- a place: pc, locals, stack, store -/
abbrev zO : Type := Nat × zL × List Value × zS
abbrev zX : Type := Nat → zM → Nat → zL → List Value → zS → zO → Prop
/-- the words that hold all along; those of nest mates apart -/
def z_tb : List Cond := lw_tbl.filter goodWord
def z_isN (w : Cond) : Bool := match w with
  | .methodLinkNest _ _ _ _ => true
  | .fieldLinkNest _ _ _ _ _ _ => true
  | _ => false
def z_nb : List Cond := tables_1.filter z_isN
def mX0_init : zM := (yX0_init, cX0_init, 3, none)
def mX0_size : zM := (yX0_size, cX0_size, 1, (some .int))
def mX0_clear : zM := (yX0_clear, cX0_clear, 1, none)
def mX0_at : zM := (yX0_at, cX0_at, 2, (some .int))
def mX0_holds : zM := (yX0_holds, cX0_holds, 3, (some .boolean))
def mX0_append : zM := (yX0_append, cX0_append, 2, (some .boolean))
def mX0_appendPart : zM := (yX0_appendPart, cX0_appendPart, 5, (some .boolean))
def mX0_appendDecimal : zM := (yX0_appendDecimal, cX0_appendDecimal, 6, (some .boolean))
def mX0_behindBlanks : zM := (yX0_behindBlanks, cX0_behindBlanks, 3, (some .int))
def mX0_behindNameBytes : zM := (yX0_behindNameBytes, cX0_behindNameBytes, 3, (some .int))
def mX0_spells : zM := (yX0_spells, cX0_spells, 5, (some .boolean))
def mX0_isSame : zM := (yX0_isSame, cX0_isSame, 6, (some .boolean))
def mX1_init : zM := (yX1_init, cX1_init, 1, none)
def mX1_size : zM := (yX1_size, cX1_size, 1, (some .int))
def mX1_clear : zM := (yX1_clear, cX1_clear, 1, none)
def mX1_at : zM := (yX1_at, cX1_at, 2, (some .int))
def mX1_add : zM := (yX1_add, cX1_add, 2, none)
def mX2_init : zM := (yX2_init, cX2_init, 6, none)
def mX2_places : zM := (yX2_places, cX2_places, 1, (some .int))
def mX2_placeLength : zM := (yX2_placeLength, cX2_placeLength, 2, (some .int))
def mX2_placeAt : zM := (yX2_placeAt, cX2_placeAt, 8, (some .int))
def mX3_init : zM := (yX3_init, cX3_init, 2, none)
def mX3_size : zM := (yX3_size, cX3_size, 1, (some .int))
def mX3_clear : zM := (yX3_clear, cX3_clear, 1, none)
def mX3_isFull : zM := (yX3_isFull, cX3_isFull, 1, (some .boolean))
def mX3_at : zM := (yX3_at, cX3_at, 2, (some (.object "MacroReader$Part")))
def mX3_spare : zM := (yX3_spare, cX3_spare, 1, (some (.object "MacroReader$Part")))
def mX3_open : zM := (yX3_open, cX3_open, 3, (some (.object "MacroReader$Part")))
def mX3_close : zM := (yX3_close, cX3_close, 1, none)
def mX3_top : zM := (yX3_top, cX3_top, 1, (some (.object "MacroReader$Part")))
def mX3_topKind : zM := (yX3_topKind, cX3_topKind, 2, (some .int))
def mX3_innermostLines : zM := (yX3_innermostLines, cX3_innermostLines, 3, (some (.object "MacroReader$Part")))
def mX3_innermostMacro : zM := (yX3_innermostMacro, cX3_innermostMacro, 3, (some (.object "MacroReader$Part")))
def mX4_init : zM := (yX4_init, cX4_init, 1, none)
def mX4_hasLines : zM := (yX4_hasLines, cX4_hasLines, 1, (some .boolean))
def mX4_lay : zM := (yX4_lay, cX4_lay, 5, none)
def mX4_gather : zM := (yX4_gather, cX4_gather, 9, (some .boolean))
def mX4_keep : zM := (yX4_keep, cX4_keep, 5, none)
def mX4_write : zM := (yX4_write, cX4_write, 8, (some .boolean))
def mX4_writeAt : zM := (yX4_writeAt, cX4_writeAt, 7, (some .int))
def mX5_init : zM := (yX5_init, cX5_init, 1, none)
def mX5_exchange : zM := (yX5_exchange, cX5_exchange, 5, (some (.object "MacroReader$Bytes")))
def mX5_addLine : zM := (yX5_addLine, cX5_addLine, 4, none)
def mX5_bytes : zM := (yX5_bytes, cX5_bytes, 1, (some (.object "MacroReader$Bytes")))
def mX5_count : zM := (yX5_count, cX5_count, 1, (some .int))
def mX5_start : zM := (yX5_start, cX5_start, 2, (some .int))
def mX5_end : zM := (yX5_end, cX5_end, 2, (some .int))
def mX5_word : zM := (yX5_word, cX5_word, 2, (some .int))
def mX5_find : zM := (yX5_find, cX5_find, 10, (some .int))
def mX6_init : zM := (yX6_init, cX6_init, 2, none)
def mX6_count : zM := (yX6_count, cX6_count, 1, (some .int))
def mX6_kind : zM := (yX6_kind, cX6_kind, 2, (some .int))
def mX6_start : zM := (yX6_start, cX6_start, 2, (some .int))
def mX6_end : zM := (yX6_end, cX6_end, 2, (some .int))
def mX6_second : zM := (yX6_second, cX6_second, 1, (some .long))
def mX6_takeAll : zM := (yX6_takeAll, cX6_takeAll, 4, (some .boolean))
def mX6_take : zM := (yX6_take, cX6_take, 3, (some .int))
def mX6_takeNumber : zM := (yX6_takeNumber, cX6_takeNumber, 6, (some .int))
def mX6_baseMarked : zM := (yX6_baseMarked, cX6_baseMarked, 1, (some .int))
def mX6_hasRoom : zM := (yX6_hasRoom, cX6_hasRoom, 5, (some .boolean))
def mX6_takeCharacter : zM := (yX6_takeCharacter, cX6_takeCharacter, 3, (some .int))
def mX6_takeText : zM := (yX6_takeText, cX6_takeText, 4, (some .int))
def mX6_behindCharacter : zM := (yX6_behindCharacter, cX6_behindCharacter, 5, (some .int))
def mX6_worthOfEscape : zM := (yX6_worthOfEscape, cX6_worthOfEscape, 1, (some .int))
def mX6_takeSign : zM := (yX6_takeSign, cX6_takeSign, 3, (some .int))
def mX7_init : zM := (yX7_init, cX7_init, 1, none)
def mX7_type : zM := (yX7_type, cX7_type, 5, (some .boolean))
def mX7_begin : zM := (yX7_begin, cX7_begin, 1, (some .int))
def mX7_next : zM := (yX7_next, cX7_next, 3, (some .int))
def mX7_octet : zM := (yX7_octet, cX7_octet, 2, (some .int))
def mX7_line : zM := (yX7_line, cX7_line, 1, (some .int))
def mX7_fault : zM := (yX7_fault, cX7_fault, 1, (some .int))
def mX7_depth : zM := (yX7_depth, cX7_depth, 1, (some .int))
def mX7_limit : zM := (yX7_limit, cX7_limit, 2, (some .int))
def mX7_readLine : zM := (yX7_readLine, cX7_readLine, 5, (some .int))
def mX7_fill : zM := (yX7_fill, cX7_fill, 5, (some .boolean))
def mX7_obey : zM := (yX7_obey, cX7_obey, 2, (some .int))
def mX7_readIf : zM := (yX7_readIf, cX7_readIf, 3, (some .int))
def mX7_readElse : zM := (yX7_readElse, cX7_readElse, 2, (some .int))
def mX7_readEndif : zM := (yX7_readEndif, cX7_readEndif, 1, (some .int))
def mX7_readRept : zM := (yX7_readRept, cX7_readRept, 5, (some .int))
def mX7_readMacro : zM := (yX7_readMacro, cX7_readMacro, 2, (some .int))
def mX7_readMacroLines : zM := (yX7_readMacroLines, cX7_readMacroLines, 3, (some .int))
def mX7_endLines : zM := (yX7_endLines, cX7_endLines, 2, (some .int))
def mX7_tell : zM := (yX7_tell, cX7_tell, 2, (some .int))
def mX7_tellUnended : zM := (yX7_tellUnended, cX7_tellUnended, 1, (some .int))
def mX7_isEndMissing : zM := (yX7_isEndMissing, cX7_isEndMissing, 2, (some .boolean))
def mX7_isNumberAlone : zM := (yX7_isNumberAlone, cX7_isNumberAlone, 1, (some .boolean))
def mX7_isHeading : zM := (yX7_isHeading, cX7_isHeading, 3, (some .boolean))
def mX7_isTaken : zM := (yX7_isTaken, cX7_isTaken, 2, (some .boolean))
def mX7_macroNamed : zM := (yX7_macroNamed, cX7_macroNamed, 6, (some (.object "MacroReader$Macro")))
def mX7_wordIn : zM := (yX7_wordIn, cX7_wordIn, 4, (some .int))
def mX7_spelling : zM := (yX7_spelling, cX7_spelling, 1, (some (.object "java/lang/String")))
def mX7_endWord : zM := (yX7_endWord, cX7_endWord, 1, (some .int))
def mX7_isBlank : zM := (yX7_isBlank, cX7_isBlank, 1, (some .boolean))
def mX7_isDigit : zM := (yX7_isDigit, cX7_isDigit, 1, (some .boolean))
def mX7_isNameByte : zM := (yX7_isNameByte, cX7_isNameByte, 1, (some .boolean))
def mX7_isPrintable : zM := (yX7_isPrintable, cX7_isPrintable, 1, (some .boolean))
def mX7_digitIn : zM := (yX7_digitIn, cX7_digitIn, 3, (some .int))
def mX8_init : zM := (yX8_init, cX8_init, 1, none)
def mX8_thrown : zM := (yX8_thrown, cX8_thrown, 1, (some .int))
def mX8_type : zM := (yX8_type, cX8_type, 5, (some .boolean))
def mX8_isLetter : zM := (yX8_isLetter, cX8_isLetter, 1, (some .boolean))
def mX8_isDigit : zM := (yX8_isDigit, cX8_isDigit, 1, (some .boolean))
def mX8_isNamed : zM := (yX8_isNamed, cX8_isNamed, 1, (some .boolean))
def mX8_digitOf : zM := (yX8_digitOf, cX8_digitOf, 1, (some .int))
def mX8_packed : zM := (yX8_packed, cX8_packed, 7, (some .long))
def mX8_wordOf : zM := (yX8_wordOf, cX8_wordOf, 2, (some .int))
def mX8_ownLine : zM := (yX8_ownLine, cX8_ownLine, 3, (some .int))
def mX8_fail : zM := (yX8_fail, cX8_fail, 2, none)
def mX8_firstWord : zM := (yX8_firstWord, cX8_firstWord, 4, (some .int))
def mX8_endOfLine : zM := (yX8_endOfLine, cX8_endOfLine, 3, (some .int))
def mX8_findEnd : zM := (yX8_findEnd, cX8_findEnd, 12, (some .boolean))
def mX8_reader : zM := (yX8_reader, cX8_reader, 2, (some .int))
def mX8_macroFrame : zM := (yX8_macroFrame, cX8_macroFrame, 2, (some .int))
def mX8_nextLine : zM := (yX8_nextLine, cX8_nextLine, 2, (some .boolean))
def mX8_append : zM := (yX8_append, cX8_append, 2, none)
def mX8_parameterAt : zM := (yX8_parameterAt, cX8_parameterAt, 11, (some .int))
def mX8_appendNumber : zM := (yX8_appendNumber, cX8_appendNumber, 4, none)
def mX8_expand : zM := (yX8_expand, cX8_expand, 6, none)
def mX8_token : zM := (yX8_token, cX8_token, 6, none)
def mX8_character : zM := (yX8_character, cX8_character, 4, (some .int))
def mX8_numberToken : zM := (yX8_numberToken, cX8_numberToken, 9, (some .int))
def mX8_readToken : zM := (yX8_readToken, cX8_readToken, 5, (some .int))
def mX8_readTokens : zM := (yX8_readTokens, cX8_readTokens, 3, none)
def mX8_isSign : zM := (yX8_isSign, cX8_isSign, 3, (some .boolean))
def mX8_isName : zM := (yX8_isName, cX8_isName, 2, (some .boolean))
def mX8_macroNamed : zM := (yX8_macroNamed, cX8_macroNamed, 5, (some .int))
def mX8_nesting : zM := (yX8_nesting, cX8_nesting, 5, none)
def mX8_parametersOf : zM := (yX8_parametersOf, cX8_parametersOf, 5, (some .int))
def mX8_split : zM := (yX8_split, cX8_split, 10, none)
def mX8_enter : zM := (yX8_enter, cX8_enter, 5, none)
def mX8_goBehind : zM := (yX8_goBehind, cX8_goBehind, 1, none)
def mX8_call : zM := (yX8_call, cX8_call, 3, none)
def mX8_structure : zM := (yX8_structure, cX8_structure, 9, none)
def mX8_macro : zM := (yX8_macro, cX8_macro, 4, none)
def mX8_readLine : zM := (yX8_readLine, cX8_readLine, 3, (some .boolean))
def mX8_linesOfSource : zM := (yX8_linesOfSource, cX8_linesOfSource, 3, (some .int))
def mX8_begin : zM := (yX8_begin, cX8_begin, 2, (some .int))
def mX8_next : zM := (yX8_next, cX8_next, 1, (some .int))
def mX8_octet : zM := (yX8_octet, cX8_octet, 2, (some .int))
def mX8_line : zM := (yX8_line, cX8_line, 1, (some .int))
def mX8_fault : zM := (yX8_fault, cX8_fault, 1, (some .int))
def mX8_depth : zM := (yX8_depth, cX8_depth, 1, (some .int))
def mJ13_compare_74951 : zM := (yJ13_compare_74951, cJ13_compare_74951, 4, (some .int))
def mJ13_compareUnsigned_74951 : zM := (yJ13_compareUnsigned_74951, cJ13_compareUnsigned_74951, 4, (some .int))
def mL_next : zM := (yL_next, cL_next, 3, (some .int))
end
section
def z_at (i : Nat) (w : Cond) : Bool := decide (lw_tbl[i]? = some w) && goodWord w
def z_atN (i : Nat) (w : Cond) : Bool := decide (tables_1[i]? = some w) && z_isN w
theorem z_at_in {i : Nat} {w : Cond} (h : z_at i w = true) : w ∈ z_tb := by
  simp only [z_at, Bool.and_eq_true, decide_eq_true_eq] at h
  exact List.mem_filter.mpr ⟨List.mem_of_getElem? h.1, h.2⟩
theorem z_atN_in {i : Nat} {w : Cond} (h : z_atN i w = true) : w ∈ z_nb := by
  simp only [z_atN, Bool.and_eq_true, decide_eq_true_eq] at h
  exact List.mem_filter.mpr ⟨List.mem_of_getElem? h.1, h.2⟩
theorem z_at_rf {i : Nat} {w : Cond} (h : lw_tbl[i]? = some w) (hg : goodWord w = true) : w ∈ z_tb := List.mem_filter.mpr ⟨List.mem_of_getElem? h, hg⟩
def z_clB (r : vw_C) : Bool := (List.range r.2.2).all (fun k => (parseFieldDescriptor (r.2.1 k).2.2.1).isSome) && ((List.range r.2.2).all fun a => (List.range r.2.2).all fun b => decide (a = b) || decide ((r.2.1 a).2.1 ≠ (r.2.1 b).2.1)) && (u_ws r.1 r.2.1 r.2.2).all (fun w => decide (w ∈ z_tb))
set_option maxRecDepth 100000 in
theorem z_cl_B : vwCl.all z_clB = true := by decide +kernel
/-- entry idx of own's pool is field k of class ci, of type ty -/
def z_fOK (own : String) (idx ci k : Nat) (ty : FieldType) (fin : Bool) : Prop := ∃ r : vw_C, vwCl[ci]? = some r ∧ k < r.2.2 ∧ (r.2.1 k).1 = r.1 ∧ parseFieldDescriptor (r.2.1 k).2.2.1 = some ty ∧ (r.2.1 k).2.2.2 = fin ∧ (Cond.fieldLink own idx r.1 (r.2.1 k).2.1 (r.2.1 k).2.2.1 ∈ z_tb ∨ Cond.fieldLinkNest own idx r.1 (r.2.1 k).2.1 (r.2.1 k).2.2.1 "MacroReader" ∈ z_nb)
/-- a final field of own itself -/
def z_fO1 (own : String) (idx ci k : Nat) (ty : FieldType) : Prop := ∃ r : vw_C, vwCl[ci]? = some r ∧ k < r.2.2 ∧ (r.2.1 k).1 = r.1 ∧ r.1 = own ∧ parseFieldDescriptor (r.2.1 k).2.2.1 = some ty ∧ (r.2.1 k).2.2.2 = true ∧ Cond.fieldLink own idx r.1 (r.2.1 k).2.1 (r.2.1 k).2.2.1 ∈ z_tb
/-- entry idx of own's pool is class ci, of n slots, which begin as fs -/
def z_nOK (own : String) (idx ci n : Nat) (fs : List Value) : Prop := ∃ r : vw_C, vwCl[ci]? = some r ∧ r.2.2 = n ∧ Cond.classLink own idx r.1 ∈ z_tb ∧ Cond.instantiable r.1 r.2.2 ∈ z_tb ∧ Cond.initialized r.1 ∈ z_tb ∧ (∀ j, j < r.2.2 → (parseFieldDescriptor (r.2.1 j).2.2.1).map defaultValue = some (vp_V fs j)) ∧ ∀ v ∈ fs, v = .null ∨ v = .int 0 ∨ v = .long 0
/-- entry idx of own's pool is method M with n parameters; kind: 0 virtual, 2 static, 3 static of a nest mate, 4 a constructor, 5 a nest mate's -/
def z_mOK (own : String) (idx kind n : Nat) (M : zM) : Prop := Cond.code M.1 M.2.1 M.2.2.1 M.2.2.2 ∈ z_tb ∧ Cond.initialized M.1.cls ∈ z_tb ∧ (M.1.cls ≠ "java/lang/invoke/MethodHandle" ∧ M.1.cls ≠ "java/lang/invoke/VarHandle" ∧ (parseMethodDescriptor M.1.desc).map (fun d => d.parameters.length) = some n) ∧ M.2.2.1 ≤ 21 ∧ plainName M.1.cls = true ∧
  (match kind with
  | 0 => Cond.methodLink own idx M.1 ∈ z_tb ∧ Cond.instanceMethod M.1 ∈ z_tb ∧ Cond.selects M.1.cls M.1 M.1 ∈ z_tb
  | 2 => Cond.methodLink own idx M.1 ∈ z_tb ∧ Cond.static M.1 ∈ z_tb
  | 3 => Cond.methodLinkNest own idx M.1 "MacroReader" ∈ z_nb ∧ Cond.static M.1 ∈ z_tb
  | 4 => Cond.methodLink own idx M.1 ∈ z_tb ∧ Cond.instanceMethod M.1 ∈ z_tb ∧ M.1.name = "<init>" ∧ M.2.2.2 = none
  | 5 => Cond.methodLinkNest own idx M.1 "MacroReader" ∈ z_nb ∧ Cond.instanceMethod M.1 ∈ z_tb ∧ M.1.name = "<init>" ∧ M.2.2.2 = none
  | _ => False)
theorem zf_X1_7 : z_fOK RX1 7 2 0 (.array .int) false := ⟨_, rfl, by decide, rfl, by decide +kernel, rfl, Or.inl (z_at_in (i := 111) (by decide +kernel))⟩
theorem zf_X1_13 : z_fOK RX1 13 2 1 .int false := ⟨_, rfl, by decide, rfl, by decide +kernel, rfl, Or.inl (z_at_in (i := 112) (by decide +kernel))⟩
theorem zf_X0_7 : z_fOK RX0 7 1 0 .int true := ⟨_, rfl, by decide, rfl, by decide +kernel, rfl, Or.inl (z_at_in (i := 129) (by decide +kernel))⟩
theorem zF_X0_7 : z_fO1 RX0 7 1 0 .int := ⟨_, rfl, by decide, rfl, rfl, by decide +kernel, rfl, z_at_in (i := 129) (by decide +kernel)⟩
theorem zf_X0_19 : z_fOK RX0 19 1 1 (.array .byte) false := ⟨_, rfl, by decide, rfl, by decide +kernel, rfl, Or.inl (z_at_in (i := 130) (by decide +kernel))⟩
theorem zf_X0_23 : z_fOK RX0 23 1 2 .int false := ⟨_, rfl, by decide, rfl, by decide +kernel, rfl, Or.inl (z_at_in (i := 131) (by decide +kernel))⟩
theorem zf_X5_12 : z_fOK RX5 12 6 0 (.object "MacroReader$Ints") true := ⟨_, rfl, by decide, rfl, by decide +kernel, rfl, Or.inl (z_at_in (i := 140) (by decide +kernel))⟩
theorem zF_X5_12 : z_fO1 RX5 12 6 0 (.object "MacroReader$Ints") := ⟨_, rfl, by decide, rfl, rfl, by decide +kernel, rfl, z_at_in (i := 140) (by decide +kernel)⟩
theorem zf_X5_18 : z_fOK RX5 18 6 1 (.object "MacroReader$Ints") true := ⟨_, rfl, by decide, rfl, by decide +kernel, rfl, Or.inl (z_at_in (i := 141) (by decide +kernel))⟩
theorem zF_X5_18 : z_fO1 RX5 18 6 1 (.object "MacroReader$Ints") := ⟨_, rfl, by decide, rfl, rfl, by decide +kernel, rfl, z_at_in (i := 141) (by decide +kernel)⟩
theorem zf_X5_21 : z_fOK RX5 21 6 2 (.object "MacroReader$Ints") true := ⟨_, rfl, by decide, rfl, by decide +kernel, rfl, Or.inl (z_at_in (i := 142) (by decide +kernel))⟩
theorem zF_X5_21 : z_fO1 RX5 21 6 2 (.object "MacroReader$Ints") := ⟨_, rfl, by decide, rfl, rfl, by decide +kernel, rfl, z_at_in (i := 142) (by decide +kernel)⟩
theorem zf_X5_30 : z_fOK RX5 30 6 3 (.object "MacroReader$Bytes") false := ⟨_, rfl, by decide, rfl, by decide +kernel, rfl, Or.inl (z_at_in (i := 143) (by decide +kernel))⟩
theorem zf_X6_24 : z_fOK RX6 24 7 0 (.object "MacroReader$Bytes") true := ⟨_, rfl, by decide, rfl, by decide +kernel, rfl, Or.inl (z_at_in (i := 163) (by decide +kernel))⟩
theorem zF_X6_24 : z_fO1 RX6 24 7 0 (.object "MacroReader$Bytes") := ⟨_, rfl, by decide, rfl, rfl, by decide +kernel, rfl, z_at_in (i := 163) (by decide +kernel)⟩
theorem zf_X6_12 : z_fOK RX6 12 7 1 (.object "MacroReader$Ints") true := ⟨_, rfl, by decide, rfl, by decide +kernel, rfl, Or.inl (z_at_in (i := 164) (by decide +kernel))⟩
theorem zF_X6_12 : z_fO1 RX6 12 7 1 (.object "MacroReader$Ints") := ⟨_, rfl, by decide, rfl, rfl, by decide +kernel, rfl, z_at_in (i := 164) (by decide +kernel)⟩
theorem zf_X6_18 : z_fOK RX6 18 7 2 (.object "MacroReader$Ints") true := ⟨_, rfl, by decide, rfl, by decide +kernel, rfl, Or.inl (z_at_in (i := 165) (by decide +kernel))⟩
theorem zF_X6_18 : z_fO1 RX6 18 7 2 (.object "MacroReader$Ints") := ⟨_, rfl, by decide, rfl, rfl, by decide +kernel, rfl, z_at_in (i := 165) (by decide +kernel)⟩
theorem zf_X6_21 : z_fOK RX6 21 7 3 (.object "MacroReader$Ints") true := ⟨_, rfl, by decide, rfl, by decide +kernel, rfl, Or.inl (z_at_in (i := 166) (by decide +kernel))⟩
theorem zF_X6_21 : z_fO1 RX6 21 7 3 (.object "MacroReader$Ints") := ⟨_, rfl, by decide, rfl, rfl, by decide +kernel, rfl, z_at_in (i := 166) (by decide +kernel)⟩
theorem zf_X6_60 : z_fOK RX6 60 7 4 .int false := ⟨_, rfl, by decide, rfl, by decide +kernel, rfl, Or.inl (z_at_in (i := 167) (by decide +kernel))⟩
theorem zf_X6_53 : z_fOK RX6 53 7 5 .long false := ⟨_, rfl, by decide, rfl, by decide +kernel, rfl, Or.inl (z_at_in (i := 168) (by decide +kernel))⟩
theorem zf_X6_36 : z_fOK RX6 36 7 6 .long false := ⟨_, rfl, by decide, rfl, by decide +kernel, rfl, Or.inl (z_at_in (i := 169) (by decide +kernel))⟩
theorem zf_X4_30 : z_fOK RX4 30 5 0 .int false := ⟨_, rfl, by decide, rfl, by decide +kernel, rfl, Or.inl (z_at_in (i := 202) (by decide +kernel))⟩
theorem zf_X3_26 : z_fOK RX3 26 5 0 .int false := ⟨_, rfl, by decide, rfl, by decide +kernel, rfl, Or.inr (z_atN_in (i := 139) (by decide +kernel))⟩
theorem zf_X7_273 : z_fOK RX7 273 5 0 .int false := ⟨_, rfl, by decide, rfl, by decide +kernel, rfl, Or.inr (z_atN_in (i := 140) (by decide +kernel))⟩
theorem zf_X4_34 : z_fOK RX4 34 5 1 .int false := ⟨_, rfl, by decide, rfl, by decide +kernel, rfl, Or.inl (z_at_in (i := 205) (by decide +kernel))⟩
theorem zf_X7_275 : z_fOK RX7 275 5 1 .int false := ⟨_, rfl, by decide, rfl, by decide +kernel, rfl, Or.inr (z_atN_in (i := 142) (by decide +kernel))⟩
theorem zf_X4_37 : z_fOK RX4 37 5 2 .int false := ⟨_, rfl, by decide, rfl, by decide +kernel, rfl, Or.inl (z_at_in (i := 207) (by decide +kernel))⟩
theorem zf_X7_121 : z_fOK RX7 121 5 2 .int false := ⟨_, rfl, by decide, rfl, by decide +kernel, rfl, Or.inr (z_atN_in (i := 144) (by decide +kernel))⟩
theorem zf_X4_40 : z_fOK RX4 40 5 3 .int false := ⟨_, rfl, by decide, rfl, by decide +kernel, rfl, Or.inl (z_at_in (i := 209) (by decide +kernel))⟩
theorem zf_X7_276 : z_fOK RX7 276 5 3 .int false := ⟨_, rfl, by decide, rfl, by decide +kernel, rfl, Or.inr (z_atN_in (i := 146) (by decide +kernel))⟩
theorem zf_X4_43 : z_fOK RX4 43 5 4 .int false := ⟨_, rfl, by decide, rfl, by decide +kernel, rfl, Or.inl (z_at_in (i := 211) (by decide +kernel))⟩
theorem zf_X7_126 : z_fOK RX7 126 5 4 .int false := ⟨_, rfl, by decide, rfl, by decide +kernel, rfl, Or.inr (z_atN_in (i := 148) (by decide +kernel))⟩
theorem zf_X7_231 : z_fOK RX7 231 5 5 .int false := ⟨_, rfl, by decide, rfl, by decide +kernel, rfl, Or.inr (z_atN_in (i := 149) (by decide +kernel))⟩
theorem zf_X4_101 : z_fOK RX4 101 5 6 .int false := ⟨_, rfl, by decide, rfl, by decide +kernel, rfl, Or.inl (z_at_in (i := 214) (by decide +kernel))⟩
theorem zf_X7_260 : z_fOK RX7 260 5 6 .int false := ⟨_, rfl, by decide, rfl, by decide +kernel, rfl, Or.inr (z_atN_in (i := 151) (by decide +kernel))⟩
theorem zf_X4_46 : z_fOK RX4 46 5 7 (.object "MacroReader$Macro") false := ⟨_, rfl, by decide, rfl, by decide +kernel, rfl, Or.inl (z_at_in (i := 216) (by decide +kernel))⟩
theorem zf_X4_14 : z_fOK RX4 14 5 8 (.object "MacroReader$Bytes") true := ⟨_, rfl, by decide, rfl, by decide +kernel, rfl, Or.inl (z_at_in (i := 217) (by decide +kernel))⟩
theorem zF_X4_14 : z_fO1 RX4 14 5 8 (.object "MacroReader$Bytes") := ⟨_, rfl, by decide, rfl, rfl, by decide +kernel, rfl, z_at_in (i := 217) (by decide +kernel)⟩
theorem zf_X4_23 : z_fOK RX4 23 5 9 (.object "MacroReader$Ints") true := ⟨_, rfl, by decide, rfl, by decide +kernel, rfl, Or.inl (z_at_in (i := 218) (by decide +kernel))⟩
theorem zF_X4_23 : z_fO1 RX4 23 5 9 (.object "MacroReader$Ints") := ⟨_, rfl, by decide, rfl, rfl, by decide +kernel, rfl, z_at_in (i := 218) (by decide +kernel)⟩
theorem zf_X4_27 : z_fOK RX4 27 5 10 (.object "MacroReader$Ints") true := ⟨_, rfl, by decide, rfl, by decide +kernel, rfl, Or.inl (z_at_in (i := 219) (by decide +kernel))⟩
theorem zF_X4_27 : z_fO1 RX4 27 5 10 (.object "MacroReader$Ints") := ⟨_, rfl, by decide, rfl, rfl, by decide +kernel, rfl, z_at_in (i := 219) (by decide +kernel)⟩
theorem zf_X3_11 : z_fOK RX3 11 4 0 (.array (.object "MacroReader$Part")) true := ⟨_, rfl, by decide, rfl, by decide +kernel, rfl, Or.inl (z_at_in (i := 243) (by decide +kernel))⟩
theorem zF_X3_11 : z_fO1 RX3 11 4 0 (.array (.object "MacroReader$Part")) := ⟨_, rfl, by decide, rfl, rfl, by decide +kernel, rfl, z_at_in (i := 243) (by decide +kernel)⟩
theorem zf_X3_18 : z_fOK RX3 18 4 1 .int false := ⟨_, rfl, by decide, rfl, by decide +kernel, rfl, Or.inl (z_at_in (i := 244) (by decide +kernel))⟩
theorem zf_X7_10 : z_fOK RX7 10 8 0 (.object "MacroReader$Source") true := ⟨_, rfl, by decide, rfl, by decide +kernel, rfl, Or.inl (z_at_in (i := 277) (by decide +kernel))⟩
theorem zF_X7_10 : z_fO1 RX7 10 8 0 (.object "MacroReader$Source") := ⟨_, rfl, by decide, rfl, rfl, by decide +kernel, rfl, z_at_in (i := 277) (by decide +kernel)⟩
theorem zf_X7_21 : z_fOK RX7 21 8 1 (.object "MacroReader$Bytes") true := ⟨_, rfl, by decide, rfl, by decide +kernel, rfl, Or.inl (z_at_in (i := 278) (by decide +kernel))⟩
theorem zF_X7_21 : z_fO1 RX7 21 8 1 (.object "MacroReader$Bytes") := ⟨_, rfl, by decide, rfl, rfl, by decide +kernel, rfl, z_at_in (i := 278) (by decide +kernel)⟩
theorem zf_X7_30 : z_fOK RX7 30 8 2 (.object "MacroReader$Tokens") true := ⟨_, rfl, by decide, rfl, by decide +kernel, rfl, Or.inl (z_at_in (i := 279) (by decide +kernel))⟩
theorem zF_X7_30 : z_fO1 RX7 30 8 2 (.object "MacroReader$Tokens") := ⟨_, rfl, by decide, rfl, rfl, by decide +kernel, rfl, z_at_in (i := 279) (by decide +kernel)⟩
theorem zf_X7_37 : z_fOK RX7 37 8 3 (.object "MacroReader$Nest") true := ⟨_, rfl, by decide, rfl, by decide +kernel, rfl, Or.inl (z_at_in (i := 280) (by decide +kernel))⟩
theorem zF_X7_37 : z_fO1 RX7 37 8 3 (.object "MacroReader$Nest") := ⟨_, rfl, by decide, rfl, rfl, by decide +kernel, rfl, z_at_in (i := 280) (by decide +kernel)⟩
theorem zf_X7_44 : z_fOK RX7 44 8 4 (.object "java/util/ArrayList") true := ⟨_, rfl, by decide, rfl, by decide +kernel, rfl, Or.inl (z_at_in (i := 281) (by decide +kernel))⟩
theorem zF_X7_44 : z_fO1 RX7 44 8 4 (.object "java/util/ArrayList") := ⟨_, rfl, by decide, rfl, rfl, by decide +kernel, rfl, z_at_in (i := 281) (by decide +kernel)⟩
theorem zf_X7_49 : z_fOK RX7 49 8 5 (.object "MacroReader$Bytes") false := ⟨_, rfl, by decide, rfl, by decide +kernel, rfl, Or.inl (z_at_in (i := 282) (by decide +kernel))⟩
theorem zf_X7_69 : z_fOK RX7 69 8 6 .int false := ⟨_, rfl, by decide, rfl, by decide +kernel, rfl, Or.inl (z_at_in (i := 283) (by decide +kernel))⟩
theorem zf_X7_73 : z_fOK RX7 73 8 7 .int false := ⟨_, rfl, by decide, rfl, by decide +kernel, rfl, Or.inl (z_at_in (i := 284) (by decide +kernel))⟩
theorem zf_X7_76 : z_fOK RX7 76 8 8 .int false := ⟨_, rfl, by decide, rfl, by decide +kernel, rfl, Or.inl (z_at_in (i := 285) (by decide +kernel))⟩
theorem zf_X7_79 : z_fOK RX7 79 8 9 .int false := ⟨_, rfl, by decide, rfl, by decide +kernel, rfl, Or.inl (z_at_in (i := 286) (by decide +kernel))⟩
theorem zf_X7_82 : z_fOK RX7 82 8 10 .int false := ⟨_, rfl, by decide, rfl, by decide +kernel, rfl, Or.inl (z_at_in (i := 287) (by decide +kernel))⟩
theorem zf_X7_85 : z_fOK RX7 85 8 11 .boolean false := ⟨_, rfl, by decide, rfl, by decide +kernel, rfl, Or.inl (z_at_in (i := 288) (by decide +kernel))⟩
theorem zf_X7_89 : z_fOK RX7 89 8 12 .boolean false := ⟨_, rfl, by decide, rfl, by decide +kernel, rfl, Or.inl (z_at_in (i := 289) (by decide +kernel))⟩
theorem zf_X2_25 : z_fOK RX2 25 3 0 .int true := ⟨_, rfl, by decide, rfl, by decide +kernel, rfl, Or.inl (z_at_in (i := 789) (by decide +kernel))⟩
theorem zF_X2_25 : z_fO1 RX2 25 3 0 .int := ⟨_, rfl, by decide, rfl, rfl, by decide +kernel, rfl, z_at_in (i := 789) (by decide +kernel)⟩
theorem zf_X7_287 : z_fOK RX7 287 3 0 .int true := ⟨_, rfl, by decide, rfl, by decide +kernel, rfl, Or.inr (z_atN_in (i := 726) (by decide +kernel))⟩
theorem zf_X2_32 : z_fOK RX2 32 3 1 .int true := ⟨_, rfl, by decide, rfl, by decide +kernel, rfl, Or.inl (z_at_in (i := 791) (by decide +kernel))⟩
theorem zF_X2_32 : z_fO1 RX2 32 3 1 .int := ⟨_, rfl, by decide, rfl, rfl, by decide +kernel, rfl, z_at_in (i := 791) (by decide +kernel)⟩
theorem zf_X7_284 : z_fOK RX7 284 3 1 .int true := ⟨_, rfl, by decide, rfl, by decide +kernel, rfl, Or.inr (z_atN_in (i := 728) (by decide +kernel))⟩
theorem zf_X2_35 : z_fOK RX2 35 3 2 .int true := ⟨_, rfl, by decide, rfl, by decide +kernel, rfl, Or.inl (z_at_in (i := 793) (by decide +kernel))⟩
theorem zF_X2_35 : z_fO1 RX2 35 3 2 .int := ⟨_, rfl, by decide, rfl, rfl, by decide +kernel, rfl, z_at_in (i := 793) (by decide +kernel)⟩
theorem zf_X7_263 : z_fOK RX7 263 3 2 .int true := ⟨_, rfl, by decide, rfl, by decide +kernel, rfl, Or.inr (z_atN_in (i := 730) (by decide +kernel))⟩
theorem zf_X2_38 : z_fOK RX2 38 3 3 .int true := ⟨_, rfl, by decide, rfl, by decide +kernel, rfl, Or.inl (z_at_in (i := 795) (by decide +kernel))⟩
theorem zF_X2_38 : z_fO1 RX2 38 3 3 .int := ⟨_, rfl, by decide, rfl, rfl, by decide +kernel, rfl, z_at_in (i := 795) (by decide +kernel)⟩
theorem zf_X7_266 : z_fOK RX7 266 3 3 .int true := ⟨_, rfl, by decide, rfl, by decide +kernel, rfl, Or.inr (z_atN_in (i := 732) (by decide +kernel))⟩
theorem zf_X2_10 : z_fOK RX2 10 3 4 (.object "MacroReader$Ints") true := ⟨_, rfl, by decide, rfl, by decide +kernel, rfl, Or.inl (z_at_in (i := 797) (by decide +kernel))⟩
theorem zF_X2_10 : z_fO1 RX2 10 3 4 (.object "MacroReader$Ints") := ⟨_, rfl, by decide, rfl, rfl, by decide +kernel, rfl, z_at_in (i := 797) (by decide +kernel)⟩
theorem zf_X2_16 : z_fOK RX2 16 3 5 (.object "MacroReader$Ints") true := ⟨_, rfl, by decide, rfl, by decide +kernel, rfl, Or.inl (z_at_in (i := 798) (by decide +kernel))⟩
theorem zF_X2_16 : z_fO1 RX2 16 3 5 (.object "MacroReader$Ints") := ⟨_, rfl, by decide, rfl, rfl, by decide +kernel, rfl, z_at_in (i := 798) (by decide +kernel)⟩
theorem zf_X8_103 : z_fOK RX8 103 9 0 .int false := ⟨_, rfl, by decide, rfl, by decide +kernel, rfl, Or.inl (z_at_in (i := 973) (by decide +kernel))⟩
theorem zf_X8_10 : z_fOK RX8 10 9 1 (.array .byte) true := ⟨_, rfl, by decide, rfl, by decide +kernel, rfl, Or.inl (z_at_in (i := 974) (by decide +kernel))⟩
theorem zF_X8_10 : z_fO1 RX8 10 9 1 (.array .byte) := ⟨_, rfl, by decide, rfl, rfl, by decide +kernel, rfl, z_at_in (i := 974) (by decide +kernel)⟩
theorem zf_X8_14 : z_fOK RX8 14 9 2 (.array .byte) true := ⟨_, rfl, by decide, rfl, by decide +kernel, rfl, Or.inl (z_at_in (i := 975) (by decide +kernel))⟩
theorem zF_X8_14 : z_fO1 RX8 14 9 2 (.array .byte) := ⟨_, rfl, by decide, rfl, rfl, by decide +kernel, rfl, z_at_in (i := 975) (by decide +kernel)⟩
theorem zf_X8_107 : z_fOK RX8 107 9 3 .int false := ⟨_, rfl, by decide, rfl, by decide +kernel, rfl, Or.inl (z_at_in (i := 976) (by decide +kernel))⟩
theorem zf_X8_160 : z_fOK RX8 160 9 4 .int false := ⟨_, rfl, by decide, rfl, by decide +kernel, rfl, Or.inl (z_at_in (i := 977) (by decide +kernel))⟩
theorem zf_X8_186 : z_fOK RX8 186 9 5 .int false := ⟨_, rfl, by decide, rfl, by decide +kernel, rfl, Or.inl (z_at_in (i := 978) (by decide +kernel))⟩
theorem zf_X8_136 : z_fOK RX8 136 9 6 .int false := ⟨_, rfl, by decide, rfl, by decide +kernel, rfl, Or.inl (z_at_in (i := 979) (by decide +kernel))⟩
theorem zf_X8_193 : z_fOK RX8 193 9 7 .int false := ⟨_, rfl, by decide, rfl, by decide +kernel, rfl, Or.inl (z_at_in (i := 980) (by decide +kernel))⟩
theorem zf_X8_196 : z_fOK RX8 196 9 8 .int false := ⟨_, rfl, by decide, rfl, by decide +kernel, rfl, Or.inl (z_at_in (i := 981) (by decide +kernel))⟩
theorem zf_X8_286 : z_fOK RX8 286 9 9 .int false := ⟨_, rfl, by decide, rfl, by decide +kernel, rfl, Or.inl (z_at_in (i := 982) (by decide +kernel))⟩
theorem zf_X8_269 : z_fOK RX8 269 9 10 .int false := ⟨_, rfl, by decide, rfl, by decide +kernel, rfl, Or.inl (z_at_in (i := 983) (by decide +kernel))⟩
theorem zf_X8_142 : z_fOK RX8 142 9 11 .int false := ⟨_, rfl, by decide, rfl, by decide +kernel, rfl, Or.inl (z_at_in (i := 984) (by decide +kernel))⟩
theorem zf_X8_149 : z_fOK RX8 149 9 12 .int false := ⟨_, rfl, by decide, rfl, by decide +kernel, rfl, Or.inl (z_at_in (i := 985) (by decide +kernel))⟩
theorem zf_X8_305 : z_fOK RX8 305 9 13 .int false := ⟨_, rfl, by decide, rfl, by decide +kernel, rfl, Or.inl (z_at_in (i := 986) (by decide +kernel))⟩
theorem zf_X8_280 : z_fOK RX8 280 9 14 .boolean false := ⟨_, rfl, by decide, rfl, by decide +kernel, rfl, Or.inl (z_at_in (i := 987) (by decide +kernel))⟩
theorem zf_X8_17 : z_fOK RX8 17 9 15 .boolean false := ⟨_, rfl, by decide, rfl, by decide +kernel, rfl, Or.inl (z_at_in (i := 988) (by decide +kernel))⟩
theorem zf_X8_308 : z_fOK RX8 308 9 16 .boolean false := ⟨_, rfl, by decide, rfl, by decide +kernel, rfl, Or.inl (z_at_in (i := 989) (by decide +kernel))⟩
theorem zf_X8_21 : z_fOK RX8 21 9 17 (.array .byte) true := ⟨_, rfl, by decide, rfl, by decide +kernel, rfl, Or.inl (z_at_in (i := 990) (by decide +kernel))⟩
theorem zF_X8_21 : z_fO1 RX8 21 9 17 (.array .byte) := ⟨_, rfl, by decide, rfl, rfl, by decide +kernel, rfl, z_at_in (i := 990) (by decide +kernel)⟩
theorem zf_X8_199 : z_fOK RX8 199 9 18 .int false := ⟨_, rfl, by decide, rfl, by decide +kernel, rfl, Or.inl (z_at_in (i := 991) (by decide +kernel))⟩
theorem zf_X8_139 : z_fOK RX8 139 9 19 .int false := ⟨_, rfl, by decide, rfl, by decide +kernel, rfl, Or.inl (z_at_in (i := 992) (by decide +kernel))⟩
theorem zf_X8_24 : z_fOK RX8 24 9 20 (.array .int) true := ⟨_, rfl, by decide, rfl, by decide +kernel, rfl, Or.inl (z_at_in (i := 993) (by decide +kernel))⟩
theorem zF_X8_24 : z_fO1 RX8 24 9 20 (.array .int) := ⟨_, rfl, by decide, rfl, rfl, by decide +kernel, rfl, z_at_in (i := 993) (by decide +kernel)⟩
theorem zf_X8_28 : z_fOK RX8 28 9 21 (.array .int) true := ⟨_, rfl, by decide, rfl, by decide +kernel, rfl, Or.inl (z_at_in (i := 994) (by decide +kernel))⟩
theorem zF_X8_28 : z_fO1 RX8 28 9 21 (.array .int) := ⟨_, rfl, by decide, rfl, rfl, by decide +kernel, rfl, z_at_in (i := 994) (by decide +kernel)⟩
theorem zf_X8_31 : z_fOK RX8 31 9 22 (.array .int) true := ⟨_, rfl, by decide, rfl, by decide +kernel, rfl, Or.inl (z_at_in (i := 995) (by decide +kernel))⟩
theorem zF_X8_31 : z_fO1 RX8 31 9 22 (.array .int) := ⟨_, rfl, by decide, rfl, rfl, by decide +kernel, rfl, z_at_in (i := 995) (by decide +kernel)⟩
theorem zf_X8_34 : z_fOK RX8 34 9 23 (.array .int) true := ⟨_, rfl, by decide, rfl, by decide +kernel, rfl, Or.inl (z_at_in (i := 996) (by decide +kernel))⟩
theorem zF_X8_34 : z_fO1 RX8 34 9 23 (.array .int) := ⟨_, rfl, by decide, rfl, rfl, by decide +kernel, rfl, z_at_in (i := 996) (by decide +kernel)⟩
theorem zf_X8_37 : z_fOK RX8 37 9 24 (.array .int) true := ⟨_, rfl, by decide, rfl, by decide +kernel, rfl, Or.inl (z_at_in (i := 997) (by decide +kernel))⟩
theorem zF_X8_37 : z_fO1 RX8 37 9 24 (.array .int) := ⟨_, rfl, by decide, rfl, rfl, by decide +kernel, rfl, z_at_in (i := 997) (by decide +kernel)⟩
theorem zf_X8_40 : z_fOK RX8 40 9 25 (.array .int) true := ⟨_, rfl, by decide, rfl, by decide +kernel, rfl, Or.inl (z_at_in (i := 998) (by decide +kernel))⟩
theorem zF_X8_40 : z_fO1 RX8 40 9 25 (.array .int) := ⟨_, rfl, by decide, rfl, rfl, by decide +kernel, rfl, z_at_in (i := 998) (by decide +kernel)⟩
theorem zf_X8_43 : z_fOK RX8 43 9 26 (.array .int) true := ⟨_, rfl, by decide, rfl, by decide +kernel, rfl, Or.inl (z_at_in (i := 999) (by decide +kernel))⟩
theorem zF_X8_43 : z_fO1 RX8 43 9 26 (.array .int) := ⟨_, rfl, by decide, rfl, rfl, by decide +kernel, rfl, z_at_in (i := 999) (by decide +kernel)⟩
theorem zf_X8_46 : z_fOK RX8 46 9 27 (.array .int) true := ⟨_, rfl, by decide, rfl, by decide +kernel, rfl, Or.inl (z_at_in (i := 1000) (by decide +kernel))⟩
theorem zF_X8_46 : z_fO1 RX8 46 9 27 (.array .int) := ⟨_, rfl, by decide, rfl, rfl, by decide +kernel, rfl, z_at_in (i := 1000) (by decide +kernel)⟩
theorem zf_X8_49 : z_fOK RX8 49 9 28 (.array .int) true := ⟨_, rfl, by decide, rfl, by decide +kernel, rfl, Or.inl (z_at_in (i := 1001) (by decide +kernel))⟩
theorem zF_X8_49 : z_fO1 RX8 49 9 28 (.array .int) := ⟨_, rfl, by decide, rfl, rfl, by decide +kernel, rfl, z_at_in (i := 1001) (by decide +kernel)⟩
theorem zf_X8_52 : z_fOK RX8 52 9 29 (.array .boolean) true := ⟨_, rfl, by decide, rfl, by decide +kernel, rfl, Or.inl (z_at_in (i := 1002) (by decide +kernel))⟩
theorem zF_X8_52 : z_fO1 RX8 52 9 29 (.array .boolean) := ⟨_, rfl, by decide, rfl, rfl, by decide +kernel, rfl, z_at_in (i := 1002) (by decide +kernel)⟩
theorem zf_X8_58 : z_fOK RX8 58 9 30 (.array (.array .byte)) true := ⟨_, rfl, by decide, rfl, by decide +kernel, rfl, Or.inl (z_at_in (i := 1003) (by decide +kernel))⟩
theorem zF_X8_58 : z_fO1 RX8 58 9 30 (.array (.array .byte)) := ⟨_, rfl, by decide, rfl, rfl, by decide +kernel, rfl, z_at_in (i := 1003) (by decide +kernel)⟩
theorem zf_X8_63 : z_fOK RX8 63 9 31 (.array (.array .int)) true := ⟨_, rfl, by decide, rfl, by decide +kernel, rfl, Or.inl (z_at_in (i := 1004) (by decide +kernel))⟩
theorem zF_X8_63 : z_fO1 RX8 63 9 31 (.array (.array .int)) := ⟨_, rfl, by decide, rfl, rfl, by decide +kernel, rfl, z_at_in (i := 1004) (by decide +kernel)⟩
theorem zf_X8_66 : z_fOK RX8 66 9 32 (.array .int) true := ⟨_, rfl, by decide, rfl, by decide +kernel, rfl, Or.inl (z_at_in (i := 1005) (by decide +kernel))⟩
theorem zF_X8_66 : z_fO1 RX8 66 9 32 (.array .int) := ⟨_, rfl, by decide, rfl, rfl, by decide +kernel, rfl, z_at_in (i := 1005) (by decide +kernel)⟩
theorem zf_X8_245 : z_fOK RX8 245 9 33 .int false := ⟨_, rfl, by decide, rfl, by decide +kernel, rfl, Or.inl (z_at_in (i := 1006) (by decide +kernel))⟩
theorem zf_X8_69 : z_fOK RX8 69 9 34 (.array .int) true := ⟨_, rfl, by decide, rfl, by decide +kernel, rfl, Or.inl (z_at_in (i := 1007) (by decide +kernel))⟩
theorem zF_X8_69 : z_fO1 RX8 69 9 34 (.array .int) := ⟨_, rfl, by decide, rfl, rfl, by decide +kernel, rfl, z_at_in (i := 1007) (by decide +kernel)⟩
theorem zf_X8_72 : z_fOK RX8 72 9 35 (.array .int) true := ⟨_, rfl, by decide, rfl, by decide +kernel, rfl, Or.inl (z_at_in (i := 1008) (by decide +kernel))⟩
theorem zF_X8_72 : z_fO1 RX8 72 9 35 (.array .int) := ⟨_, rfl, by decide, rfl, rfl, by decide +kernel, rfl, z_at_in (i := 1008) (by decide +kernel)⟩
theorem zf_X8_75 : z_fOK RX8 75 9 36 (.array .int) true := ⟨_, rfl, by decide, rfl, by decide +kernel, rfl, Or.inl (z_at_in (i := 1009) (by decide +kernel))⟩
theorem zF_X8_75 : z_fO1 RX8 75 9 36 (.array .int) := ⟨_, rfl, by decide, rfl, rfl, by decide +kernel, rfl, z_at_in (i := 1009) (by decide +kernel)⟩
theorem zf_X8_78 : z_fOK RX8 78 9 37 (.array .int) true := ⟨_, rfl, by decide, rfl, by decide +kernel, rfl, Or.inl (z_at_in (i := 1010) (by decide +kernel))⟩
theorem zF_X8_78 : z_fO1 RX8 78 9 37 (.array .int) := ⟨_, rfl, by decide, rfl, rfl, by decide +kernel, rfl, z_at_in (i := 1010) (by decide +kernel)⟩
theorem zf_X8_81 : z_fOK RX8 81 9 38 (.array .int) true := ⟨_, rfl, by decide, rfl, by decide +kernel, rfl, Or.inl (z_at_in (i := 1011) (by decide +kernel))⟩
theorem zF_X8_81 : z_fO1 RX8 81 9 38 (.array .int) := ⟨_, rfl, by decide, rfl, rfl, by decide +kernel, rfl, z_at_in (i := 1011) (by decide +kernel)⟩
theorem zf_X8_84 : z_fOK RX8 84 9 39 (.array .int) true := ⟨_, rfl, by decide, rfl, by decide +kernel, rfl, Or.inl (z_at_in (i := 1012) (by decide +kernel))⟩
theorem zF_X8_84 : z_fO1 RX8 84 9 39 (.array .int) := ⟨_, rfl, by decide, rfl, rfl, by decide +kernel, rfl, z_at_in (i := 1012) (by decide +kernel)⟩
theorem zf_X8_87 : z_fOK RX8 87 9 40 (.array .int) true := ⟨_, rfl, by decide, rfl, by decide +kernel, rfl, Or.inl (z_at_in (i := 1013) (by decide +kernel))⟩
theorem zF_X8_87 : z_fO1 RX8 87 9 40 (.array .int) := ⟨_, rfl, by decide, rfl, rfl, by decide +kernel, rfl, z_at_in (i := 1013) (by decide +kernel)⟩
theorem zf_X8_215 : z_fOK RX8 215 9 41 .int false := ⟨_, rfl, by decide, rfl, by decide +kernel, rfl, Or.inl (z_at_in (i := 1014) (by decide +kernel))⟩
theorem zf_X8_90 : z_fOK RX8 90 9 42 (.array .int) true := ⟨_, rfl, by decide, rfl, by decide +kernel, rfl, Or.inl (z_at_in (i := 1015) (by decide +kernel))⟩
theorem zF_X8_90 : z_fO1 RX8 90 9 42 (.array .int) := ⟨_, rfl, by decide, rfl, rfl, by decide +kernel, rfl, z_at_in (i := 1015) (by decide +kernel)⟩
theorem zf_X8_93 : z_fOK RX8 93 9 43 (.array .int) true := ⟨_, rfl, by decide, rfl, by decide +kernel, rfl, Or.inl (z_at_in (i := 1016) (by decide +kernel))⟩
theorem zF_X8_93 : z_fO1 RX8 93 9 43 (.array .int) := ⟨_, rfl, by decide, rfl, rfl, by decide +kernel, rfl, z_at_in (i := 1016) (by decide +kernel)⟩
theorem zf_X8_96 : z_fOK RX8 96 9 44 (.array .int) true := ⟨_, rfl, by decide, rfl, by decide +kernel, rfl, Or.inl (z_at_in (i := 1017) (by decide +kernel))⟩
theorem zF_X8_96 : z_fO1 RX8 96 9 44 (.array .int) := ⟨_, rfl, by decide, rfl, rfl, by decide +kernel, rfl, z_at_in (i := 1017) (by decide +kernel)⟩
theorem zf_X8_99 : z_fOK RX8 99 9 45 (.array .long) true := ⟨_, rfl, by decide, rfl, by decide +kernel, rfl, Or.inl (z_at_in (i := 1018) (by decide +kernel))⟩
theorem zF_X8_99 : z_fO1 RX8 99 9 45 (.array .long) := ⟨_, rfl, by decide, rfl, rfl, by decide +kernel, rfl, z_at_in (i := 1018) (by decide +kernel)⟩
theorem zf_X8_171 : z_fOK RX8 171 9 46 .int false := ⟨_, rfl, by decide, rfl, by decide +kernel, rfl, Or.inl (z_at_in (i := 1019) (by decide +kernel))⟩
theorem zf_X8_174 : z_fOK RX8 174 9 47 .int false := ⟨_, rfl, by decide, rfl, by decide +kernel, rfl, Or.inl (z_at_in (i := 1020) (by decide +kernel))⟩
theorem zf_X8_177 : z_fOK RX8 177 9 48 .int false := ⟨_, rfl, by decide, rfl, by decide +kernel, rfl, Or.inl (z_at_in (i := 1021) (by decide +kernel))⟩
theorem zf_X8_180 : z_fOK RX8 180 9 49 .int false := ⟨_, rfl, by decide, rfl, by decide +kernel, rfl, Or.inl (z_at_in (i := 1022) (by decide +kernel))⟩
theorem zn_L_8 : z_nOK RL 8 8 13 [.null, .null, .null, .null, .null, .null, .int 0, .int 0, .int 0, .int 0, .int 0, .int 0, .int 0] := ⟨_, rfl, rfl, z_at_in (i := 91) (by decide +kernel), z_at_in (i := 92) (by decide +kernel), z_at_in (i := 65) (by decide +kernel), by decide +kernel, by decide +kernel⟩
theorem zn_X7_7 : z_nOK RX7 7 6 4 [.null, .null, .null, .null] := ⟨_, rfl, rfl, z_at_in (i := 99) (by decide +kernel), z_at_in (i := 100) (by decide +kernel), z_at_in (i := 66) (by decide +kernel), by decide +kernel, by decide +kernel⟩
theorem zn_X5_9 : z_nOK RX5 9 2 2 [.null, .int 0] := ⟨_, rfl, rfl, z_at_in (i := 105) (by decide +kernel), z_at_in (i := 106) (by decide +kernel), z_at_in (i := 67) (by decide +kernel), by decide +kernel, by decide +kernel⟩
theorem zn_X5_24 : z_nOK RX5 24 1 3 [.int 0, .null, .int 0] := ⟨_, rfl, rfl, z_at_in (i := 119) (by decide +kernel), z_at_in (i := 120) (by decide +kernel), z_at_in (i := 68) (by decide +kernel), by decide +kernel, by decide +kernel⟩
theorem zn_X7_16 : z_nOK RX7 16 1 3 [.int 0, .null, .int 0] := ⟨_, rfl, rfl, z_at_in (i := 153) (by decide +kernel), z_at_in (i := 120) (by decide +kernel), z_at_in (i := 68) (by decide +kernel), by decide +kernel, by decide +kernel⟩
theorem zn_X7_25 : z_nOK RX7 25 7 7 [.null, .null, .null, .null, .int 0, .long 0, .long 0] := ⟨_, rfl, rfl, z_at_in (i := 155) (by decide +kernel), z_at_in (i := 156) (by decide +kernel), z_at_in (i := 70) (by decide +kernel), by decide +kernel, by decide +kernel⟩
theorem zn_X6_9 : z_nOK RX6 9 2 2 [.null, .int 0] := ⟨_, rfl, rfl, z_at_in (i := 161) (by decide +kernel), z_at_in (i := 106) (by decide +kernel), z_at_in (i := 67) (by decide +kernel), by decide +kernel, by decide +kernel⟩
theorem zn_X7_34 : z_nOK RX7 34 4 2 [.null, .int 0] := ⟨_, rfl, rfl, z_at_in (i := 185) (by decide +kernel), z_at_in (i := 186) (by decide +kernel), z_at_in (i := 71) (by decide +kernel), by decide +kernel, by decide +kernel⟩
theorem zn_X3_9 : z_nOK RX3 9 5 11 [.int 0, .int 0, .int 0, .int 0, .int 0, .int 0, .int 0, .null, .null, .null, .null] := ⟨_, rfl, rfl, z_at_in (i := 191) (by decide +kernel), z_at_in (i := 193) (by decide +kernel), z_at_in (i := 72) (by decide +kernel), by decide +kernel, by decide +kernel⟩
theorem zn_X4_9 : z_nOK RX4 9 1 3 [.int 0, .null, .int 0] := ⟨_, rfl, rfl, z_at_in (i := 198) (by decide +kernel), z_at_in (i := 120) (by decide +kernel), z_at_in (i := 68) (by decide +kernel), by decide +kernel, by decide +kernel⟩
theorem zn_X4_20 : z_nOK RX4 20 2 2 [.null, .int 0] := ⟨_, rfl, rfl, z_at_in (i := 200) (by decide +kernel), z_at_in (i := 106) (by decide +kernel), z_at_in (i := 67) (by decide +kernel), by decide +kernel, by decide +kernel⟩
theorem zn_X7_41 : z_nOK RX7 41 0 3 [.int 0, .null, .int 0] := ⟨_, rfl, rfl, z_at_in (i := 250) (by decide +kernel), z_at_in (i := 251) (by decide +kernel), z_at_in (i := 75) (by decide +kernel), by decide +kernel, by decide +kernel⟩
theorem zn_X7_244 : z_nOK RX7 244 3 6 [.int 0, .int 0, .int 0, .int 0, .null, .null] := ⟨_, rfl, rfl, z_at_in (i := 772) (by decide +kernel), z_at_in (i := 778) (by decide +kernel), z_at_in (i := 84) (by decide +kernel), by decide +kernel, by decide +kernel⟩
theorem zn_X2_7 : z_nOK RX2 7 2 2 [.null, .int 0] := ⟨_, rfl, rfl, z_at_in (i := 783) (by decide +kernel), z_at_in (i := 106) (by decide +kernel), z_at_in (i := 67) (by decide +kernel), by decide +kernel, by decide +kernel⟩
theorem zn_L_16 : z_nOK RL 16 9 50 [.int 0, .null, .null, .int 0, .int 0, .int 0, .int 0, .int 0, .int 0, .int 0, .int 0, .int 0, .int 0, .int 0, .int 0, .int 0, .int 0, .null, .int 0, .int 0, .null, .null, .null, .null, .null, .null, .null, .null, .null, .null, .null, .null, .null, .int 0, .null, .null, .null, .null, .null, .null, .null, .int 0, .null, .null, .null, .null, .int 0, .int 0, .int 0, .int 0] := ⟨_, rfl, rfl, z_at_in (i := 962) (by decide +kernel), z_at_in (i := 963) (by decide +kernel), z_at_in (i := 76) (by decide +kernel), by decide +kernel, by decide +kernel⟩
set_option maxRecDepth 20000 in
theorem zc_X7_init : Cond.code mX7_init.1 mX7_init.2.1 mX7_init.2.2.1 mX7_init.2.2.2 ∈ z_tb ∧ Cond.initialized mX7_init.1.cls ∈ z_tb ∧ mX7_init.1.cls ≠ "java/lang/invoke/MethodHandle" ∧ mX7_init.1.cls ≠ "java/lang/invoke/VarHandle" ∧ plainName mX7_init.1.cls = true := ⟨z_at_rf (i := 95) rfl rfl, z_at_in (i := 65) (by decide +kernel), by decide +kernel, by decide +kernel, by decide +kernel⟩
theorem zm_L_15 : z_mOK RL 15 4 0 mX7_init := ⟨zc_X7_init.1, zc_X7_init.2.1, ⟨zc_X7_init.2.2.1, zc_X7_init.2.2.2.1, by decide +kernel⟩, by decide, zc_X7_init.2.2.2.2, z_at_in (i := 93) (by decide +kernel), z_at_in (i := 94) (by decide +kernel), rfl, rfl⟩
set_option maxRecDepth 20000 in
theorem zc_X5_init : Cond.code mX5_init.1 mX5_init.2.1 mX5_init.2.2.1 mX5_init.2.2.2 ∈ z_tb ∧ Cond.initialized mX5_init.1.cls ∈ z_tb ∧ mX5_init.1.cls ≠ "java/lang/invoke/MethodHandle" ∧ mX5_init.1.cls ≠ "java/lang/invoke/VarHandle" ∧ plainName mX5_init.1.cls = true := ⟨z_at_rf (i := 103) rfl rfl, z_at_in (i := 66) (by decide +kernel), by decide +kernel, by decide +kernel, by decide +kernel⟩
theorem zm_X7_9 : z_mOK RX7 9 5 0 mX5_init := ⟨zc_X5_init.1, zc_X5_init.2.1, ⟨zc_X5_init.2.2.1, zc_X5_init.2.2.2.1, by decide +kernel⟩, by decide, zc_X5_init.2.2.2.2, z_atN_in (i := 37) (by decide +kernel), z_at_in (i := 102) (by decide +kernel), rfl, rfl⟩
set_option maxRecDepth 20000 in
theorem zc_X1_init : Cond.code mX1_init.1 mX1_init.2.1 mX1_init.2.2.1 mX1_init.2.2.2 ∈ z_tb ∧ Cond.initialized mX1_init.1.cls ∈ z_tb ∧ mX1_init.1.cls ≠ "java/lang/invoke/MethodHandle" ∧ mX1_init.1.cls ≠ "java/lang/invoke/VarHandle" ∧ plainName mX1_init.1.cls = true := ⟨z_at_rf (i := 109) rfl rfl, z_at_in (i := 67) (by decide +kernel), by decide +kernel, by decide +kernel, by decide +kernel⟩
theorem zm_X5_11 : z_mOK RX5 11 5 0 mX1_init := ⟨zc_X1_init.1, zc_X1_init.2.1, ⟨zc_X1_init.2.2.1, zc_X1_init.2.2.2.1, by decide +kernel⟩, by decide, zc_X1_init.2.2.2.2, z_atN_in (i := 43) (by decide +kernel), z_at_in (i := 108) (by decide +kernel), rfl, rfl⟩
set_option maxRecDepth 20000 in
theorem zc_X0_init : Cond.code mX0_init.1 mX0_init.2.1 mX0_init.2.2.1 mX0_init.2.2.2 ∈ z_tb ∧ Cond.initialized mX0_init.1.cls ∈ z_tb ∧ mX0_init.1.cls ≠ "java/lang/invoke/MethodHandle" ∧ mX0_init.1.cls ≠ "java/lang/invoke/VarHandle" ∧ plainName mX0_init.1.cls = true := ⟨z_at_rf (i := 124) rfl rfl, z_at_in (i := 68) (by decide +kernel), by decide +kernel, by decide +kernel, by decide +kernel⟩
theorem zm_X5_27 : z_mOK RX5 27 4 2 mX0_init := ⟨zc_X0_init.1, zc_X0_init.2.1, ⟨zc_X0_init.2.2.1, zc_X0_init.2.2.2.1, by decide +kernel⟩, by decide, zc_X0_init.2.2.2.2, z_at_in (i := 122) (by decide +kernel), z_at_in (i := 123) (by decide +kernel), rfl, rfl⟩
theorem zm_X7_18 : z_mOK RX7 18 4 2 mX0_init := ⟨zc_X0_init.1, zc_X0_init.2.1, ⟨zc_X0_init.2.2.1, zc_X0_init.2.2.2.1, by decide +kernel⟩, by decide, zc_X0_init.2.2.2.2, z_at_in (i := 154) (by decide +kernel), z_at_in (i := 123) (by decide +kernel), rfl, rfl⟩
set_option maxRecDepth 20000 in
theorem zc_X6_init : Cond.code mX6_init.1 mX6_init.2.1 mX6_init.2.2.1 mX6_init.2.2.2 ∈ z_tb ∧ Cond.initialized mX6_init.1.cls ∈ z_tb ∧ mX6_init.1.cls ≠ "java/lang/invoke/MethodHandle" ∧ mX6_init.1.cls ≠ "java/lang/invoke/VarHandle" ∧ plainName mX6_init.1.cls = true := ⟨z_at_rf (i := 159) rfl rfl, z_at_in (i := 70) (by decide +kernel), by decide +kernel, by decide +kernel, by decide +kernel⟩
theorem zm_X7_27 : z_mOK RX7 27 4 1 mX6_init := ⟨zc_X6_init.1, zc_X6_init.2.1, ⟨zc_X6_init.2.2.1, zc_X6_init.2.2.2.1, by decide +kernel⟩, by decide, zc_X6_init.2.2.2.2, z_at_in (i := 157) (by decide +kernel), z_at_in (i := 158) (by decide +kernel), rfl, rfl⟩
theorem zm_X6_11 : z_mOK RX6 11 5 0 mX1_init := ⟨zc_X1_init.1, zc_X1_init.2.1, ⟨zc_X1_init.2.2.1, zc_X1_init.2.2.2.1, by decide +kernel⟩, by decide, zc_X1_init.2.2.2.2, z_atN_in (i := 98) (by decide +kernel), z_at_in (i := 108) (by decide +kernel), rfl, rfl⟩
set_option maxRecDepth 20000 in
theorem zc_X3_init : Cond.code mX3_init.1 mX3_init.2.1 mX3_init.2.2.1 mX3_init.2.2.2 ∈ z_tb ∧ Cond.initialized mX3_init.1.cls ∈ z_tb ∧ mX3_init.1.cls ≠ "java/lang/invoke/MethodHandle" ∧ mX3_init.1.cls ≠ "java/lang/invoke/VarHandle" ∧ plainName mX3_init.1.cls = true := ⟨z_at_rf (i := 189) rfl rfl, z_at_in (i := 71) (by decide +kernel), by decide +kernel, by decide +kernel, by decide +kernel⟩
theorem zm_X7_36 : z_mOK RX7 36 4 0 mX3_init := ⟨zc_X3_init.1, zc_X3_init.2.1, ⟨zc_X3_init.2.2.1, zc_X3_init.2.2.2.1, by decide +kernel⟩, by decide, zc_X3_init.2.2.2.2, z_at_in (i := 187) (by decide +kernel), z_at_in (i := 188) (by decide +kernel), rfl, rfl⟩
set_option maxRecDepth 20000 in
theorem zc_X4_init : Cond.code mX4_init.1 mX4_init.2.1 mX4_init.2.2.1 mX4_init.2.2.2 ∈ z_tb ∧ Cond.initialized mX4_init.1.cls ∈ z_tb ∧ mX4_init.1.cls ≠ "java/lang/invoke/MethodHandle" ∧ mX4_init.1.cls ≠ "java/lang/invoke/VarHandle" ∧ plainName mX4_init.1.cls = true := ⟨z_at_rf (i := 196) rfl rfl, z_at_in (i := 72) (by decide +kernel), by decide +kernel, by decide +kernel, by decide +kernel⟩
theorem zm_X3_17 : z_mOK RX3 17 5 0 mX4_init := ⟨zc_X4_init.1, zc_X4_init.2.1, ⟨zc_X4_init.2.2.1, zc_X4_init.2.2.2.1, by decide +kernel⟩, by decide, zc_X4_init.2.2.2.2, z_atN_in (i := 130) (by decide +kernel), z_at_in (i := 195) (by decide +kernel), rfl, rfl⟩
theorem zm_X4_11 : z_mOK RX4 11 4 2 mX0_init := ⟨zc_X0_init.1, zc_X0_init.2.1, ⟨zc_X0_init.2.2.1, zc_X0_init.2.2.2.1, by decide +kernel⟩, by decide, zc_X0_init.2.2.2.2, z_at_in (i := 199) (by decide +kernel), z_at_in (i := 123) (by decide +kernel), rfl, rfl⟩
theorem zm_X4_22 : z_mOK RX4 22 5 0 mX1_init := ⟨zc_X1_init.1, zc_X1_init.2.1, ⟨zc_X1_init.2.2.1, zc_X1_init.2.2.2.1, by decide +kernel⟩, by decide, zc_X1_init.2.2.2.2, z_atN_in (i := 137) (by decide +kernel), z_at_in (i := 108) (by decide +kernel), rfl, rfl⟩
set_option maxRecDepth 20000 in
theorem zc_X7_type : Cond.code mX7_type.1 mX7_type.2.1 mX7_type.2.2.1 mX7_type.2.2.2 ∈ z_tb ∧ Cond.initialized mX7_type.1.cls ∈ z_tb ∧ mX7_type.1.cls ≠ "java/lang/invoke/MethodHandle" ∧ mX7_type.1.cls ≠ "java/lang/invoke/VarHandle" ∧ plainName mX7_type.1.cls = true := ⟨z_at_rf (i := 320) rfl rfl, z_at_in (i := 65) (by decide +kernel), by decide +kernel, by decide +kernel, by decide +kernel⟩
theorem zm_L_21 : z_mOK RL 21 0 2 mX7_type := ⟨zc_X7_type.1, zc_X7_type.2.1, ⟨zc_X7_type.2.2.1, zc_X7_type.2.2.2.1, by decide +kernel⟩, by decide, zc_X7_type.2.2.2.2, z_at_in (i := 317) (by decide +kernel), z_at_in (i := 318) (by decide +kernel), z_at_in (i := 319) (by decide +kernel)⟩
set_option maxRecDepth 20000 in
theorem zc_X0_size : Cond.code mX0_size.1 mX0_size.2.1 mX0_size.2.2.1 mX0_size.2.2.2 ∈ z_tb ∧ Cond.initialized mX0_size.1.cls ∈ z_tb ∧ mX0_size.1.cls ≠ "java/lang/invoke/MethodHandle" ∧ mX0_size.1.cls ≠ "java/lang/invoke/VarHandle" ∧ plainName mX0_size.1.cls = true := ⟨z_at_rf (i := 324) rfl rfl, z_at_in (i := 68) (by decide +kernel), by decide +kernel, by decide +kernel, by decide +kernel⟩
theorem zm_X7_52 : z_mOK RX7 52 0 0 mX0_size := ⟨zc_X0_size.1, zc_X0_size.2.1, ⟨zc_X0_size.2.2.1, zc_X0_size.2.2.2.1, by decide +kernel⟩, by decide, zc_X0_size.2.2.2.2, z_at_in (i := 321) (by decide +kernel), z_at_in (i := 322) (by decide +kernel), z_at_in (i := 323) (by decide +kernel)⟩
set_option maxRecDepth 20000 in
theorem zc_X0_append : Cond.code mX0_append.1 mX0_append.2.1 mX0_append.2.2.1 mX0_append.2.2.2 ∈ z_tb ∧ Cond.initialized mX0_append.1.cls ∈ z_tb ∧ mX0_append.1.cls ≠ "java/lang/invoke/MethodHandle" ∧ mX0_append.1.cls ≠ "java/lang/invoke/VarHandle" ∧ plainName mX0_append.1.cls = true := ⟨z_at_rf (i := 328) rfl rfl, z_at_in (i := 68) (by decide +kernel), by decide +kernel, by decide +kernel, by decide +kernel⟩
theorem zm_X7_56 : z_mOK RX7 56 0 1 mX0_append := ⟨zc_X0_append.1, zc_X0_append.2.1, ⟨zc_X0_append.2.2.1, zc_X0_append.2.2.2.1, by decide +kernel⟩, by decide, zc_X0_append.2.2.2.2, z_at_in (i := 325) (by decide +kernel), z_at_in (i := 326) (by decide +kernel), z_at_in (i := 327) (by decide +kernel)⟩
set_option maxRecDepth 20000 in
theorem zc_X7_begin : Cond.code mX7_begin.1 mX7_begin.2.1 mX7_begin.2.2.1 mX7_begin.2.2.2 ∈ z_tb ∧ Cond.initialized mX7_begin.1.cls ∈ z_tb ∧ mX7_begin.1.cls ≠ "java/lang/invoke/MethodHandle" ∧ mX7_begin.1.cls ≠ "java/lang/invoke/VarHandle" ∧ plainName mX7_begin.1.cls = true := ⟨z_at_rf (i := 349) rfl rfl, z_at_in (i := 65) (by decide +kernel), by decide +kernel, by decide +kernel, by decide +kernel⟩
theorem zm_L_26 : z_mOK RL 26 0 0 mX7_begin := ⟨zc_X7_begin.1, zc_X7_begin.2.1, ⟨zc_X7_begin.2.2.1, zc_X7_begin.2.2.2.1, by decide +kernel⟩, by decide, zc_X7_begin.2.2.2.2, z_at_in (i := 346) (by decide +kernel), z_at_in (i := 347) (by decide +kernel), z_at_in (i := 348) (by decide +kernel)⟩
set_option maxRecDepth 20000 in
theorem zc_X5_exchange : Cond.code mX5_exchange.1 mX5_exchange.2.1 mX5_exchange.2.2.1 mX5_exchange.2.2.2 ∈ z_tb ∧ Cond.initialized mX5_exchange.1.cls ∈ z_tb ∧ mX5_exchange.1.cls ≠ "java/lang/invoke/MethodHandle" ∧ mX5_exchange.1.cls ≠ "java/lang/invoke/VarHandle" ∧ plainName mX5_exchange.1.cls = true := ⟨z_at_rf (i := 353) rfl rfl, z_at_in (i := 66) (by decide +kernel), by decide +kernel, by decide +kernel, by decide +kernel⟩
theorem zm_X7_60 : z_mOK RX7 60 0 1 mX5_exchange := ⟨zc_X5_exchange.1, zc_X5_exchange.2.1, ⟨zc_X5_exchange.2.2.1, zc_X5_exchange.2.2.2.1, by decide +kernel⟩, by decide, zc_X5_exchange.2.2.2.2, z_at_in (i := 350) (by decide +kernel), z_at_in (i := 351) (by decide +kernel), z_at_in (i := 352) (by decide +kernel)⟩
set_option maxRecDepth 20000 in
theorem zc_X1_clear : Cond.code mX1_clear.1 mX1_clear.2.1 mX1_clear.2.2.1 mX1_clear.2.2.2 ∈ z_tb ∧ Cond.initialized mX1_clear.1.cls ∈ z_tb ∧ mX1_clear.1.cls ≠ "java/lang/invoke/MethodHandle" ∧ mX1_clear.1.cls ≠ "java/lang/invoke/VarHandle" ∧ plainName mX1_clear.1.cls = true := ⟨z_at_rf (i := 357) rfl rfl, z_at_in (i := 67) (by decide +kernel), by decide +kernel, by decide +kernel, by decide +kernel⟩
theorem zm_X5_34 : z_mOK RX5 34 0 0 mX1_clear := ⟨zc_X1_clear.1, zc_X1_clear.2.1, ⟨zc_X1_clear.2.2.1, zc_X1_clear.2.2.2.1, by decide +kernel⟩, by decide, zc_X1_clear.2.2.2.2, z_at_in (i := 354) (by decide +kernel), z_at_in (i := 355) (by decide +kernel), z_at_in (i := 356) (by decide +kernel)⟩
theorem zm_X5_37 : z_mOK RX5 37 0 0 mX0_size := ⟨zc_X0_size.1, zc_X0_size.2.1, ⟨zc_X0_size.2.2.1, zc_X0_size.2.2.2.1, by decide +kernel⟩, by decide, zc_X0_size.2.2.2.2, z_at_in (i := 358) (by decide +kernel), z_at_in (i := 322) (by decide +kernel), z_at_in (i := 323) (by decide +kernel)⟩
set_option maxRecDepth 20000 in
theorem zc_X0_at : Cond.code mX0_at.1 mX0_at.2.1 mX0_at.2.2.1 mX0_at.2.2.2 ∈ z_tb ∧ Cond.initialized mX0_at.1.cls ∈ z_tb ∧ mX0_at.1.cls ≠ "java/lang/invoke/MethodHandle" ∧ mX0_at.1.cls ≠ "java/lang/invoke/VarHandle" ∧ plainName mX0_at.1.cls = true := ⟨z_at_rf (i := 362) rfl rfl, z_at_in (i := 68) (by decide +kernel), by decide +kernel, by decide +kernel, by decide +kernel⟩
theorem zm_X5_41 : z_mOK RX5 41 0 1 mX0_at := ⟨zc_X0_at.1, zc_X0_at.2.1, ⟨zc_X0_at.2.2.1, zc_X0_at.2.2.2.1, by decide +kernel⟩, by decide, zc_X0_at.2.2.2.2, z_at_in (i := 359) (by decide +kernel), z_at_in (i := 360) (by decide +kernel), z_at_in (i := 361) (by decide +kernel)⟩
set_option maxRecDepth 20000 in
theorem zc_X5_addLine : Cond.code mX5_addLine.1 mX5_addLine.2.1 mX5_addLine.2.2.1 mX5_addLine.2.2.2 ∈ z_tb ∧ Cond.initialized mX5_addLine.1.cls ∈ z_tb ∧ mX5_addLine.1.cls ≠ "java/lang/invoke/MethodHandle" ∧ mX5_addLine.1.cls ≠ "java/lang/invoke/VarHandle" ∧ plainName mX5_addLine.1.cls = true := ⟨z_at_rf (i := 366) rfl rfl, z_at_in (i := 66) (by decide +kernel), by decide +kernel, by decide +kernel, by decide +kernel⟩
theorem zm_X5_45 : z_mOK RX5 45 0 2 mX5_addLine := ⟨zc_X5_addLine.1, zc_X5_addLine.2.1, ⟨zc_X5_addLine.2.2.1, zc_X5_addLine.2.2.2.1, by decide +kernel⟩, by decide, zc_X5_addLine.2.2.2.2, z_at_in (i := 363) (by decide +kernel), z_at_in (i := 365) (by decide +kernel), z_at_in (i := 0) (by decide +kernel)⟩
set_option maxRecDepth 20000 in
theorem zc_X1_add : Cond.code mX1_add.1 mX1_add.2.1 mX1_add.2.2.1 mX1_add.2.2.2 ∈ z_tb ∧ Cond.initialized mX1_add.1.cls ∈ z_tb ∧ mX1_add.1.cls ≠ "java/lang/invoke/MethodHandle" ∧ mX1_add.1.cls ≠ "java/lang/invoke/VarHandle" ∧ plainName mX1_add.1.cls = true := ⟨z_at_rf (i := 370) rfl rfl, z_at_in (i := 67) (by decide +kernel), by decide +kernel, by decide +kernel, by decide +kernel⟩
theorem zm_X5_48 : z_mOK RX5 48 0 1 mX1_add := ⟨zc_X1_add.1, zc_X1_add.2.1, ⟨zc_X1_add.2.2.1, zc_X1_add.2.2.2.1, by decide +kernel⟩, by decide, zc_X1_add.2.2.2.2, z_at_in (i := 367) (by decide +kernel), z_at_in (i := 368) (by decide +kernel), z_at_in (i := 369) (by decide +kernel)⟩
set_option maxRecDepth 20000 in
theorem zc_X0_behindBlanks : Cond.code mX0_behindBlanks.1 mX0_behindBlanks.2.1 mX0_behindBlanks.2.2.1 mX0_behindBlanks.2.2.2 ∈ z_tb ∧ Cond.initialized mX0_behindBlanks.1.cls ∈ z_tb ∧ mX0_behindBlanks.1.cls ≠ "java/lang/invoke/MethodHandle" ∧ mX0_behindBlanks.1.cls ≠ "java/lang/invoke/VarHandle" ∧ plainName mX0_behindBlanks.1.cls = true := ⟨z_at_rf (i := 382) rfl rfl, z_at_in (i := 68) (by decide +kernel), by decide +kernel, by decide +kernel, by decide +kernel⟩
theorem zm_X5_52 : z_mOK RX5 52 0 1 mX0_behindBlanks := ⟨zc_X0_behindBlanks.1, zc_X0_behindBlanks.2.1, ⟨zc_X0_behindBlanks.2.2.1, zc_X0_behindBlanks.2.2.2.1, by decide +kernel⟩, by decide, zc_X0_behindBlanks.2.2.2.2, z_at_in (i := 379) (by decide +kernel), z_at_in (i := 380) (by decide +kernel), z_at_in (i := 381) (by decide +kernel)⟩
theorem zm_X0_35 : z_mOK RX0 35 0 1 mX0_at := ⟨zc_X0_at.1, zc_X0_at.2.1, ⟨zc_X0_at.2.2.1, zc_X0_at.2.2.2.1, by decide +kernel⟩, by decide, zc_X0_at.2.2.2.2, z_at_in (i := 383) (by decide +kernel), z_at_in (i := 360) (by decide +kernel), z_at_in (i := 361) (by decide +kernel)⟩
set_option maxRecDepth 20000 in
theorem zc_X7_isBlank : Cond.code mX7_isBlank.1 mX7_isBlank.2.1 mX7_isBlank.2.2.1 mX7_isBlank.2.2.2 ∈ z_tb ∧ Cond.initialized mX7_isBlank.1.cls ∈ z_tb ∧ mX7_isBlank.1.cls ≠ "java/lang/invoke/MethodHandle" ∧ mX7_isBlank.1.cls ≠ "java/lang/invoke/VarHandle" ∧ plainName mX7_isBlank.1.cls = true := ⟨z_at_rf (i := 386) rfl rfl, z_at_in (i := 65) (by decide +kernel), by decide +kernel, by decide +kernel, by decide +kernel⟩
theorem zm_X0_44 : z_mOK RX0 44 3 1 mX7_isBlank := ⟨zc_X7_isBlank.1, zc_X7_isBlank.2.1, ⟨zc_X7_isBlank.2.2.1, zc_X7_isBlank.2.2.2.1, by decide +kernel⟩, by decide, zc_X7_isBlank.2.2.2.2, z_atN_in (i := 320) (by decide +kernel), z_at_in (i := 385) (by decide +kernel)⟩
set_option maxRecDepth 20000 in
theorem zc_X0_behindNameBytes : Cond.code mX0_behindNameBytes.1 mX0_behindNameBytes.2.1 mX0_behindNameBytes.2.2.1 mX0_behindNameBytes.2.2.2 ∈ z_tb ∧ Cond.initialized mX0_behindNameBytes.1.cls ∈ z_tb ∧ mX0_behindNameBytes.1.cls ≠ "java/lang/invoke/MethodHandle" ∧ mX0_behindNameBytes.1.cls ≠ "java/lang/invoke/VarHandle" ∧ plainName mX0_behindNameBytes.1.cls = true := ⟨z_at_rf (i := 390) rfl rfl, z_at_in (i := 68) (by decide +kernel), by decide +kernel, by decide +kernel, by decide +kernel⟩
theorem zm_X5_55 : z_mOK RX5 55 0 1 mX0_behindNameBytes := ⟨zc_X0_behindNameBytes.1, zc_X0_behindNameBytes.2.1, ⟨zc_X0_behindNameBytes.2.2.1, zc_X0_behindNameBytes.2.2.2.1, by decide +kernel⟩, by decide, zc_X0_behindNameBytes.2.2.2.2, z_at_in (i := 387) (by decide +kernel), z_at_in (i := 388) (by decide +kernel), z_at_in (i := 389) (by decide +kernel)⟩
set_option maxRecDepth 20000 in
theorem zc_X7_isNameByte : Cond.code mX7_isNameByte.1 mX7_isNameByte.2.1 mX7_isNameByte.2.2.1 mX7_isNameByte.2.2.2 ∈ z_tb ∧ Cond.initialized mX7_isNameByte.1.cls ∈ z_tb ∧ mX7_isNameByte.1.cls ≠ "java/lang/invoke/MethodHandle" ∧ mX7_isNameByte.1.cls ≠ "java/lang/invoke/VarHandle" ∧ plainName mX7_isNameByte.1.cls = true := ⟨z_at_rf (i := 393) rfl rfl, z_at_in (i := 65) (by decide +kernel), by decide +kernel, by decide +kernel, by decide +kernel⟩
theorem zm_X0_49 : z_mOK RX0 49 3 1 mX7_isNameByte := ⟨zc_X7_isNameByte.1, zc_X7_isNameByte.2.1, ⟨zc_X7_isNameByte.2.2.1, zc_X7_isNameByte.2.2.2.1, by decide +kernel⟩, by decide, zc_X7_isNameByte.2.2.2.2, z_atN_in (i := 327) (by decide +kernel), z_at_in (i := 392) (by decide +kernel)⟩
set_option maxRecDepth 20000 in
theorem zc_X7_isDigit : Cond.code mX7_isDigit.1 mX7_isDigit.2.1 mX7_isDigit.2.2.1 mX7_isDigit.2.2.2 ∈ z_tb ∧ Cond.initialized mX7_isDigit.1.cls ∈ z_tb ∧ mX7_isDigit.1.cls ≠ "java/lang/invoke/MethodHandle" ∧ mX7_isDigit.1.cls ≠ "java/lang/invoke/VarHandle" ∧ plainName mX7_isDigit.1.cls = true := ⟨z_at_rf (i := 396) rfl rfl, z_at_in (i := 65) (by decide +kernel), by decide +kernel, by decide +kernel, by decide +kernel⟩
theorem zm_X7_316 : z_mOK RX7 316 2 1 mX7_isDigit := ⟨zc_X7_isDigit.1, zc_X7_isDigit.2.1, ⟨zc_X7_isDigit.2.2.1, zc_X7_isDigit.2.2.2.1, by decide +kernel⟩, by decide, zc_X7_isDigit.2.2.2.2, z_at_in (i := 394) (by decide +kernel), z_at_in (i := 395) (by decide +kernel)⟩
set_option maxRecDepth 20000 in
theorem zc_X7_wordIn : Cond.code mX7_wordIn.1 mX7_wordIn.2.1 mX7_wordIn.2.2.1 mX7_wordIn.2.2.2 ∈ z_tb ∧ Cond.initialized mX7_wordIn.1.cls ∈ z_tb ∧ mX7_wordIn.1.cls ≠ "java/lang/invoke/MethodHandle" ∧ mX7_wordIn.1.cls ≠ "java/lang/invoke/VarHandle" ∧ plainName mX7_wordIn.1.cls = true := ⟨z_at_rf (i := 399) rfl rfl, z_at_in (i := 65) (by decide +kernel), by decide +kernel, by decide +kernel, by decide +kernel⟩
theorem zm_X5_58 : z_mOK RX5 58 3 3 mX7_wordIn := ⟨zc_X7_wordIn.1, zc_X7_wordIn.2.1, ⟨zc_X7_wordIn.2.2.1, zc_X7_wordIn.2.2.2.1, by decide +kernel⟩, by decide, zc_X7_wordIn.2.2.2.2, z_atN_in (i := 333) (by decide +kernel), z_at_in (i := 398) (by decide +kernel)⟩
set_option maxRecDepth 20000 in
theorem zc_X7_spelling : Cond.code mX7_spelling.1 mX7_spelling.2.1 mX7_spelling.2.2.1 mX7_spelling.2.2.2 ∈ z_tb ∧ Cond.initialized mX7_spelling.1.cls ∈ z_tb ∧ mX7_spelling.1.cls ≠ "java/lang/invoke/MethodHandle" ∧ mX7_spelling.1.cls ≠ "java/lang/invoke/VarHandle" ∧ plainName mX7_spelling.1.cls = true := ⟨z_at_rf (i := 402) rfl rfl, z_at_in (i := 65) (by decide +kernel), by decide +kernel, by decide +kernel, by decide +kernel⟩
theorem zm_X7_294 : z_mOK RX7 294 2 1 mX7_spelling := ⟨zc_X7_spelling.1, zc_X7_spelling.2.1, ⟨zc_X7_spelling.2.2.1, zc_X7_spelling.2.2.2.1, by decide +kernel⟩, by decide, zc_X7_spelling.2.2.2.2, z_at_in (i := 400) (by decide +kernel), z_at_in (i := 401) (by decide +kernel)⟩
set_option maxRecDepth 20000 in
theorem zc_X0_spells : Cond.code mX0_spells.1 mX0_spells.2.1 mX0_spells.2.2.1 mX0_spells.2.2.2 ∈ z_tb ∧ Cond.initialized mX0_spells.1.cls ∈ z_tb ∧ mX0_spells.1.cls ≠ "java/lang/invoke/MethodHandle" ∧ mX0_spells.1.cls ≠ "java/lang/invoke/VarHandle" ∧ plainName mX0_spells.1.cls = true := ⟨z_at_rf (i := 413) rfl rfl, z_at_in (i := 68) (by decide +kernel), by decide +kernel, by decide +kernel, by decide +kernel⟩
theorem zm_X7_298 : z_mOK RX7 298 0 3 mX0_spells := ⟨zc_X0_spells.1, zc_X0_spells.2.1, ⟨zc_X0_spells.2.2.1, zc_X0_spells.2.2.2.1, by decide +kernel⟩, by decide, zc_X0_spells.2.2.2.2, z_at_in (i := 410) (by decide +kernel), z_at_in (i := 411) (by decide +kernel), z_at_in (i := 412) (by decide +kernel)⟩
set_option maxRecDepth 20000 in
theorem zc_X0_holds : Cond.code mX0_holds.1 mX0_holds.2.1 mX0_holds.2.2.1 mX0_holds.2.2.2 ∈ z_tb ∧ Cond.initialized mX0_holds.1.cls ∈ z_tb ∧ mX0_holds.1.cls ≠ "java/lang/invoke/MethodHandle" ∧ mX0_holds.1.cls ≠ "java/lang/invoke/VarHandle" ∧ plainName mX0_holds.1.cls = true := ⟨z_at_rf (i := 427) rfl rfl, z_at_in (i := 68) (by decide +kernel), by decide +kernel, by decide +kernel, by decide +kernel⟩
theorem zm_X0_58 : z_mOK RX0 58 0 2 mX0_holds := ⟨zc_X0_holds.1, zc_X0_holds.2.1, ⟨zc_X0_holds.2.2.1, zc_X0_holds.2.2.2.1, by decide +kernel⟩, by decide, zc_X0_holds.2.2.2.2, z_at_in (i := 424) (by decide +kernel), z_at_in (i := 426) (by decide +kernel), z_at_in (i := 1) (by decide +kernel)⟩
set_option maxRecDepth 20000 in
theorem zc_X0_clear : Cond.code mX0_clear.1 mX0_clear.2.1 mX0_clear.2.2.1 mX0_clear.2.2.2 ∈ z_tb ∧ Cond.initialized mX0_clear.1.cls ∈ z_tb ∧ mX0_clear.1.cls ≠ "java/lang/invoke/MethodHandle" ∧ mX0_clear.1.cls ≠ "java/lang/invoke/VarHandle" ∧ plainName mX0_clear.1.cls = true := ⟨z_at_rf (i := 469) rfl rfl, z_at_in (i := 68) (by decide +kernel), by decide +kernel, by decide +kernel, by decide +kernel⟩
theorem zm_X7_64 : z_mOK RX7 64 0 0 mX0_clear := ⟨zc_X0_clear.1, zc_X0_clear.2.1, ⟨zc_X0_clear.2.2.1, zc_X0_clear.2.2.2.1, by decide +kernel⟩, by decide, zc_X0_clear.2.2.2.2, z_at_in (i := 466) (by decide +kernel), z_at_in (i := 467) (by decide +kernel), z_at_in (i := 468) (by decide +kernel)⟩
set_option maxRecDepth 20000 in
theorem zc_X3_clear : Cond.code mX3_clear.1 mX3_clear.2.1 mX3_clear.2.2.1 mX3_clear.2.2.2 ∈ z_tb ∧ Cond.initialized mX3_clear.1.cls ∈ z_tb ∧ mX3_clear.1.cls ≠ "java/lang/invoke/MethodHandle" ∧ mX3_clear.1.cls ≠ "java/lang/invoke/VarHandle" ∧ plainName mX3_clear.1.cls = true := ⟨z_at_rf (i := 473) rfl rfl, z_at_in (i := 71) (by decide +kernel), by decide +kernel, by decide +kernel, by decide +kernel⟩
theorem zm_X7_67 : z_mOK RX7 67 0 0 mX3_clear := ⟨zc_X3_clear.1, zc_X3_clear.2.1, ⟨zc_X3_clear.2.2.1, zc_X3_clear.2.2.2.1, by decide +kernel⟩, by decide, zc_X3_clear.2.2.2.2, z_at_in (i := 470) (by decide +kernel), z_at_in (i := 471) (by decide +kernel), z_at_in (i := 472) (by decide +kernel)⟩
set_option maxRecDepth 20000 in
theorem zc_X5_count : Cond.code mX5_count.1 mX5_count.2.1 mX5_count.2.2.1 mX5_count.2.2.2 ∈ z_tb ∧ Cond.initialized mX5_count.1.cls ∈ z_tb ∧ mX5_count.1.cls ≠ "java/lang/invoke/MethodHandle" ∧ mX5_count.1.cls ≠ "java/lang/invoke/VarHandle" ∧ plainName mX5_count.1.cls = true := ⟨z_at_rf (i := 481) rfl rfl, z_at_in (i := 66) (by decide +kernel), by decide +kernel, by decide +kernel, by decide +kernel⟩
theorem zm_X7_92 : z_mOK RX7 92 0 0 mX5_count := ⟨zc_X5_count.1, zc_X5_count.2.1, ⟨zc_X5_count.2.2.1, zc_X5_count.2.2.2.1, by decide +kernel⟩, by decide, zc_X5_count.2.2.2.2, z_at_in (i := 478) (by decide +kernel), z_at_in (i := 479) (by decide +kernel), z_at_in (i := 480) (by decide +kernel)⟩
set_option maxRecDepth 20000 in
theorem zc_X1_size : Cond.code mX1_size.1 mX1_size.2.1 mX1_size.2.2.1 mX1_size.2.2.2 ∈ z_tb ∧ Cond.initialized mX1_size.1.cls ∈ z_tb ∧ mX1_size.1.cls ≠ "java/lang/invoke/MethodHandle" ∧ mX1_size.1.cls ≠ "java/lang/invoke/VarHandle" ∧ plainName mX1_size.1.cls = true := ⟨z_at_rf (i := 485) rfl rfl, z_at_in (i := 67) (by decide +kernel), by decide +kernel, by decide +kernel, by decide +kernel⟩
theorem zm_X5_62 : z_mOK RX5 62 0 0 mX1_size := ⟨zc_X1_size.1, zc_X1_size.2.1, ⟨zc_X1_size.2.2.1, zc_X1_size.2.2.2.1, by decide +kernel⟩, by decide, zc_X1_size.2.2.2.2, z_at_in (i := 482) (by decide +kernel), z_at_in (i := 483) (by decide +kernel), z_at_in (i := 484) (by decide +kernel)⟩
set_option maxRecDepth 20000 in
theorem zc_X7_octet : Cond.code mX7_octet.1 mX7_octet.2.1 mX7_octet.2.2.1 mX7_octet.2.2.2 ∈ z_tb ∧ Cond.initialized mX7_octet.1.cls ∈ z_tb ∧ mX7_octet.1.cls ≠ "java/lang/invoke/MethodHandle" ∧ mX7_octet.1.cls ≠ "java/lang/invoke/VarHandle" ∧ plainName mX7_octet.1.cls = true := ⟨z_at_rf (i := 489) rfl rfl, z_at_in (i := 65) (by decide +kernel), by decide +kernel, by decide +kernel, by decide +kernel⟩
theorem zm_L_39 : z_mOK RL 39 0 1 mX7_octet := ⟨zc_X7_octet.1, zc_X7_octet.2.1, ⟨zc_X7_octet.2.2.1, zc_X7_octet.2.2.2.1, by decide +kernel⟩, by decide, zc_X7_octet.2.2.2.2, z_at_in (i := 486) (by decide +kernel), z_at_in (i := 487) (by decide +kernel), z_at_in (i := 488) (by decide +kernel)⟩
theorem zm_X7_112 : z_mOK RX7 112 0 1 mX0_at := ⟨zc_X0_at.1, zc_X0_at.2.1, ⟨zc_X0_at.2.2.1, zc_X0_at.2.2.2.1, by decide +kernel⟩, by decide, zc_X0_at.2.2.2.2, z_at_in (i := 490) (by decide +kernel), z_at_in (i := 360) (by decide +kernel), z_at_in (i := 361) (by decide +kernel)⟩
set_option maxRecDepth 20000 in
theorem zc_X7_line : Cond.code mX7_line.1 mX7_line.2.1 mX7_line.2.2.1 mX7_line.2.2.2 ∈ z_tb ∧ Cond.initialized mX7_line.1.cls ∈ z_tb ∧ mX7_line.1.cls ≠ "java/lang/invoke/MethodHandle" ∧ mX7_line.1.cls ≠ "java/lang/invoke/VarHandle" ∧ plainName mX7_line.1.cls = true := ⟨z_at_rf (i := 494) rfl rfl, z_at_in (i := 65) (by decide +kernel), by decide +kernel, by decide +kernel, by decide +kernel⟩
theorem zm_L_44 : z_mOK RL 44 0 0 mX7_line := ⟨zc_X7_line.1, zc_X7_line.2.1, ⟨zc_X7_line.2.2.1, zc_X7_line.2.2.2.1, by decide +kernel⟩, by decide, zc_X7_line.2.2.2.2, z_at_in (i := 491) (by decide +kernel), z_at_in (i := 492) (by decide +kernel), z_at_in (i := 493) (by decide +kernel)⟩
set_option maxRecDepth 20000 in
theorem zc_X7_fault : Cond.code mX7_fault.1 mX7_fault.2.1 mX7_fault.2.2.1 mX7_fault.2.2.2 ∈ z_tb ∧ Cond.initialized mX7_fault.1.cls ∈ z_tb ∧ mX7_fault.1.cls ≠ "java/lang/invoke/MethodHandle" ∧ mX7_fault.1.cls ≠ "java/lang/invoke/VarHandle" ∧ plainName mX7_fault.1.cls = true := ⟨z_at_rf (i := 498) rfl rfl, z_at_in (i := 65) (by decide +kernel), by decide +kernel, by decide +kernel, by decide +kernel⟩
theorem zm_L_48 : z_mOK RL 48 0 0 mX7_fault := ⟨zc_X7_fault.1, zc_X7_fault.2.1, ⟨zc_X7_fault.2.2.1, zc_X7_fault.2.2.2.1, by decide +kernel⟩, by decide, zc_X7_fault.2.2.2.2, z_at_in (i := 495) (by decide +kernel), z_at_in (i := 496) (by decide +kernel), z_at_in (i := 497) (by decide +kernel)⟩
set_option maxRecDepth 20000 in
theorem zc_X7_depth : Cond.code mX7_depth.1 mX7_depth.2.1 mX7_depth.2.2.1 mX7_depth.2.2.2 ∈ z_tb ∧ Cond.initialized mX7_depth.1.cls ∈ z_tb ∧ mX7_depth.1.cls ≠ "java/lang/invoke/MethodHandle" ∧ mX7_depth.1.cls ≠ "java/lang/invoke/VarHandle" ∧ plainName mX7_depth.1.cls = true := ⟨z_at_rf (i := 502) rfl rfl, z_at_in (i := 65) (by decide +kernel), by decide +kernel, by decide +kernel, by decide +kernel⟩
theorem zm_L_52 : z_mOK RL 52 0 0 mX7_depth := ⟨zc_X7_depth.1, zc_X7_depth.2.1, ⟨zc_X7_depth.2.2.1, zc_X7_depth.2.2.2.1, by decide +kernel⟩, by decide, zc_X7_depth.2.2.2.2, z_at_in (i := 499) (by decide +kernel), z_at_in (i := 500) (by decide +kernel), z_at_in (i := 501) (by decide +kernel)⟩
set_option maxRecDepth 20000 in
theorem zc_X3_size : Cond.code mX3_size.1 mX3_size.2.1 mX3_size.2.2.1 mX3_size.2.2.2 ∈ z_tb ∧ Cond.initialized mX3_size.1.cls ∈ z_tb ∧ mX3_size.1.cls ≠ "java/lang/invoke/MethodHandle" ∧ mX3_size.1.cls ≠ "java/lang/invoke/VarHandle" ∧ plainName mX3_size.1.cls = true := ⟨z_at_rf (i := 506) rfl rfl, z_at_in (i := 71) (by decide +kernel), by decide +kernel, by decide +kernel, by decide +kernel⟩
theorem zm_X7_116 : z_mOK RX7 116 0 0 mX3_size := ⟨zc_X3_size.1, zc_X3_size.2.1, ⟨zc_X3_size.2.2.1, zc_X3_size.2.2.2.1, by decide +kernel⟩, by decide, zc_X3_size.2.2.2.2, z_at_in (i := 503) (by decide +kernel), z_at_in (i := 504) (by decide +kernel), z_at_in (i := 505) (by decide +kernel)⟩
set_option maxRecDepth 20000 in
theorem zc_X7_next : Cond.code mX7_next.1 mX7_next.2.1 mX7_next.2.2.1 mX7_next.2.2.2 ∈ z_tb ∧ Cond.initialized mX7_next.1.cls ∈ z_tb ∧ mX7_next.1.cls ≠ "java/lang/invoke/MethodHandle" ∧ mX7_next.1.cls ≠ "java/lang/invoke/VarHandle" ∧ plainName mX7_next.1.cls = true := ⟨z_at_rf (i := 514) rfl rfl, z_at_in (i := 65) (by decide +kernel), by decide +kernel, by decide +kernel, by decide +kernel⟩
theorem zm_L_7 : z_mOK RL 7 0 0 mX7_next := ⟨zc_X7_next.1, zc_X7_next.2.1, ⟨zc_X7_next.2.2.1, zc_X7_next.2.2.2.1, by decide +kernel⟩, by decide, zc_X7_next.2.2.2.2, z_at_in (i := 511) (by decide +kernel), z_at_in (i := 512) (by decide +kernel), z_at_in (i := 513) (by decide +kernel)⟩
set_option maxRecDepth 20000 in
theorem zc_X7_limit : Cond.code mX7_limit.1 mX7_limit.2.1 mX7_limit.2.2.1 mX7_limit.2.2.2 ∈ z_tb ∧ Cond.initialized mX7_limit.1.cls ∈ z_tb ∧ mX7_limit.1.cls ≠ "java/lang/invoke/MethodHandle" ∧ mX7_limit.1.cls ≠ "java/lang/invoke/VarHandle" ∧ plainName mX7_limit.1.cls = true := ⟨z_at_rf (i := 519) rfl rfl, z_at_in (i := 65) (by decide +kernel), by decide +kernel, by decide +kernel, by decide +kernel⟩
theorem zm_X7_96 : z_mOK RX7 96 0 0 mX7_limit := ⟨zc_X7_limit.1, zc_X7_limit.2.1, ⟨zc_X7_limit.2.2.1, zc_X7_limit.2.2.2.1, by decide +kernel⟩, by decide, zc_X7_limit.2.2.2.2, z_at_in (i := 516) (by decide +kernel), z_at_in (i := 518) (by decide +kernel), z_at_in (i := 2) (by decide +kernel)⟩
set_option maxRecDepth 20000 in
theorem zc_X3_innermostLines : Cond.code mX3_innermostLines.1 mX3_innermostLines.2.1 mX3_innermostLines.2.2.1 mX3_innermostLines.2.2.2 ∈ z_tb ∧ Cond.initialized mX3_innermostLines.1.cls ∈ z_tb ∧ mX3_innermostLines.1.cls ≠ "java/lang/invoke/MethodHandle" ∧ mX3_innermostLines.1.cls ≠ "java/lang/invoke/VarHandle" ∧ plainName mX3_innermostLines.1.cls = true := ⟨z_at_rf (i := 523) rfl rfl, z_at_in (i := 71) (by decide +kernel), by decide +kernel, by decide +kernel, by decide +kernel⟩
theorem zm_X7_117 : z_mOK RX7 117 0 0 mX3_innermostLines := ⟨zc_X3_innermostLines.1, zc_X3_innermostLines.2.1, ⟨zc_X3_innermostLines.2.2.1, zc_X3_innermostLines.2.2.2.1, by decide +kernel⟩, by decide, zc_X3_innermostLines.2.2.2.2, z_at_in (i := 520) (by decide +kernel), z_at_in (i := 521) (by decide +kernel), z_at_in (i := 522) (by decide +kernel)⟩
set_option maxRecDepth 20000 in
theorem zc_X3_at : Cond.code mX3_at.1 mX3_at.2.1 mX3_at.2.2.1 mX3_at.2.2.2 ∈ z_tb ∧ Cond.initialized mX3_at.1.cls ∈ z_tb ∧ mX3_at.1.cls ≠ "java/lang/invoke/MethodHandle" ∧ mX3_at.1.cls ≠ "java/lang/invoke/VarHandle" ∧ plainName mX3_at.1.cls = true := ⟨z_at_rf (i := 527) rfl rfl, z_at_in (i := 71) (by decide +kernel), by decide +kernel, by decide +kernel, by decide +kernel⟩
theorem zm_X3_22 : z_mOK RX3 22 0 1 mX3_at := ⟨zc_X3_at.1, zc_X3_at.2.1, ⟨zc_X3_at.2.2.1, zc_X3_at.2.2.2.1, by decide +kernel⟩, by decide, zc_X3_at.2.2.2.2, z_at_in (i := 524) (by decide +kernel), z_at_in (i := 526) (by decide +kernel), z_at_in (i := 3) (by decide +kernel)⟩
set_option maxRecDepth 20000 in
theorem zc_X4_hasLines : Cond.code mX4_hasLines.1 mX4_hasLines.2.1 mX4_hasLines.2.2.1 mX4_hasLines.2.2.2 ∈ z_tb ∧ Cond.initialized mX4_hasLines.1.cls ∈ z_tb ∧ mX4_hasLines.1.cls ≠ "java/lang/invoke/MethodHandle" ∧ mX4_hasLines.1.cls ≠ "java/lang/invoke/VarHandle" ∧ plainName mX4_hasLines.1.cls = true := ⟨z_at_rf (i := 531) rfl rfl, z_at_in (i := 72) (by decide +kernel), by decide +kernel, by decide +kernel, by decide +kernel⟩
theorem zm_X3_33 : z_mOK RX3 33 0 0 mX4_hasLines := ⟨zc_X4_hasLines.1, zc_X4_hasLines.2.1, ⟨zc_X4_hasLines.2.2.1, zc_X4_hasLines.2.2.2.1, by decide +kernel⟩, by decide, zc_X4_hasLines.2.2.2.2, z_at_in (i := 528) (by decide +kernel), z_at_in (i := 529) (by decide +kernel), z_at_in (i := 530) (by decide +kernel)⟩
set_option maxRecDepth 20000 in
theorem zc_X7_readLine : Cond.code mX7_readLine.1 mX7_readLine.2.1 mX7_readLine.2.2.1 mX7_readLine.2.2.2 ∈ z_tb ∧ Cond.initialized mX7_readLine.1.cls ∈ z_tb ∧ mX7_readLine.1.cls ≠ "java/lang/invoke/MethodHandle" ∧ mX7_readLine.1.cls ≠ "java/lang/invoke/VarHandle" ∧ plainName mX7_readLine.1.cls = true := ⟨z_at_rf (i := 535) rfl rfl, z_at_in (i := 65) (by decide +kernel), by decide +kernel, by decide +kernel, by decide +kernel⟩
theorem zm_X7_99 : z_mOK RX7 99 0 0 mX7_readLine := ⟨zc_X7_readLine.1, zc_X7_readLine.2.1, ⟨zc_X7_readLine.2.2.1, zc_X7_readLine.2.2.2.1, by decide +kernel⟩, by decide, zc_X7_readLine.2.2.2.2, z_at_in (i := 532) (by decide +kernel), z_at_in (i := 534) (by decide +kernel), z_at_in (i := 4) (by decide +kernel)⟩
set_option maxRecDepth 20000 in
theorem zc_X7_fill : Cond.code mX7_fill.1 mX7_fill.2.1 mX7_fill.2.2.1 mX7_fill.2.2.2 ∈ z_tb ∧ Cond.initialized mX7_fill.1.cls ∈ z_tb ∧ mX7_fill.1.cls ≠ "java/lang/invoke/MethodHandle" ∧ mX7_fill.1.cls ≠ "java/lang/invoke/VarHandle" ∧ plainName mX7_fill.1.cls = true := ⟨z_at_rf (i := 539) rfl rfl, z_at_in (i := 65) (by decide +kernel), by decide +kernel, by decide +kernel, by decide +kernel⟩
theorem zm_X7_129 : z_mOK RX7 129 0 1 mX7_fill := ⟨zc_X7_fill.1, zc_X7_fill.2.1, ⟨zc_X7_fill.2.2.1, zc_X7_fill.2.2.2.1, by decide +kernel⟩, by decide, zc_X7_fill.2.2.2.2, z_at_in (i := 536) (by decide +kernel), z_at_in (i := 538) (by decide +kernel), z_at_in (i := 5) (by decide +kernel)⟩
set_option maxRecDepth 20000 in
theorem zc_X5_start : Cond.code mX5_start.1 mX5_start.2.1 mX5_start.2.2.1 mX5_start.2.2.2 ∈ z_tb ∧ Cond.initialized mX5_start.1.cls ∈ z_tb ∧ mX5_start.1.cls ≠ "java/lang/invoke/MethodHandle" ∧ mX5_start.1.cls ≠ "java/lang/invoke/VarHandle" ∧ plainName mX5_start.1.cls = true := ⟨z_at_rf (i := 543) rfl rfl, z_at_in (i := 66) (by decide +kernel), by decide +kernel, by decide +kernel, by decide +kernel⟩
theorem zm_X7_163 : z_mOK RX7 163 0 1 mX5_start := ⟨zc_X5_start.1, zc_X5_start.2.1, ⟨zc_X5_start.2.2.1, zc_X5_start.2.2.2.1, by decide +kernel⟩, by decide, zc_X5_start.2.2.2.2, z_at_in (i := 540) (by decide +kernel), z_at_in (i := 541) (by decide +kernel), z_at_in (i := 542) (by decide +kernel)⟩
set_option maxRecDepth 20000 in
theorem zc_X1_at : Cond.code mX1_at.1 mX1_at.2.1 mX1_at.2.2.1 mX1_at.2.2.2 ∈ z_tb ∧ Cond.initialized mX1_at.1.cls ∈ z_tb ∧ mX1_at.1.cls ≠ "java/lang/invoke/MethodHandle" ∧ mX1_at.1.cls ≠ "java/lang/invoke/VarHandle" ∧ plainName mX1_at.1.cls = true := ⟨z_at_rf (i := 547) rfl rfl, z_at_in (i := 67) (by decide +kernel), by decide +kernel, by decide +kernel, by decide +kernel⟩
theorem zm_X5_63 : z_mOK RX5 63 0 1 mX1_at := ⟨zc_X1_at.1, zc_X1_at.2.1, ⟨zc_X1_at.2.2.1, zc_X1_at.2.2.2.1, by decide +kernel⟩, by decide, zc_X1_at.2.2.2.2, z_at_in (i := 544) (by decide +kernel), z_at_in (i := 545) (by decide +kernel), z_at_in (i := 546) (by decide +kernel)⟩
set_option maxRecDepth 20000 in
theorem zc_X5_end : Cond.code mX5_end.1 mX5_end.2.1 mX5_end.2.2.1 mX5_end.2.2.2 ∈ z_tb ∧ Cond.initialized mX5_end.1.cls ∈ z_tb ∧ mX5_end.1.cls ≠ "java/lang/invoke/MethodHandle" ∧ mX5_end.1.cls ≠ "java/lang/invoke/VarHandle" ∧ plainName mX5_end.1.cls = true := ⟨z_at_rf (i := 551) rfl rfl, z_at_in (i := 66) (by decide +kernel), by decide +kernel, by decide +kernel, by decide +kernel⟩
theorem zm_X7_164 : z_mOK RX7 164 0 1 mX5_end := ⟨zc_X5_end.1, zc_X5_end.2.1, ⟨zc_X5_end.2.2.1, zc_X5_end.2.2.2.1, by decide +kernel⟩, by decide, zc_X5_end.2.2.2.2, z_at_in (i := 548) (by decide +kernel), z_at_in (i := 549) (by decide +kernel), z_at_in (i := 550) (by decide +kernel)⟩
set_option maxRecDepth 20000 in
theorem zc_X3_innermostMacro : Cond.code mX3_innermostMacro.1 mX3_innermostMacro.2.1 mX3_innermostMacro.2.2.1 mX3_innermostMacro.2.2.2 ∈ z_tb ∧ Cond.initialized mX3_innermostMacro.1.cls ∈ z_tb ∧ mX3_innermostMacro.1.cls ≠ "java/lang/invoke/MethodHandle" ∧ mX3_innermostMacro.1.cls ≠ "java/lang/invoke/VarHandle" ∧ plainName mX3_innermostMacro.1.cls = true := ⟨z_at_rf (i := 555) rfl rfl, z_at_in (i := 71) (by decide +kernel), by decide +kernel, by decide +kernel, by decide +kernel⟩
theorem zm_X7_165 : z_mOK RX7 165 0 0 mX3_innermostMacro := ⟨zc_X3_innermostMacro.1, zc_X3_innermostMacro.2.1, ⟨zc_X3_innermostMacro.2.2.1, zc_X3_innermostMacro.2.2.2.1, by decide +kernel⟩, by decide, zc_X3_innermostMacro.2.2.2.2, z_at_in (i := 552) (by decide +kernel), z_at_in (i := 553) (by decide +kernel), z_at_in (i := 554) (by decide +kernel)⟩
set_option maxRecDepth 20000 in
theorem zc_X5_bytes : Cond.code mX5_bytes.1 mX5_bytes.2.1 mX5_bytes.2.2.1 mX5_bytes.2.2.2 ∈ z_tb ∧ Cond.initialized mX5_bytes.1.cls ∈ z_tb ∧ mX5_bytes.1.cls ≠ "java/lang/invoke/MethodHandle" ∧ mX5_bytes.1.cls ≠ "java/lang/invoke/VarHandle" ∧ plainName mX5_bytes.1.cls = true := ⟨z_at_rf (i := 559) rfl rfl, z_at_in (i := 66) (by decide +kernel), by decide +kernel, by decide +kernel, by decide +kernel⟩
theorem zm_X7_168 : z_mOK RX7 168 0 0 mX5_bytes := ⟨zc_X5_bytes.1, zc_X5_bytes.2.1, ⟨zc_X5_bytes.2.2.1, zc_X5_bytes.2.2.2.1, by decide +kernel⟩, by decide, zc_X5_bytes.2.2.2.2, z_at_in (i := 556) (by decide +kernel), z_at_in (i := 557) (by decide +kernel), z_at_in (i := 558) (by decide +kernel)⟩
set_option maxRecDepth 20000 in
theorem zc_X0_appendPart : Cond.code mX0_appendPart.1 mX0_appendPart.2.1 mX0_appendPart.2.2.1 mX0_appendPart.2.2.2 ∈ z_tb ∧ Cond.initialized mX0_appendPart.1.cls ∈ z_tb ∧ mX0_appendPart.1.cls ≠ "java/lang/invoke/MethodHandle" ∧ mX0_appendPart.1.cls ≠ "java/lang/invoke/VarHandle" ∧ plainName mX0_appendPart.1.cls = true := ⟨z_at_rf (i := 563) rfl rfl, z_at_in (i := 68) (by decide +kernel), by decide +kernel, by decide +kernel, by decide +kernel⟩
theorem zm_X7_172 : z_mOK RX7 172 0 3 mX0_appendPart := ⟨zc_X0_appendPart.1, zc_X0_appendPart.2.1, ⟨zc_X0_appendPart.2.2.1, zc_X0_appendPart.2.2.2.1, by decide +kernel⟩, by decide, zc_X0_appendPart.2.2.2.2, z_at_in (i := 560) (by decide +kernel), z_at_in (i := 561) (by decide +kernel), z_at_in (i := 562) (by decide +kernel)⟩
theorem zm_X0_39 : z_mOK RX0 39 0 1 mX0_append := ⟨zc_X0_append.1, zc_X0_append.2.1, ⟨zc_X0_append.2.2.1, zc_X0_append.2.2.2.1, by decide +kernel⟩, by decide, zc_X0_append.2.2.2.2, z_at_in (i := 564) (by decide +kernel), z_at_in (i := 326) (by decide +kernel), z_at_in (i := 327) (by decide +kernel)⟩
set_option maxRecDepth 20000 in
theorem zc_X4_write : Cond.code mX4_write.1 mX4_write.2.1 mX4_write.2.2.1 mX4_write.2.2.2 ∈ z_tb ∧ Cond.initialized mX4_write.1.cls ∈ z_tb ∧ mX4_write.1.cls ≠ "java/lang/invoke/MethodHandle" ∧ mX4_write.1.cls ≠ "java/lang/invoke/VarHandle" ∧ plainName mX4_write.1.cls = true := ⟨z_at_rf (i := 568) rfl rfl, z_at_in (i := 72) (by decide +kernel), by decide +kernel, by decide +kernel, by decide +kernel⟩
theorem zm_X7_176 : z_mOK RX7 176 0 4 mX4_write := ⟨zc_X4_write.1, zc_X4_write.2.1, ⟨zc_X4_write.2.2.1, zc_X4_write.2.2.2.1, by decide +kernel⟩, by decide, zc_X4_write.2.2.2.2, z_at_in (i := 565) (by decide +kernel), z_at_in (i := 566) (by decide +kernel), z_at_in (i := 567) (by decide +kernel)⟩
set_option maxRecDepth 20000 in
theorem zc_X4_writeAt : Cond.code mX4_writeAt.1 mX4_writeAt.2.1 mX4_writeAt.2.2.1 mX4_writeAt.2.2.2 ∈ z_tb ∧ Cond.initialized mX4_writeAt.1.cls ∈ z_tb ∧ mX4_writeAt.1.cls ≠ "java/lang/invoke/MethodHandle" ∧ mX4_writeAt.1.cls ≠ "java/lang/invoke/VarHandle" ∧ plainName mX4_writeAt.1.cls = true := ⟨z_at_rf (i := 572) rfl rfl, z_at_in (i := 72) (by decide +kernel), by decide +kernel, by decide +kernel, by decide +kernel⟩
theorem zm_X4_90 : z_mOK RX4 90 0 4 mX4_writeAt := ⟨zc_X4_writeAt.1, zc_X4_writeAt.2.1, ⟨zc_X4_writeAt.2.2.1, zc_X4_writeAt.2.2.2.1, by decide +kernel⟩, by decide, zc_X4_writeAt.2.2.2.2, z_at_in (i := 569) (by decide +kernel), z_at_in (i := 571) (by decide +kernel), z_at_in (i := 6) (by decide +kernel)⟩
theorem zm_X4_94 : z_mOK RX4 94 0 1 mX0_at := ⟨zc_X0_at.1, zc_X0_at.2.1, ⟨zc_X0_at.2.2.1, zc_X0_at.2.2.2.1, by decide +kernel⟩, by decide, zc_X0_at.2.2.2.2, z_at_in (i := 573) (by decide +kernel), z_at_in (i := 360) (by decide +kernel), z_at_in (i := 361) (by decide +kernel)⟩
theorem zm_X4_97 : z_mOK RX4 97 0 1 mX0_append := ⟨zc_X0_append.1, zc_X0_append.2.1, ⟨zc_X0_append.2.2.1, zc_X0_append.2.2.2.1, by decide +kernel⟩, by decide, zc_X0_append.2.2.2.2, z_at_in (i := 574) (by decide +kernel), z_at_in (i := 326) (by decide +kernel), z_at_in (i := 327) (by decide +kernel)⟩
set_option maxRecDepth 20000 in
theorem zc_X0_appendDecimal : Cond.code mX0_appendDecimal.1 mX0_appendDecimal.2.1 mX0_appendDecimal.2.2.1 mX0_appendDecimal.2.2.2 ∈ z_tb ∧ Cond.initialized mX0_appendDecimal.1.cls ∈ z_tb ∧ mX0_appendDecimal.1.cls ≠ "java/lang/invoke/MethodHandle" ∧ mX0_appendDecimal.1.cls ≠ "java/lang/invoke/VarHandle" ∧ plainName mX0_appendDecimal.1.cls = true := ⟨z_at_rf (i := 578) rfl rfl, z_at_in (i := 68) (by decide +kernel), by decide +kernel, by decide +kernel, by decide +kernel⟩
theorem zm_X4_104 : z_mOK RX4 104 0 1 mX0_appendDecimal := ⟨zc_X0_appendDecimal.1, zc_X0_appendDecimal.2.1, ⟨zc_X0_appendDecimal.2.2.1, zc_X0_appendDecimal.2.2.2.1, by decide +kernel⟩, by decide, zc_X0_appendDecimal.2.2.2.2, z_at_in (i := 575) (by decide +kernel), z_at_in (i := 576) (by decide +kernel), z_at_in (i := 577) (by decide +kernel)⟩
set_option maxRecDepth 20000 in
theorem zc_X2_placeAt : Cond.code mX2_placeAt.1 mX2_placeAt.2.1 mX2_placeAt.2.2.1 mX2_placeAt.2.2.2 ∈ z_tb ∧ Cond.initialized mX2_placeAt.1.cls ∈ z_tb ∧ mX2_placeAt.1.cls ≠ "java/lang/invoke/MethodHandle" ∧ mX2_placeAt.1.cls ≠ "java/lang/invoke/VarHandle" ∧ plainName mX2_placeAt.1.cls = true := ⟨z_at_rf (i := 583) rfl rfl, z_at_in (i := 84) (by decide +kernel), by decide +kernel, by decide +kernel, by decide +kernel⟩
theorem zm_X4_107 : z_mOK RX4 107 0 3 mX2_placeAt := ⟨zc_X2_placeAt.1, zc_X2_placeAt.2.1, ⟨zc_X2_placeAt.2.2.1, zc_X2_placeAt.2.2.2.1, by decide +kernel⟩, by decide, zc_X2_placeAt.2.2.2.2, z_at_in (i := 580) (by decide +kernel), z_at_in (i := 581) (by decide +kernel), z_at_in (i := 582) (by decide +kernel)⟩
theorem zm_X2_49 : z_mOK RX2 49 0 0 mX1_size := ⟨zc_X1_size.1, zc_X1_size.2.1, ⟨zc_X1_size.2.2.1, zc_X1_size.2.2.2.1, by decide +kernel⟩, by decide, zc_X1_size.2.2.2.2, z_at_in (i := 584) (by decide +kernel), z_at_in (i := 483) (by decide +kernel), z_at_in (i := 484) (by decide +kernel)⟩
theorem zm_X2_52 : z_mOK RX2 52 0 1 mX1_at := ⟨zc_X1_at.1, zc_X1_at.2.1, ⟨zc_X1_at.2.2.1, zc_X1_at.2.2.2.1, by decide +kernel⟩, by decide, zc_X1_at.2.2.2.2, z_at_in (i := 585) (by decide +kernel), z_at_in (i := 545) (by decide +kernel), z_at_in (i := 546) (by decide +kernel)⟩
set_option maxRecDepth 20000 in
theorem zc_X0_isSame : Cond.code mX0_isSame.1 mX0_isSame.2.1 mX0_isSame.2.2.1 mX0_isSame.2.2.2 ∈ z_tb ∧ Cond.initialized mX0_isSame.1.cls ∈ z_tb ∧ mX0_isSame.1.cls ≠ "java/lang/invoke/MethodHandle" ∧ mX0_isSame.1.cls ≠ "java/lang/invoke/VarHandle" ∧ plainName mX0_isSame.1.cls = true := ⟨z_at_rf (i := 589) rfl rfl, z_at_in (i := 68) (by decide +kernel), by decide +kernel, by decide +kernel, by decide +kernel⟩
theorem zm_X2_55 : z_mOK RX2 55 0 4 mX0_isSame := ⟨zc_X0_isSame.1, zc_X0_isSame.2.1, ⟨zc_X0_isSame.2.2.1, zc_X0_isSame.2.2.2.1, by decide +kernel⟩, by decide, zc_X0_isSame.2.2.2.2, z_at_in (i := 586) (by decide +kernel), z_at_in (i := 587) (by decide +kernel), z_at_in (i := 588) (by decide +kernel)⟩
theorem zm_X4_111 : z_mOK RX4 111 0 1 mX1_at := ⟨zc_X1_at.1, zc_X1_at.2.1, ⟨zc_X1_at.2.2.1, zc_X1_at.2.2.2.1, by decide +kernel⟩, by decide, zc_X1_at.2.2.2.2, z_at_in (i := 590) (by decide +kernel), z_at_in (i := 545) (by decide +kernel), z_at_in (i := 546) (by decide +kernel)⟩
theorem zm_X4_57 : z_mOK RX4 57 0 3 mX0_appendPart := ⟨zc_X0_appendPart.1, zc_X0_appendPart.2.1, ⟨zc_X0_appendPart.2.2.1, zc_X0_appendPart.2.2.2.1, by decide +kernel⟩, by decide, zc_X0_appendPart.2.2.2.2, z_at_in (i := 591) (by decide +kernel), z_at_in (i := 561) (by decide +kernel), z_at_in (i := 562) (by decide +kernel)⟩
set_option maxRecDepth 20000 in
theorem zc_X2_placeLength : Cond.code mX2_placeLength.1 mX2_placeLength.2.1 mX2_placeLength.2.2.1 mX2_placeLength.2.2.2 ∈ z_tb ∧ Cond.initialized mX2_placeLength.1.cls ∈ z_tb ∧ mX2_placeLength.1.cls ≠ "java/lang/invoke/MethodHandle" ∧ mX2_placeLength.1.cls ≠ "java/lang/invoke/VarHandle" ∧ plainName mX2_placeLength.1.cls = true := ⟨z_at_rf (i := 595) rfl rfl, z_at_in (i := 84) (by decide +kernel), by decide +kernel, by decide +kernel, by decide +kernel⟩
theorem zm_X4_112 : z_mOK RX4 112 0 1 mX2_placeLength := ⟨zc_X2_placeLength.1, zc_X2_placeLength.2.1, ⟨zc_X2_placeLength.2.2.1, zc_X2_placeLength.2.2.2.1, by decide +kernel⟩, by decide, zc_X2_placeLength.2.2.2.2, z_at_in (i := 592) (by decide +kernel), z_at_in (i := 593) (by decide +kernel), z_at_in (i := 594) (by decide +kernel)⟩
set_option maxRecDepth 20000 in
theorem zc_X7_tell : Cond.code mX7_tell.1 mX7_tell.2.1 mX7_tell.2.2.1 mX7_tell.2.2.2 ∈ z_tb ∧ Cond.initialized mX7_tell.1.cls ∈ z_tb ∧ mX7_tell.1.cls ≠ "java/lang/invoke/MethodHandle" ∧ mX7_tell.1.cls ≠ "java/lang/invoke/VarHandle" ∧ plainName mX7_tell.1.cls = true := ⟨z_at_rf (i := 599) rfl rfl, z_at_in (i := 65) (by decide +kernel), by decide +kernel, by decide +kernel, by decide +kernel⟩
theorem zm_X7_132 : z_mOK RX7 132 0 1 mX7_tell := ⟨zc_X7_tell.1, zc_X7_tell.2.1, ⟨zc_X7_tell.2.2.1, zc_X7_tell.2.2.2.1, by decide +kernel⟩, by decide, zc_X7_tell.2.2.2.2, z_at_in (i := 596) (by decide +kernel), z_at_in (i := 598) (by decide +kernel), z_at_in (i := 7) (by decide +kernel)⟩
set_option maxRecDepth 20000 in
theorem zc_X6_takeAll : Cond.code mX6_takeAll.1 mX6_takeAll.2.1 mX6_takeAll.2.2.1 mX6_takeAll.2.2.2 ∈ z_tb ∧ Cond.initialized mX6_takeAll.1.cls ∈ z_tb ∧ mX6_takeAll.1.cls ≠ "java/lang/invoke/MethodHandle" ∧ mX6_takeAll.1.cls ≠ "java/lang/invoke/VarHandle" ∧ plainName mX6_takeAll.1.cls = true := ⟨z_at_rf (i := 603) rfl rfl, z_at_in (i := 70) (by decide +kernel), by decide +kernel, by decide +kernel, by decide +kernel⟩
theorem zm_X7_135 : z_mOK RX7 135 0 0 mX6_takeAll := ⟨zc_X6_takeAll.1, zc_X6_takeAll.2.1, ⟨zc_X6_takeAll.2.2.1, zc_X6_takeAll.2.2.2.1, by decide +kernel⟩, by decide, zc_X6_takeAll.2.2.2.2, z_at_in (i := 600) (by decide +kernel), z_at_in (i := 601) (by decide +kernel), z_at_in (i := 602) (by decide +kernel)⟩
theorem zm_X6_40 : z_mOK RX6 40 0 0 mX1_clear := ⟨zc_X1_clear.1, zc_X1_clear.2.1, ⟨zc_X1_clear.2.2.1, zc_X1_clear.2.2.2.1, by decide +kernel⟩, by decide, zc_X1_clear.2.2.2.2, z_at_in (i := 604) (by decide +kernel), z_at_in (i := 355) (by decide +kernel), z_at_in (i := 356) (by decide +kernel)⟩
theorem zm_X6_43 : z_mOK RX6 43 0 1 mX0_behindBlanks := ⟨zc_X0_behindBlanks.1, zc_X0_behindBlanks.2.1, ⟨zc_X0_behindBlanks.2.2.1, zc_X0_behindBlanks.2.2.2.1, by decide +kernel⟩, by decide, zc_X0_behindBlanks.2.2.2.2, z_at_in (i := 605) (by decide +kernel), z_at_in (i := 380) (by decide +kernel), z_at_in (i := 381) (by decide +kernel)⟩
theorem zm_X6_48 : z_mOK RX6 48 0 0 mX0_size := ⟨zc_X0_size.1, zc_X0_size.2.1, ⟨zc_X0_size.2.2.1, zc_X0_size.2.2.2.1, by decide +kernel⟩, by decide, zc_X0_size.2.2.2.2, z_at_in (i := 606) (by decide +kernel), z_at_in (i := 322) (by decide +kernel), z_at_in (i := 323) (by decide +kernel)⟩
theorem zm_X6_49 : z_mOK RX6 49 0 1 mX0_at := ⟨zc_X0_at.1, zc_X0_at.2.1, ⟨zc_X0_at.2.2.1, zc_X0_at.2.2.2.1, by decide +kernel⟩, by decide, zc_X0_at.2.2.2.2, z_at_in (i := 607) (by decide +kernel), z_at_in (i := 360) (by decide +kernel), z_at_in (i := 361) (by decide +kernel)⟩
set_option maxRecDepth 20000 in
theorem zc_X6_take : Cond.code mX6_take.1 mX6_take.2.1 mX6_take.2.2.1 mX6_take.2.2.2 ∈ z_tb ∧ Cond.initialized mX6_take.1.cls ∈ z_tb ∧ mX6_take.1.cls ≠ "java/lang/invoke/MethodHandle" ∧ mX6_take.1.cls ≠ "java/lang/invoke/VarHandle" ∧ plainName mX6_take.1.cls = true := ⟨z_at_rf (i := 611) rfl rfl, z_at_in (i := 70) (by decide +kernel), by decide +kernel, by decide +kernel, by decide +kernel⟩
theorem zm_X6_50 : z_mOK RX6 50 0 1 mX6_take := ⟨zc_X6_take.1, zc_X6_take.2.1, ⟨zc_X6_take.2.2.1, zc_X6_take.2.2.2.1, by decide +kernel⟩, by decide, zc_X6_take.2.2.2.2, z_at_in (i := 608) (by decide +kernel), z_at_in (i := 610) (by decide +kernel), z_at_in (i := 8) (by decide +kernel)⟩
theorem zm_X6_64 : z_mOK RX6 64 3 1 mX7_isDigit := ⟨zc_X7_isDigit.1, zc_X7_isDigit.2.1, ⟨zc_X7_isDigit.2.2.1, zc_X7_isDigit.2.2.2.1, by decide +kernel⟩, by decide, zc_X7_isDigit.2.2.2.2, z_atN_in (i := 548) (by decide +kernel), z_at_in (i := 395) (by decide +kernel)⟩
set_option maxRecDepth 20000 in
theorem zc_X6_takeNumber : Cond.code mX6_takeNumber.1 mX6_takeNumber.2.1 mX6_takeNumber.2.2.1 mX6_takeNumber.2.2.2 ∈ z_tb ∧ Cond.initialized mX6_takeNumber.1.cls ∈ z_tb ∧ mX6_takeNumber.1.cls ≠ "java/lang/invoke/MethodHandle" ∧ mX6_takeNumber.1.cls ≠ "java/lang/invoke/VarHandle" ∧ plainName mX6_takeNumber.1.cls = true := ⟨z_at_rf (i := 616) rfl rfl, z_at_in (i := 70) (by decide +kernel), by decide +kernel, by decide +kernel, by decide +kernel⟩
theorem zm_X6_68 : z_mOK RX6 68 0 1 mX6_takeNumber := ⟨zc_X6_takeNumber.1, zc_X6_takeNumber.2.1, ⟨zc_X6_takeNumber.2.2.1, zc_X6_takeNumber.2.2.2.1, by decide +kernel⟩, by decide, zc_X6_takeNumber.2.2.2.2, z_at_in (i := 613) (by decide +kernel), z_at_in (i := 615) (by decide +kernel), z_at_in (i := 9) (by decide +kernel)⟩
set_option maxRecDepth 20000 in
theorem zc_X6_baseMarked : Cond.code mX6_baseMarked.1 mX6_baseMarked.2.1 mX6_baseMarked.2.2.1 mX6_baseMarked.2.2.2 ∈ z_tb ∧ Cond.initialized mX6_baseMarked.1.cls ∈ z_tb ∧ mX6_baseMarked.1.cls ≠ "java/lang/invoke/MethodHandle" ∧ mX6_baseMarked.1.cls ≠ "java/lang/invoke/VarHandle" ∧ plainName mX6_baseMarked.1.cls = true := ⟨z_at_rf (i := 619) rfl rfl, z_at_in (i := 70) (by decide +kernel), by decide +kernel, by decide +kernel, by decide +kernel⟩
theorem zm_X6_87 : z_mOK RX6 87 2 1 mX6_baseMarked := ⟨zc_X6_baseMarked.1, zc_X6_baseMarked.2.1, ⟨zc_X6_baseMarked.2.2.1, zc_X6_baseMarked.2.2.2.1, by decide +kernel⟩, by decide, zc_X6_baseMarked.2.2.2.2, z_at_in (i := 617) (by decide +kernel), z_at_in (i := 618) (by decide +kernel)⟩
set_option maxRecDepth 20000 in
theorem zc_X7_digitIn : Cond.code mX7_digitIn.1 mX7_digitIn.2.1 mX7_digitIn.2.2.1 mX7_digitIn.2.2.2 ∈ z_tb ∧ Cond.initialized mX7_digitIn.1.cls ∈ z_tb ∧ mX7_digitIn.1.cls ≠ "java/lang/invoke/MethodHandle" ∧ mX7_digitIn.1.cls ≠ "java/lang/invoke/VarHandle" ∧ plainName mX7_digitIn.1.cls = true := ⟨z_at_rf (i := 622) rfl rfl, z_at_in (i := 65) (by decide +kernel), by decide +kernel, by decide +kernel, by decide +kernel⟩
theorem zm_X6_90 : z_mOK RX6 90 3 2 mX7_digitIn := ⟨zc_X7_digitIn.1, zc_X7_digitIn.2.1, ⟨zc_X7_digitIn.2.2.1, zc_X7_digitIn.2.2.2.1, by decide +kernel⟩, by decide, zc_X7_digitIn.2.2.2.2, z_atN_in (i := 556) (by decide +kernel), z_at_in (i := 621) (by decide +kernel)⟩
set_option maxRecDepth 20000 in
theorem zc_X6_hasRoom : Cond.code mX6_hasRoom.1 mX6_hasRoom.2.1 mX6_hasRoom.2.2.1 mX6_hasRoom.2.2.2 ∈ z_tb ∧ Cond.initialized mX6_hasRoom.1.cls ∈ z_tb ∧ mX6_hasRoom.1.cls ≠ "java/lang/invoke/MethodHandle" ∧ mX6_hasRoom.1.cls ≠ "java/lang/invoke/VarHandle" ∧ plainName mX6_hasRoom.1.cls = true := ⟨z_at_rf (i := 626) rfl rfl, z_at_in (i := 70) (by decide +kernel), by decide +kernel, by decide +kernel, by decide +kernel⟩
theorem zm_X6_93 : z_mOK RX6 93 0 2 mX6_hasRoom := ⟨zc_X6_hasRoom.1, zc_X6_hasRoom.2.1, ⟨zc_X6_hasRoom.2.2.1, zc_X6_hasRoom.2.2.2.1, by decide +kernel⟩, by decide, zc_X6_hasRoom.2.2.2.2, z_at_in (i := 623) (by decide +kernel), z_at_in (i := 625) (by decide +kernel), z_at_in (i := 10) (by decide +kernel)⟩
theorem zm_X6_71 : z_mOK RX6 71 3 1 mX7_isNameByte := ⟨zc_X7_isNameByte.1, zc_X7_isNameByte.2.1, ⟨zc_X7_isNameByte.2.2.1, zc_X7_isNameByte.2.2.2.1, by decide +kernel⟩, by decide, zc_X7_isNameByte.2.2.2.2, z_atN_in (i := 564) (by decide +kernel), z_at_in (i := 392) (by decide +kernel)⟩
theorem zm_X6_74 : z_mOK RX6 74 0 1 mX0_behindNameBytes := ⟨zc_X0_behindNameBytes.1, zc_X0_behindNameBytes.2.1, ⟨zc_X0_behindNameBytes.2.2.1, zc_X0_behindNameBytes.2.2.2.1, by decide +kernel⟩, by decide, zc_X0_behindNameBytes.2.2.2.2, z_at_in (i := 629) (by decide +kernel), z_at_in (i := 388) (by decide +kernel), z_at_in (i := 389) (by decide +kernel)⟩
set_option maxRecDepth 20000 in
theorem zc_X6_takeCharacter : Cond.code mX6_takeCharacter.1 mX6_takeCharacter.2.1 mX6_takeCharacter.2.2.1 mX6_takeCharacter.2.2.2 ∈ z_tb ∧ Cond.initialized mX6_takeCharacter.1.cls ∈ z_tb ∧ mX6_takeCharacter.1.cls ≠ "java/lang/invoke/MethodHandle" ∧ mX6_takeCharacter.1.cls ≠ "java/lang/invoke/VarHandle" ∧ plainName mX6_takeCharacter.1.cls = true := ⟨z_at_rf (i := 633) rfl rfl, z_at_in (i := 70) (by decide +kernel), by decide +kernel, by decide +kernel, by decide +kernel⟩
theorem zm_X6_77 : z_mOK RX6 77 0 1 mX6_takeCharacter := ⟨zc_X6_takeCharacter.1, zc_X6_takeCharacter.2.1, ⟨zc_X6_takeCharacter.2.2.1, zc_X6_takeCharacter.2.2.2.1, by decide +kernel⟩, by decide, zc_X6_takeCharacter.2.2.2.2, z_at_in (i := 630) (by decide +kernel), z_at_in (i := 632) (by decide +kernel), z_at_in (i := 11) (by decide +kernel)⟩
set_option maxRecDepth 20000 in
theorem zc_X6_behindCharacter : Cond.code mX6_behindCharacter.1 mX6_behindCharacter.2.1 mX6_behindCharacter.2.2.1 mX6_behindCharacter.2.2.2 ∈ z_tb ∧ Cond.initialized mX6_behindCharacter.1.cls ∈ z_tb ∧ mX6_behindCharacter.1.cls ≠ "java/lang/invoke/MethodHandle" ∧ mX6_behindCharacter.1.cls ≠ "java/lang/invoke/VarHandle" ∧ plainName mX6_behindCharacter.1.cls = true := ⟨z_at_rf (i := 637) rfl rfl, z_at_in (i := 70) (by decide +kernel), by decide +kernel, by decide +kernel, by decide +kernel⟩
theorem zm_X6_99 : z_mOK RX6 99 0 2 mX6_behindCharacter := ⟨zc_X6_behindCharacter.1, zc_X6_behindCharacter.2.1, ⟨zc_X6_behindCharacter.2.2.1, zc_X6_behindCharacter.2.2.2.1, by decide +kernel⟩, by decide, zc_X6_behindCharacter.2.2.2.2, z_at_in (i := 634) (by decide +kernel), z_at_in (i := 636) (by decide +kernel), z_at_in (i := 12) (by decide +kernel)⟩
set_option maxRecDepth 20000 in
theorem zc_X7_isPrintable : Cond.code mX7_isPrintable.1 mX7_isPrintable.2.1 mX7_isPrintable.2.2.1 mX7_isPrintable.2.2.2 ∈ z_tb ∧ Cond.initialized mX7_isPrintable.1.cls ∈ z_tb ∧ mX7_isPrintable.1.cls ≠ "java/lang/invoke/MethodHandle" ∧ mX7_isPrintable.1.cls ≠ "java/lang/invoke/VarHandle" ∧ plainName mX7_isPrintable.1.cls = true := ⟨z_at_rf (i := 640) rfl rfl, z_at_in (i := 65) (by decide +kernel), by decide +kernel, by decide +kernel, by decide +kernel⟩
theorem zm_X6_102 : z_mOK RX6 102 3 1 mX7_isPrintable := ⟨zc_X7_isPrintable.1, zc_X7_isPrintable.2.1, ⟨zc_X7_isPrintable.2.2.1, zc_X7_isPrintable.2.2.2.1, by decide +kernel⟩, by decide, zc_X7_isPrintable.2.2.2.2, z_atN_in (i := 574) (by decide +kernel), z_at_in (i := 639) (by decide +kernel)⟩
set_option maxRecDepth 20000 in
theorem zc_X6_worthOfEscape : Cond.code mX6_worthOfEscape.1 mX6_worthOfEscape.2.1 mX6_worthOfEscape.2.2.1 mX6_worthOfEscape.2.2.2 ∈ z_tb ∧ Cond.initialized mX6_worthOfEscape.1.cls ∈ z_tb ∧ mX6_worthOfEscape.1.cls ≠ "java/lang/invoke/MethodHandle" ∧ mX6_worthOfEscape.1.cls ≠ "java/lang/invoke/VarHandle" ∧ plainName mX6_worthOfEscape.1.cls = true := ⟨z_at_rf (i := 643) rfl rfl, z_at_in (i := 70) (by decide +kernel), by decide +kernel, by decide +kernel, by decide +kernel⟩
theorem zm_X6_105 : z_mOK RX6 105 2 1 mX6_worthOfEscape := ⟨zc_X6_worthOfEscape.1, zc_X6_worthOfEscape.2.1, ⟨zc_X6_worthOfEscape.2.2.1, zc_X6_worthOfEscape.2.2.2.1, by decide +kernel⟩, by decide, zc_X6_worthOfEscape.2.2.2.2, z_at_in (i := 641) (by decide +kernel), z_at_in (i := 642) (by decide +kernel)⟩
set_option maxRecDepth 20000 in
theorem zc_X6_takeText : Cond.code mX6_takeText.1 mX6_takeText.2.1 mX6_takeText.2.2.1 mX6_takeText.2.2.2 ∈ z_tb ∧ Cond.initialized mX6_takeText.1.cls ∈ z_tb ∧ mX6_takeText.1.cls ≠ "java/lang/invoke/MethodHandle" ∧ mX6_takeText.1.cls ≠ "java/lang/invoke/VarHandle" ∧ plainName mX6_takeText.1.cls = true := ⟨z_at_rf (i := 647) rfl rfl, z_at_in (i := 70) (by decide +kernel), by decide +kernel, by decide +kernel, by decide +kernel⟩
theorem zm_X6_80 : z_mOK RX6 80 0 1 mX6_takeText := ⟨zc_X6_takeText.1, zc_X6_takeText.2.1, ⟨zc_X6_takeText.2.2.1, zc_X6_takeText.2.2.2.1, by decide +kernel⟩, by decide, zc_X6_takeText.2.2.2.2, z_at_in (i := 644) (by decide +kernel), z_at_in (i := 646) (by decide +kernel), z_at_in (i := 13) (by decide +kernel)⟩
set_option maxRecDepth 20000 in
theorem zc_X6_takeSign : Cond.code mX6_takeSign.1 mX6_takeSign.2.1 mX6_takeSign.2.2.1 mX6_takeSign.2.2.2 ∈ z_tb ∧ Cond.initialized mX6_takeSign.1.cls ∈ z_tb ∧ mX6_takeSign.1.cls ≠ "java/lang/invoke/MethodHandle" ∧ mX6_takeSign.1.cls ≠ "java/lang/invoke/VarHandle" ∧ plainName mX6_takeSign.1.cls = true := ⟨z_at_rf (i := 651) rfl rfl, z_at_in (i := 70) (by decide +kernel), by decide +kernel, by decide +kernel, by decide +kernel⟩
theorem zm_X6_83 : z_mOK RX6 83 0 2 mX6_takeSign := ⟨zc_X6_takeSign.1, zc_X6_takeSign.2.1, ⟨zc_X6_takeSign.2.2.1, zc_X6_takeSign.2.2.2.1, by decide +kernel⟩, by decide, zc_X6_takeSign.2.2.2.2, z_at_in (i := 648) (by decide +kernel), z_at_in (i := 650) (by decide +kernel), z_at_in (i := 14) (by decide +kernel)⟩
theorem zm_X6_28 : z_mOK RX6 28 0 0 mX1_size := ⟨zc_X1_size.1, zc_X1_size.2.1, ⟨zc_X1_size.2.2.1, zc_X1_size.2.2.2.1, by decide +kernel⟩, by decide, zc_X1_size.2.2.2.2, z_at_in (i := 652) (by decide +kernel), z_at_in (i := 483) (by decide +kernel), z_at_in (i := 484) (by decide +kernel)⟩
theorem zm_X6_56 : z_mOK RX6 56 0 1 mX1_add := ⟨zc_X1_add.1, zc_X1_add.2.1, ⟨zc_X1_add.2.2.1, zc_X1_add.2.2.2.1, by decide +kernel⟩, by decide, zc_X1_add.2.2.2.2, z_at_in (i := 653) (by decide +kernel), z_at_in (i := 368) (by decide +kernel), z_at_in (i := 369) (by decide +kernel)⟩
set_option maxRecDepth 20000 in
theorem zc_X6_kind : Cond.code mX6_kind.1 mX6_kind.2.1 mX6_kind.2.2.1 mX6_kind.2.2.2 ∈ z_tb ∧ Cond.initialized mX6_kind.1.cls ∈ z_tb ∧ mX6_kind.1.cls ≠ "java/lang/invoke/MethodHandle" ∧ mX6_kind.1.cls ≠ "java/lang/invoke/VarHandle" ∧ plainName mX6_kind.1.cls = true := ⟨z_at_rf (i := 657) rfl rfl, z_at_in (i := 70) (by decide +kernel), by decide +kernel, by decide +kernel, by decide +kernel⟩
theorem zm_X7_139 : z_mOK RX7 139 0 1 mX6_kind := ⟨zc_X6_kind.1, zc_X6_kind.2.1, ⟨zc_X6_kind.2.2.1, zc_X6_kind.2.2.2.1, by decide +kernel⟩, by decide, zc_X6_kind.2.2.2.2, z_at_in (i := 654) (by decide +kernel), z_at_in (i := 655) (by decide +kernel), z_at_in (i := 656) (by decide +kernel)⟩
theorem zm_X6_32 : z_mOK RX6 32 0 1 mX1_at := ⟨zc_X1_at.1, zc_X1_at.2.1, ⟨zc_X1_at.2.2.1, zc_X1_at.2.2.2.1, by decide +kernel⟩, by decide, zc_X1_at.2.2.2.2, z_at_in (i := 658) (by decide +kernel), z_at_in (i := 545) (by decide +kernel), z_at_in (i := 546) (by decide +kernel)⟩
set_option maxRecDepth 20000 in
theorem zc_X6_start : Cond.code mX6_start.1 mX6_start.2.1 mX6_start.2.2.1 mX6_start.2.2.2 ∈ z_tb ∧ Cond.initialized mX6_start.1.cls ∈ z_tb ∧ mX6_start.1.cls ≠ "java/lang/invoke/MethodHandle" ∧ mX6_start.1.cls ≠ "java/lang/invoke/VarHandle" ∧ plainName mX6_start.1.cls = true := ⟨z_at_rf (i := 662) rfl rfl, z_at_in (i := 70) (by decide +kernel), by decide +kernel, by decide +kernel, by decide +kernel⟩
theorem zm_X7_142 : z_mOK RX7 142 0 1 mX6_start := ⟨zc_X6_start.1, zc_X6_start.2.1, ⟨zc_X6_start.2.2.1, zc_X6_start.2.2.2.1, by decide +kernel⟩, by decide, zc_X6_start.2.2.2.2, z_at_in (i := 659) (by decide +kernel), z_at_in (i := 660) (by decide +kernel), z_at_in (i := 661) (by decide +kernel)⟩
set_option maxRecDepth 20000 in
theorem zc_X6_end : Cond.code mX6_end.1 mX6_end.2.1 mX6_end.2.2.1 mX6_end.2.2.2 ∈ z_tb ∧ Cond.initialized mX6_end.1.cls ∈ z_tb ∧ mX6_end.1.cls ≠ "java/lang/invoke/MethodHandle" ∧ mX6_end.1.cls ≠ "java/lang/invoke/VarHandle" ∧ plainName mX6_end.1.cls = true := ⟨z_at_rf (i := 666) rfl rfl, z_at_in (i := 70) (by decide +kernel), by decide +kernel, by decide +kernel, by decide +kernel⟩
theorem zm_X7_145 : z_mOK RX7 145 0 1 mX6_end := ⟨zc_X6_end.1, zc_X6_end.2.1, ⟨zc_X6_end.2.2.1, zc_X6_end.2.2.2.1, by decide +kernel⟩, by decide, zc_X6_end.2.2.2.2, z_at_in (i := 663) (by decide +kernel), z_at_in (i := 664) (by decide +kernel), z_at_in (i := 665) (by decide +kernel)⟩
theorem zm_X7_148 : z_mOK RX7 148 2 3 mX7_wordIn := ⟨zc_X7_wordIn.1, zc_X7_wordIn.2.1, ⟨zc_X7_wordIn.2.2.1, zc_X7_wordIn.2.2.2.1, by decide +kernel⟩, by decide, zc_X7_wordIn.2.2.2.2, z_at_in (i := 667) (by decide +kernel), z_at_in (i := 398) (by decide +kernel)⟩
set_option maxRecDepth 20000 in
theorem zc_X7_obey : Cond.code mX7_obey.1 mX7_obey.2.1 mX7_obey.2.2.1 mX7_obey.2.2.2 ∈ z_tb ∧ Cond.initialized mX7_obey.1.cls ∈ z_tb ∧ mX7_obey.1.cls ≠ "java/lang/invoke/MethodHandle" ∧ mX7_obey.1.cls ≠ "java/lang/invoke/VarHandle" ∧ plainName mX7_obey.1.cls = true := ⟨z_at_rf (i := 671) rfl rfl, z_at_in (i := 65) (by decide +kernel), by decide +kernel, by decide +kernel, by decide +kernel⟩
theorem zm_X7_152 : z_mOK RX7 152 0 1 mX7_obey := ⟨zc_X7_obey.1, zc_X7_obey.2.1, ⟨zc_X7_obey.2.2.1, zc_X7_obey.2.2.2.1, by decide +kernel⟩, by decide, zc_X7_obey.2.2.2.2, z_at_in (i := 668) (by decide +kernel), z_at_in (i := 670) (by decide +kernel), z_at_in (i := 15) (by decide +kernel)⟩
set_option maxRecDepth 20000 in
theorem zc_X7_readIf : Cond.code mX7_readIf.1 mX7_readIf.2.1 mX7_readIf.2.2.1 mX7_readIf.2.2.2 ∈ z_tb ∧ Cond.initialized mX7_readIf.1.cls ∈ z_tb ∧ mX7_readIf.1.cls ≠ "java/lang/invoke/MethodHandle" ∧ mX7_readIf.1.cls ≠ "java/lang/invoke/VarHandle" ∧ plainName mX7_readIf.1.cls = true := ⟨z_at_rf (i := 675) rfl rfl, z_at_in (i := 65) (by decide +kernel), by decide +kernel, by decide +kernel, by decide +kernel⟩
theorem zm_X7_180 : z_mOK RX7 180 0 0 mX7_readIf := ⟨zc_X7_readIf.1, zc_X7_readIf.2.1, ⟨zc_X7_readIf.2.2.1, zc_X7_readIf.2.2.2.1, by decide +kernel⟩, by decide, zc_X7_readIf.2.2.2.2, z_at_in (i := 672) (by decide +kernel), z_at_in (i := 674) (by decide +kernel), z_at_in (i := 16) (by decide +kernel)⟩
set_option maxRecDepth 20000 in
theorem zc_X3_isFull : Cond.code mX3_isFull.1 mX3_isFull.2.1 mX3_isFull.2.2.1 mX3_isFull.2.2.2 ∈ z_tb ∧ Cond.initialized mX3_isFull.1.cls ∈ z_tb ∧ mX3_isFull.1.cls ≠ "java/lang/invoke/MethodHandle" ∧ mX3_isFull.1.cls ≠ "java/lang/invoke/VarHandle" ∧ plainName mX3_isFull.1.cls = true := ⟨z_at_rf (i := 679) rfl rfl, z_at_in (i := 71) (by decide +kernel), by decide +kernel, by decide +kernel, by decide +kernel⟩
theorem zm_X7_195 : z_mOK RX7 195 0 0 mX3_isFull := ⟨zc_X3_isFull.1, zc_X3_isFull.2.1, ⟨zc_X3_isFull.2.2.1, zc_X3_isFull.2.2.2.1, by decide +kernel⟩, by decide, zc_X3_isFull.2.2.2.2, z_at_in (i := 676) (by decide +kernel), z_at_in (i := 677) (by decide +kernel), z_at_in (i := 678) (by decide +kernel)⟩
set_option maxRecDepth 20000 in
theorem zc_X5_find : Cond.code mX5_find.1 mX5_find.2.1 mX5_find.2.2.1 mX5_find.2.2.2 ∈ z_tb ∧ Cond.initialized mX5_find.1.cls ∈ z_tb ∧ mX5_find.1.cls ≠ "java/lang/invoke/MethodHandle" ∧ mX5_find.1.cls ≠ "java/lang/invoke/VarHandle" ∧ plainName mX5_find.1.cls = true := ⟨z_at_rf (i := 683) rfl rfl, z_at_in (i := 66) (by decide +kernel), by decide +kernel, by decide +kernel, by decide +kernel⟩
theorem zm_X7_198 : z_mOK RX7 198 0 4 mX5_find := ⟨zc_X5_find.1, zc_X5_find.2.1, ⟨zc_X5_find.2.2.1, zc_X5_find.2.2.2.1, by decide +kernel⟩, by decide, zc_X5_find.2.2.2.2, z_at_in (i := 680) (by decide +kernel), z_at_in (i := 681) (by decide +kernel), z_at_in (i := 682) (by decide +kernel)⟩
set_option maxRecDepth 20000 in
theorem zc_X7_endWord : Cond.code mX7_endWord.1 mX7_endWord.2.1 mX7_endWord.2.2.1 mX7_endWord.2.2.2 ∈ z_tb ∧ Cond.initialized mX7_endWord.1.cls ∈ z_tb ∧ mX7_endWord.1.cls ≠ "java/lang/invoke/MethodHandle" ∧ mX7_endWord.1.cls ≠ "java/lang/invoke/VarHandle" ∧ plainName mX7_endWord.1.cls = true := ⟨z_at_rf (i := 686) rfl rfl, z_at_in (i := 65) (by decide +kernel), by decide +kernel, by decide +kernel, by decide +kernel⟩
theorem zm_X5_64 : z_mOK RX5 64 3 1 mX7_endWord := ⟨zc_X7_endWord.1, zc_X7_endWord.2.1, ⟨zc_X7_endWord.2.2.1, zc_X7_endWord.2.2.2.1, by decide +kernel⟩, by decide, zc_X7_endWord.2.2.2.2, z_atN_in (i := 620) (by decide +kernel), z_at_in (i := 685) (by decide +kernel)⟩
set_option maxRecDepth 20000 in
theorem zc_X7_isEndMissing : Cond.code mX7_isEndMissing.1 mX7_isEndMissing.2.1 mX7_isEndMissing.2.2.1 mX7_isEndMissing.2.2.2 ∈ z_tb ∧ Cond.initialized mX7_isEndMissing.1.cls ∈ z_tb ∧ mX7_isEndMissing.1.cls ≠ "java/lang/invoke/MethodHandle" ∧ mX7_isEndMissing.1.cls ≠ "java/lang/invoke/VarHandle" ∧ plainName mX7_isEndMissing.1.cls = true := ⟨z_at_rf (i := 690) rfl rfl, z_at_in (i := 65) (by decide +kernel), by decide +kernel, by decide +kernel, by decide +kernel⟩
theorem zm_X7_202 : z_mOK RX7 202 0 1 mX7_isEndMissing := ⟨zc_X7_isEndMissing.1, zc_X7_isEndMissing.2.1, ⟨zc_X7_isEndMissing.2.2.1, zc_X7_isEndMissing.2.2.2.1, by decide +kernel⟩, by decide, zc_X7_isEndMissing.2.2.2.2, z_at_in (i := 687) (by decide +kernel), z_at_in (i := 689) (by decide +kernel), z_at_in (i := 17) (by decide +kernel)⟩
set_option maxRecDepth 20000 in
theorem zc_X7_isNumberAlone : Cond.code mX7_isNumberAlone.1 mX7_isNumberAlone.2.1 mX7_isNumberAlone.2.2.1 mX7_isNumberAlone.2.2.2 ∈ z_tb ∧ Cond.initialized mX7_isNumberAlone.1.cls ∈ z_tb ∧ mX7_isNumberAlone.1.cls ≠ "java/lang/invoke/MethodHandle" ∧ mX7_isNumberAlone.1.cls ≠ "java/lang/invoke/VarHandle" ∧ plainName mX7_isNumberAlone.1.cls = true := ⟨z_at_rf (i := 694) rfl rfl, z_at_in (i := 65) (by decide +kernel), by decide +kernel, by decide +kernel, by decide +kernel⟩
theorem zm_X7_205 : z_mOK RX7 205 0 0 mX7_isNumberAlone := ⟨zc_X7_isNumberAlone.1, zc_X7_isNumberAlone.2.1, ⟨zc_X7_isNumberAlone.2.2.1, zc_X7_isNumberAlone.2.2.2.1, by decide +kernel⟩, by decide, zc_X7_isNumberAlone.2.2.2.2, z_at_in (i := 691) (by decide +kernel), z_at_in (i := 693) (by decide +kernel), z_at_in (i := 18) (by decide +kernel)⟩
set_option maxRecDepth 20000 in
theorem zc_X6_count : Cond.code mX6_count.1 mX6_count.2.1 mX6_count.2.2.1 mX6_count.2.2.2 ∈ z_tb ∧ Cond.initialized mX6_count.1.cls ∈ z_tb ∧ mX6_count.1.cls ≠ "java/lang/invoke/MethodHandle" ∧ mX6_count.1.cls ≠ "java/lang/invoke/VarHandle" ∧ plainName mX6_count.1.cls = true := ⟨z_at_rf (i := 698) rfl rfl, z_at_in (i := 70) (by decide +kernel), by decide +kernel, by decide +kernel, by decide +kernel⟩
theorem zm_X7_225 : z_mOK RX7 225 0 0 mX6_count := ⟨zc_X6_count.1, zc_X6_count.2.1, ⟨zc_X6_count.2.2.1, zc_X6_count.2.2.2.1, by decide +kernel⟩, by decide, zc_X6_count.2.2.2.2, z_at_in (i := 695) (by decide +kernel), z_at_in (i := 696) (by decide +kernel), z_at_in (i := 697) (by decide +kernel)⟩
set_option maxRecDepth 20000 in
theorem zc_X6_second : Cond.code mX6_second.1 mX6_second.2.1 mX6_second.2.2.1 mX6_second.2.2.2 ∈ z_tb ∧ Cond.initialized mX6_second.1.cls ∈ z_tb ∧ mX6_second.1.cls ≠ "java/lang/invoke/MethodHandle" ∧ mX6_second.1.cls ≠ "java/lang/invoke/VarHandle" ∧ plainName mX6_second.1.cls = true := ⟨z_at_rf (i := 702) rfl rfl, z_at_in (i := 70) (by decide +kernel), by decide +kernel, by decide +kernel, by decide +kernel⟩
theorem zm_X7_208 : z_mOK RX7 208 0 0 mX6_second := ⟨zc_X6_second.1, zc_X6_second.2.1, ⟨zc_X6_second.2.2.1, zc_X6_second.2.2.2.1, by decide +kernel⟩, by decide, zc_X6_second.2.2.2.2, z_at_in (i := 699) (by decide +kernel), z_at_in (i := 700) (by decide +kernel), z_at_in (i := 701) (by decide +kernel)⟩
set_option maxRecDepth 20000 in
theorem zc_X3_open : Cond.code mX3_open.1 mX3_open.2.1 mX3_open.2.2.1 mX3_open.2.2.2 ∈ z_tb ∧ Cond.initialized mX3_open.1.cls ∈ z_tb ∧ mX3_open.1.cls ≠ "java/lang/invoke/MethodHandle" ∧ mX3_open.1.cls ≠ "java/lang/invoke/VarHandle" ∧ plainName mX3_open.1.cls = true := ⟨z_at_rf (i := 706) rfl rfl, z_at_in (i := 71) (by decide +kernel), by decide +kernel, by decide +kernel, by decide +kernel⟩
theorem zm_X7_212 : z_mOK RX7 212 0 1 mX3_open := ⟨zc_X3_open.1, zc_X3_open.2.1, ⟨zc_X3_open.2.2.1, zc_X3_open.2.2.2.1, by decide +kernel⟩, by decide, zc_X3_open.2.2.2.2, z_at_in (i := 703) (by decide +kernel), z_at_in (i := 704) (by decide +kernel), z_at_in (i := 705) (by decide +kernel)⟩
set_option maxRecDepth 20000 in
theorem zc_X7_tellUnended : Cond.code mX7_tellUnended.1 mX7_tellUnended.2.1 mX7_tellUnended.2.2.1 mX7_tellUnended.2.2.2 ∈ z_tb ∧ Cond.initialized mX7_tellUnended.1.cls ∈ z_tb ∧ mX7_tellUnended.1.cls ≠ "java/lang/invoke/MethodHandle" ∧ mX7_tellUnended.1.cls ≠ "java/lang/invoke/VarHandle" ∧ plainName mX7_tellUnended.1.cls = true := ⟨z_at_rf (i := 710) rfl rfl, z_at_in (i := 65) (by decide +kernel), by decide +kernel, by decide +kernel, by decide +kernel⟩
theorem zm_X7_216 : z_mOK RX7 216 0 0 mX7_tellUnended := ⟨zc_X7_tellUnended.1, zc_X7_tellUnended.2.1, ⟨zc_X7_tellUnended.2.2.1, zc_X7_tellUnended.2.2.2.1, by decide +kernel⟩, by decide, zc_X7_tellUnended.2.2.2.2, z_at_in (i := 707) (by decide +kernel), z_at_in (i := 709) (by decide +kernel), z_at_in (i := 19) (by decide +kernel)⟩
set_option maxRecDepth 20000 in
theorem zc_X5_word : Cond.code mX5_word.1 mX5_word.2.1 mX5_word.2.2.1 mX5_word.2.2.2 ∈ z_tb ∧ Cond.initialized mX5_word.1.cls ∈ z_tb ∧ mX5_word.1.cls ≠ "java/lang/invoke/MethodHandle" ∧ mX5_word.1.cls ≠ "java/lang/invoke/VarHandle" ∧ plainName mX5_word.1.cls = true := ⟨z_at_rf (i := 714) rfl rfl, z_at_in (i := 66) (by decide +kernel), by decide +kernel, by decide +kernel, by decide +kernel⟩
theorem zm_X7_219 : z_mOK RX7 219 0 1 mX5_word := ⟨zc_X5_word.1, zc_X5_word.2.1, ⟨zc_X5_word.2.2.1, zc_X5_word.2.2.2.1, by decide +kernel⟩, by decide, zc_X5_word.2.2.2.2, z_at_in (i := 711) (by decide +kernel), z_at_in (i := 712) (by decide +kernel), z_at_in (i := 713) (by decide +kernel)⟩
set_option maxRecDepth 20000 in
theorem zc_X7_readElse : Cond.code mX7_readElse.1 mX7_readElse.2.1 mX7_readElse.2.2.1 mX7_readElse.2.2.2 ∈ z_tb ∧ Cond.initialized mX7_readElse.1.cls ∈ z_tb ∧ mX7_readElse.1.cls ≠ "java/lang/invoke/MethodHandle" ∧ mX7_readElse.1.cls ≠ "java/lang/invoke/VarHandle" ∧ plainName mX7_readElse.1.cls = true := ⟨z_at_rf (i := 718) rfl rfl, z_at_in (i := 65) (by decide +kernel), by decide +kernel, by decide +kernel, by decide +kernel⟩
theorem zm_X7_183 : z_mOK RX7 183 0 0 mX7_readElse := ⟨zc_X7_readElse.1, zc_X7_readElse.2.1, ⟨zc_X7_readElse.2.2.1, zc_X7_readElse.2.2.2.1, by decide +kernel⟩, by decide, zc_X7_readElse.2.2.2.2, z_at_in (i := 715) (by decide +kernel), z_at_in (i := 717) (by decide +kernel), z_at_in (i := 20) (by decide +kernel)⟩
set_option maxRecDepth 20000 in
theorem zc_X3_topKind : Cond.code mX3_topKind.1 mX3_topKind.2.1 mX3_topKind.2.2.1 mX3_topKind.2.2.2 ∈ z_tb ∧ Cond.initialized mX3_topKind.1.cls ∈ z_tb ∧ mX3_topKind.1.cls ≠ "java/lang/invoke/MethodHandle" ∧ mX3_topKind.1.cls ≠ "java/lang/invoke/VarHandle" ∧ plainName mX3_topKind.1.cls = true := ⟨z_at_rf (i := 722) rfl rfl, z_at_in (i := 71) (by decide +kernel), by decide +kernel, by decide +kernel, by decide +kernel⟩
theorem zm_X7_222 : z_mOK RX7 222 0 0 mX3_topKind := ⟨zc_X3_topKind.1, zc_X3_topKind.2.1, ⟨zc_X3_topKind.2.2.1, zc_X3_topKind.2.2.2.1, by decide +kernel⟩, by decide, zc_X3_topKind.2.2.2.2, z_at_in (i := 719) (by decide +kernel), z_at_in (i := 720) (by decide +kernel), z_at_in (i := 721) (by decide +kernel)⟩
set_option maxRecDepth 20000 in
theorem zc_X3_top : Cond.code mX3_top.1 mX3_top.2.1 mX3_top.2.2.1 mX3_top.2.2.2 ∈ z_tb ∧ Cond.initialized mX3_top.1.cls ∈ z_tb ∧ mX3_top.1.cls ≠ "java/lang/invoke/MethodHandle" ∧ mX3_top.1.cls ≠ "java/lang/invoke/VarHandle" ∧ plainName mX3_top.1.cls = true := ⟨z_at_rf (i := 726) rfl rfl, z_at_in (i := 71) (by decide +kernel), by decide +kernel, by decide +kernel, by decide +kernel⟩
theorem zm_X3_29 : z_mOK RX3 29 0 0 mX3_top := ⟨zc_X3_top.1, zc_X3_top.2.1, ⟨zc_X3_top.2.2.1, zc_X3_top.2.2.2.1, by decide +kernel⟩, by decide, zc_X3_top.2.2.2.2, z_at_in (i := 723) (by decide +kernel), z_at_in (i := 724) (by decide +kernel), z_at_in (i := 725) (by decide +kernel)⟩
set_option maxRecDepth 20000 in
theorem zc_X3_close : Cond.code mX3_close.1 mX3_close.2.1 mX3_close.2.2.1 mX3_close.2.2.2 ∈ z_tb ∧ Cond.initialized mX3_close.1.cls ∈ z_tb ∧ mX3_close.1.cls ≠ "java/lang/invoke/MethodHandle" ∧ mX3_close.1.cls ≠ "java/lang/invoke/VarHandle" ∧ plainName mX3_close.1.cls = true := ⟨z_at_rf (i := 730) rfl rfl, z_at_in (i := 71) (by decide +kernel), by decide +kernel, by decide +kernel, by decide +kernel⟩
theorem zm_X7_226 : z_mOK RX7 226 0 0 mX3_close := ⟨zc_X3_close.1, zc_X3_close.2.1, ⟨zc_X3_close.2.2.1, zc_X3_close.2.2.2.1, by decide +kernel⟩, by decide, zc_X3_close.2.2.2.2, z_at_in (i := 727) (by decide +kernel), z_at_in (i := 728) (by decide +kernel), z_at_in (i := 729) (by decide +kernel)⟩
set_option maxRecDepth 20000 in
theorem zc_X7_readEndif : Cond.code mX7_readEndif.1 mX7_readEndif.2.1 mX7_readEndif.2.2.1 mX7_readEndif.2.2.2 ∈ z_tb ∧ Cond.initialized mX7_readEndif.1.cls ∈ z_tb ∧ mX7_readEndif.1.cls ≠ "java/lang/invoke/MethodHandle" ∧ mX7_readEndif.1.cls ≠ "java/lang/invoke/VarHandle" ∧ plainName mX7_readEndif.1.cls = true := ⟨z_at_rf (i := 734) rfl rfl, z_at_in (i := 65) (by decide +kernel), by decide +kernel, by decide +kernel, by decide +kernel⟩
theorem zm_X7_186 : z_mOK RX7 186 0 0 mX7_readEndif := ⟨zc_X7_readEndif.1, zc_X7_readEndif.2.1, ⟨zc_X7_readEndif.2.2.1, zc_X7_readEndif.2.2.2.1, by decide +kernel⟩, by decide, zc_X7_readEndif.2.2.2.2, z_at_in (i := 731) (by decide +kernel), z_at_in (i := 733) (by decide +kernel), z_at_in (i := 21) (by decide +kernel)⟩
set_option maxRecDepth 20000 in
theorem zc_X7_readRept : Cond.code mX7_readRept.1 mX7_readRept.2.1 mX7_readRept.2.2.1 mX7_readRept.2.2.2 ∈ z_tb ∧ Cond.initialized mX7_readRept.1.cls ∈ z_tb ∧ mX7_readRept.1.cls ≠ "java/lang/invoke/MethodHandle" ∧ mX7_readRept.1.cls ≠ "java/lang/invoke/VarHandle" ∧ plainName mX7_readRept.1.cls = true := ⟨z_at_rf (i := 738) rfl rfl, z_at_in (i := 65) (by decide +kernel), by decide +kernel, by decide +kernel, by decide +kernel⟩
theorem zm_X7_189 : z_mOK RX7 189 0 0 mX7_readRept := ⟨zc_X7_readRept.1, zc_X7_readRept.2.1, ⟨zc_X7_readRept.2.2.1, zc_X7_readRept.2.2.2.1, by decide +kernel⟩, by decide, zc_X7_readRept.2.2.2.2, z_at_in (i := 735) (by decide +kernel), z_at_in (i := 737) (by decide +kernel), z_at_in (i := 22) (by decide +kernel)⟩
set_option maxRecDepth 20000 in
theorem zc_X4_lay : Cond.code mX4_lay.1 mX4_lay.2.1 mX4_lay.2.2.1 mX4_lay.2.2.2 ∈ z_tb ∧ Cond.initialized mX4_lay.1.cls ∈ z_tb ∧ mX4_lay.1.cls ≠ "java/lang/invoke/MethodHandle" ∧ mX4_lay.1.cls ≠ "java/lang/invoke/VarHandle" ∧ plainName mX4_lay.1.cls = true := ⟨z_at_rf (i := 743) rfl rfl, z_at_in (i := 72) (by decide +kernel), by decide +kernel, by decide +kernel, by decide +kernel⟩
theorem zm_X7_234 : z_mOK RX7 234 0 4 mX4_lay := ⟨zc_X4_lay.1, zc_X4_lay.2.1, ⟨zc_X4_lay.2.2.1, zc_X4_lay.2.2.2.1, by decide +kernel⟩, by decide, zc_X4_lay.2.2.2.2, z_at_in (i := 740) (by decide +kernel), z_at_in (i := 741) (by decide +kernel), z_at_in (i := 742) (by decide +kernel)⟩
set_option maxRecDepth 20000 in
theorem zc_X7_readMacro : Cond.code mX7_readMacro.1 mX7_readMacro.2.1 mX7_readMacro.2.2.1 mX7_readMacro.2.2.2 ∈ z_tb ∧ Cond.initialized mX7_readMacro.1.cls ∈ z_tb ∧ mX7_readMacro.1.cls ≠ "java/lang/invoke/MethodHandle" ∧ mX7_readMacro.1.cls ≠ "java/lang/invoke/VarHandle" ∧ plainName mX7_readMacro.1.cls = true := ⟨z_at_rf (i := 747) rfl rfl, z_at_in (i := 65) (by decide +kernel), by decide +kernel, by decide +kernel, by decide +kernel⟩
theorem zm_X7_192 : z_mOK RX7 192 0 0 mX7_readMacro := ⟨zc_X7_readMacro.1, zc_X7_readMacro.2.1, ⟨zc_X7_readMacro.2.2.1, zc_X7_readMacro.2.2.2.1, by decide +kernel⟩, by decide, zc_X7_readMacro.2.2.2.2, z_at_in (i := 744) (by decide +kernel), z_at_in (i := 746) (by decide +kernel), z_at_in (i := 23) (by decide +kernel)⟩
set_option maxRecDepth 20000 in
theorem zc_X7_isTaken : Cond.code mX7_isTaken.1 mX7_isTaken.2.1 mX7_isTaken.2.2.1 mX7_isTaken.2.2.2 ∈ z_tb ∧ Cond.initialized mX7_isTaken.1.cls ∈ z_tb ∧ mX7_isTaken.1.cls ≠ "java/lang/invoke/MethodHandle" ∧ mX7_isTaken.1.cls ≠ "java/lang/invoke/VarHandle" ∧ plainName mX7_isTaken.1.cls = true := ⟨z_at_rf (i := 751) rfl rfl, z_at_in (i := 65) (by decide +kernel), by decide +kernel, by decide +kernel, by decide +kernel⟩
theorem zm_X7_238 : z_mOK RX7 238 0 1 mX7_isTaken := ⟨zc_X7_isTaken.1, zc_X7_isTaken.2.1, ⟨zc_X7_isTaken.2.2.1, zc_X7_isTaken.2.2.2.1, by decide +kernel⟩, by decide, zc_X7_isTaken.2.2.2.2, z_at_in (i := 748) (by decide +kernel), z_at_in (i := 750) (by decide +kernel), z_at_in (i := 24) (by decide +kernel)⟩
set_option maxRecDepth 20000 in
theorem zc_X7_macroNamed : Cond.code mX7_macroNamed.1 mX7_macroNamed.2.1 mX7_macroNamed.2.2.1 mX7_macroNamed.2.2.2 ∈ z_tb ∧ Cond.initialized mX7_macroNamed.1.cls ∈ z_tb ∧ mX7_macroNamed.1.cls ≠ "java/lang/invoke/MethodHandle" ∧ mX7_macroNamed.1.cls ≠ "java/lang/invoke/VarHandle" ∧ plainName mX7_macroNamed.1.cls = true := ⟨z_at_rf (i := 755) rfl rfl, z_at_in (i := 65) (by decide +kernel), by decide +kernel, by decide +kernel, by decide +kernel⟩
theorem zm_X7_155 : z_mOK RX7 155 0 1 mX7_macroNamed := ⟨zc_X7_macroNamed.1, zc_X7_macroNamed.2.1, ⟨zc_X7_macroNamed.2.2.1, zc_X7_macroNamed.2.2.2.1, by decide +kernel⟩, by decide, zc_X7_macroNamed.2.2.2.2, z_at_in (i := 752) (by decide +kernel), z_at_in (i := 754) (by decide +kernel), z_at_in (i := 25) (by decide +kernel)⟩
theorem zm_X7_290 : z_mOK RX7 290 0 4 mX0_isSame := ⟨zc_X0_isSame.1, zc_X0_isSame.2.1, ⟨zc_X0_isSame.2.2.1, zc_X0_isSame.2.2.2.1, by decide +kernel⟩, by decide, zc_X0_isSame.2.2.2.2, z_at_in (i := 773) (by decide +kernel), z_at_in (i := 587) (by decide +kernel), z_at_in (i := 588) (by decide +kernel)⟩
set_option maxRecDepth 20000 in
theorem zc_X7_isHeading : Cond.code mX7_isHeading.1 mX7_isHeading.2.1 mX7_isHeading.2.2.1 mX7_isHeading.2.2.2 ∈ z_tb ∧ Cond.initialized mX7_isHeading.1.cls ∈ z_tb ∧ mX7_isHeading.1.cls ≠ "java/lang/invoke/MethodHandle" ∧ mX7_isHeading.1.cls ≠ "java/lang/invoke/VarHandle" ∧ plainName mX7_isHeading.1.cls = true := ⟨z_at_rf (i := 777) rfl rfl, z_at_in (i := 65) (by decide +kernel), by decide +kernel, by decide +kernel, by decide +kernel⟩
theorem zm_X7_241 : z_mOK RX7 241 0 0 mX7_isHeading := ⟨zc_X7_isHeading.1, zc_X7_isHeading.2.1, ⟨zc_X7_isHeading.2.2.1, zc_X7_isHeading.2.2.2.1, by decide +kernel⟩, by decide, zc_X7_isHeading.2.2.2.2, z_at_in (i := 774) (by decide +kernel), z_at_in (i := 776) (by decide +kernel), z_at_in (i := 26) (by decide +kernel)⟩
set_option maxRecDepth 20000 in
theorem zc_X2_init : Cond.code mX2_init.1 mX2_init.2.1 mX2_init.2.2.1 mX2_init.2.2.2 ∈ z_tb ∧ Cond.initialized mX2_init.1.cls ∈ z_tb ∧ mX2_init.1.cls ≠ "java/lang/invoke/MethodHandle" ∧ mX2_init.1.cls ≠ "java/lang/invoke/VarHandle" ∧ plainName mX2_init.1.cls = true := ⟨z_at_rf (i := 781) rfl rfl, z_at_in (i := 84) (by decide +kernel), by decide +kernel, by decide +kernel, by decide +kernel⟩
theorem zm_X7_246 : z_mOK RX7 246 4 4 mX2_init := ⟨zc_X2_init.1, zc_X2_init.2.1, ⟨zc_X2_init.2.2.1, zc_X2_init.2.2.2.1, by decide +kernel⟩, by decide, zc_X2_init.2.2.2.2, z_at_in (i := 779) (by decide +kernel), z_at_in (i := 780) (by decide +kernel), rfl, rfl⟩
theorem zm_X2_9 : z_mOK RX2 9 5 0 mX1_init := ⟨zc_X1_init.1, zc_X1_init.2.1, ⟨zc_X1_init.2.2.1, zc_X1_init.2.2.2.1, by decide +kernel⟩, by decide, zc_X1_init.2.2.2.2, z_atN_in (i := 720) (by decide +kernel), z_at_in (i := 108) (by decide +kernel), rfl, rfl⟩
theorem zm_X2_19 : z_mOK RX2 19 0 1 mX6_start := ⟨zc_X6_start.1, zc_X6_start.2.1, ⟨zc_X6_start.2.2.1, zc_X6_start.2.2.2.1, by decide +kernel⟩, by decide, zc_X6_start.2.2.2.2, z_at_in (i := 785) (by decide +kernel), z_at_in (i := 660) (by decide +kernel), z_at_in (i := 661) (by decide +kernel)⟩
theorem zm_X2_29 : z_mOK RX2 29 0 1 mX6_end := ⟨zc_X6_end.1, zc_X6_end.2.1, ⟨zc_X6_end.2.2.1, zc_X6_end.2.2.2.1, by decide +kernel⟩, by decide, zc_X6_end.2.2.2.2, z_at_in (i := 786) (by decide +kernel), z_at_in (i := 664) (by decide +kernel), z_at_in (i := 665) (by decide +kernel)⟩
theorem zm_X2_41 : z_mOK RX2 41 0 0 mX6_count := ⟨zc_X6_count.1, zc_X6_count.2.1, ⟨zc_X6_count.2.2.1, zc_X6_count.2.2.2.1, by decide +kernel⟩, by decide, zc_X6_count.2.2.2.2, z_at_in (i := 787) (by decide +kernel), z_at_in (i := 696) (by decide +kernel), z_at_in (i := 697) (by decide +kernel)⟩
theorem zm_X2_45 : z_mOK RX2 45 0 1 mX1_add := ⟨zc_X1_add.1, zc_X1_add.2.1, ⟨zc_X1_add.2.2.1, zc_X1_add.2.2.2.1, by decide +kernel⟩, by decide, zc_X1_add.2.2.2.2, z_at_in (i := 788) (by decide +kernel), z_at_in (i := 368) (by decide +kernel), z_at_in (i := 369) (by decide +kernel)⟩
set_option maxRecDepth 20000 in
theorem zc_X7_readMacroLines : Cond.code mX7_readMacroLines.1 mX7_readMacroLines.2.1 mX7_readMacroLines.2.2.1 mX7_readMacroLines.2.2.2 ∈ z_tb ∧ Cond.initialized mX7_readMacroLines.1.cls ∈ z_tb ∧ mX7_readMacroLines.1.cls ≠ "java/lang/invoke/MethodHandle" ∧ mX7_readMacroLines.1.cls ≠ "java/lang/invoke/VarHandle" ∧ plainName mX7_readMacroLines.1.cls = true := ⟨z_at_rf (i := 865) rfl rfl, z_at_in (i := 65) (by decide +kernel), by decide +kernel, by decide +kernel, by decide +kernel⟩
theorem zm_X7_159 : z_mOK RX7 159 0 1 mX7_readMacroLines := ⟨zc_X7_readMacroLines.1, zc_X7_readMacroLines.2.1, ⟨zc_X7_readMacroLines.2.2.1, zc_X7_readMacroLines.2.2.2.1, by decide +kernel⟩, by decide, zc_X7_readMacroLines.2.2.2.2, z_at_in (i := 862) (by decide +kernel), z_at_in (i := 864) (by decide +kernel), z_at_in (i := 30) (by decide +kernel)⟩
set_option maxRecDepth 20000 in
theorem zc_X3_spare : Cond.code mX3_spare.1 mX3_spare.2.1 mX3_spare.2.2.1 mX3_spare.2.2.2 ∈ z_tb ∧ Cond.initialized mX3_spare.1.cls ∈ z_tb ∧ mX3_spare.1.cls ≠ "java/lang/invoke/MethodHandle" ∧ mX3_spare.1.cls ≠ "java/lang/invoke/VarHandle" ∧ plainName mX3_spare.1.cls = true := ⟨z_at_rf (i := 869) rfl rfl, z_at_in (i := 71) (by decide +kernel), by decide +kernel, by decide +kernel, by decide +kernel⟩
theorem zm_X7_253 : z_mOK RX7 253 0 0 mX3_spare := ⟨zc_X3_spare.1, zc_X3_spare.2.1, ⟨zc_X3_spare.2.2.1, zc_X3_spare.2.2.2.1, by decide +kernel⟩, by decide, zc_X3_spare.2.2.2.2, z_at_in (i := 866) (by decide +kernel), z_at_in (i := 867) (by decide +kernel), z_at_in (i := 868) (by decide +kernel)⟩
set_option maxRecDepth 20000 in
theorem zc_X4_gather : Cond.code mX4_gather.1 mX4_gather.2.1 mX4_gather.2.2.1 mX4_gather.2.2.2 ∈ z_tb ∧ Cond.initialized mX4_gather.1.cls ∈ z_tb ∧ mX4_gather.1.cls ≠ "java/lang/invoke/MethodHandle" ∧ mX4_gather.1.cls ≠ "java/lang/invoke/VarHandle" ∧ plainName mX4_gather.1.cls = true := ⟨z_at_rf (i := 873) rfl rfl, z_at_in (i := 72) (by decide +kernel), by decide +kernel, by decide +kernel, by decide +kernel⟩
theorem zm_X7_256 : z_mOK RX7 256 0 3 mX4_gather := ⟨zc_X4_gather.1, zc_X4_gather.2.1, ⟨zc_X4_gather.2.2.1, zc_X4_gather.2.2.2.1, by decide +kernel⟩, by decide, zc_X4_gather.2.2.2.2, z_at_in (i := 870) (by decide +kernel), z_at_in (i := 871) (by decide +kernel), z_at_in (i := 872) (by decide +kernel)⟩
theorem zm_X4_50 : z_mOK RX4 50 0 0 mX0_clear := ⟨zc_X0_clear.1, zc_X0_clear.2.1, ⟨zc_X0_clear.2.2.1, zc_X0_clear.2.2.2.1, by decide +kernel⟩, by decide, zc_X0_clear.2.2.2.2, z_at_in (i := 874) (by decide +kernel), z_at_in (i := 467) (by decide +kernel), z_at_in (i := 468) (by decide +kernel)⟩
theorem zm_X4_53 : z_mOK RX4 53 0 0 mX0_size := ⟨zc_X0_size.1, zc_X0_size.2.1, ⟨zc_X0_size.2.2.1, zc_X0_size.2.2.2.1, by decide +kernel⟩, by decide, zc_X0_size.2.2.2.2, z_at_in (i := 875) (by decide +kernel), z_at_in (i := 322) (by decide +kernel), z_at_in (i := 323) (by decide +kernel)⟩
theorem zm_X4_61 : z_mOK RX4 61 0 0 mX1_clear := ⟨zc_X1_clear.1, zc_X1_clear.2.1, ⟨zc_X1_clear.2.2.1, zc_X1_clear.2.2.2.1, by decide +kernel⟩, by decide, zc_X1_clear.2.2.2.2, z_at_in (i := 876) (by decide +kernel), z_at_in (i := 355) (by decide +kernel), z_at_in (i := 356) (by decide +kernel)⟩
theorem zm_X4_62 : z_mOK RX4 62 0 0 mX6_count := ⟨zc_X6_count.1, zc_X6_count.2.1, ⟨zc_X6_count.2.2.1, zc_X6_count.2.2.2.1, by decide +kernel⟩, by decide, zc_X6_count.2.2.2.2, z_at_in (i := 877) (by decide +kernel), z_at_in (i := 696) (by decide +kernel), z_at_in (i := 697) (by decide +kernel)⟩
theorem zm_X4_67 : z_mOK RX4 67 0 1 mX6_kind := ⟨zc_X6_kind.1, zc_X6_kind.2.1, ⟨zc_X6_kind.2.2.1, zc_X6_kind.2.2.2.1, by decide +kernel⟩, by decide, zc_X6_kind.2.2.2.2, z_at_in (i := 878) (by decide +kernel), z_at_in (i := 655) (by decide +kernel), z_at_in (i := 656) (by decide +kernel)⟩
set_option maxRecDepth 20000 in
theorem zc_X4_keep : Cond.code mX4_keep.1 mX4_keep.2.1 mX4_keep.2.2.1 mX4_keep.2.2.2 ∈ z_tb ∧ Cond.initialized mX4_keep.1.cls ∈ z_tb ∧ mX4_keep.1.cls ≠ "java/lang/invoke/MethodHandle" ∧ mX4_keep.1.cls ≠ "java/lang/invoke/VarHandle" ∧ plainName mX4_keep.1.cls = true := ⟨z_at_rf (i := 882) rfl rfl, z_at_in (i := 72) (by decide +kernel), by decide +kernel, by decide +kernel, by decide +kernel⟩
theorem zm_X4_70 : z_mOK RX4 70 0 3 mX4_keep := ⟨zc_X4_keep.1, zc_X4_keep.2.1, ⟨zc_X4_keep.2.2.1, zc_X4_keep.2.2.2.1, by decide +kernel⟩, by decide, zc_X4_keep.2.2.2.2, z_at_in (i := 879) (by decide +kernel), z_at_in (i := 881) (by decide +kernel), z_at_in (i := 31) (by decide +kernel)⟩
theorem zm_X4_80 : z_mOK RX4 80 0 1 mX6_start := ⟨zc_X6_start.1, zc_X6_start.2.1, ⟨zc_X6_start.2.2.1, zc_X6_start.2.2.2.1, by decide +kernel⟩, by decide, zc_X6_start.2.2.2.2, z_at_in (i := 883) (by decide +kernel), z_at_in (i := 660) (by decide +kernel), z_at_in (i := 661) (by decide +kernel)⟩
theorem zm_X4_83 : z_mOK RX4 83 0 1 mX1_add := ⟨zc_X1_add.1, zc_X1_add.2.1, ⟨zc_X1_add.2.2.1, zc_X1_add.2.2.2.1, by decide +kernel⟩, by decide, zc_X1_add.2.2.2.2, z_at_in (i := 884) (by decide +kernel), z_at_in (i := 368) (by decide +kernel), z_at_in (i := 369) (by decide +kernel)⟩
theorem zm_X4_87 : z_mOK RX4 87 0 1 mX6_end := ⟨zc_X6_end.1, zc_X6_end.2.1, ⟨zc_X6_end.2.2.1, zc_X6_end.2.2.2.1, by decide +kernel⟩, by decide, zc_X6_end.2.2.2.2, z_at_in (i := 885) (by decide +kernel), z_at_in (i := 664) (by decide +kernel), z_at_in (i := 665) (by decide +kernel)⟩
theorem zm_X4_74 : z_mOK RX4 74 0 0 mX1_size := ⟨zc_X1_size.1, zc_X1_size.2.1, ⟨zc_X1_size.2.2.1, zc_X1_size.2.2.2.1, by decide +kernel⟩, by decide, zc_X1_size.2.2.2.2, z_at_in (i := 886) (by decide +kernel), z_at_in (i := 483) (by decide +kernel), z_at_in (i := 484) (by decide +kernel)⟩
set_option maxRecDepth 20000 in
theorem zc_X2_places : Cond.code mX2_places.1 mX2_places.2.1 mX2_places.2.2.1 mX2_places.2.2.2 ∈ z_tb ∧ Cond.initialized mX2_places.1.cls ∈ z_tb ∧ mX2_places.1.cls ≠ "java/lang/invoke/MethodHandle" ∧ mX2_places.1.cls ≠ "java/lang/invoke/VarHandle" ∧ plainName mX2_places.1.cls = true := ⟨z_at_rf (i := 890) rfl rfl, z_at_in (i := 84) (by decide +kernel), by decide +kernel, by decide +kernel, by decide +kernel⟩
theorem zm_X4_75 : z_mOK RX4 75 0 0 mX2_places := ⟨zc_X2_places.1, zc_X2_places.2.1, ⟨zc_X2_places.2.2.1, zc_X2_places.2.2.2.1, by decide +kernel⟩, by decide, zc_X2_places.2.2.2.2, z_at_in (i := 887) (by decide +kernel), z_at_in (i := 888) (by decide +kernel), z_at_in (i := 889) (by decide +kernel)⟩
set_option maxRecDepth 20000 in
theorem zc_X7_endLines : Cond.code mX7_endLines.1 mX7_endLines.2.1 mX7_endLines.2.2.1 mX7_endLines.2.2.2 ∈ z_tb ∧ Cond.initialized mX7_endLines.1.cls ∈ z_tb ∧ mX7_endLines.1.cls ≠ "java/lang/invoke/MethodHandle" ∧ mX7_endLines.1.cls ≠ "java/lang/invoke/VarHandle" ∧ plainName mX7_endLines.1.cls = true := ⟨z_at_rf (i := 894) rfl rfl, z_at_in (i := 65) (by decide +kernel), by decide +kernel, by decide +kernel, by decide +kernel⟩
theorem zm_X7_102 : z_mOK RX7 102 0 0 mX7_endLines := ⟨zc_X7_endLines.1, zc_X7_endLines.2.1, ⟨zc_X7_endLines.2.2.1, zc_X7_endLines.2.2.2.1, by decide +kernel⟩, by decide, zc_X7_endLines.2.2.2.2, z_at_in (i := 891) (by decide +kernel), z_at_in (i := 893) (by decide +kernel), z_at_in (i := 32) (by decide +kernel)⟩
theorem zm_X7_267 : z_mOK RX7 267 0 0 mX3_top := ⟨zc_X3_top.1, zc_X3_top.2.1, ⟨zc_X3_top.2.2.1, zc_X3_top.2.2.2.1, by decide +kernel⟩, by decide, zc_X3_top.2.2.2.2, z_at_in (i := 895) (by decide +kernel), z_at_in (i := 724) (by decide +kernel), z_at_in (i := 725) (by decide +kernel)⟩
theorem zm_X7_270 : z_mOK RX7 270 0 0 mX4_hasLines := ⟨zc_X4_hasLines.1, zc_X4_hasLines.2.1, ⟨zc_X4_hasLines.2.2.1, zc_X4_hasLines.2.2.2.1, by decide +kernel⟩, by decide, zc_X4_hasLines.2.2.2.2, z_at_in (i := 896) (by decide +kernel), z_at_in (i := 529) (by decide +kernel), z_at_in (i := 530) (by decide +kernel)⟩
set_option maxRecDepth 20000 in
theorem zc_X8_init : Cond.code mX8_init.1 mX8_init.2.1 mX8_init.2.2.1 mX8_init.2.2.2 ∈ z_tb ∧ Cond.initialized mX8_init.1.cls ∈ z_tb ∧ mX8_init.1.cls ≠ "java/lang/invoke/MethodHandle" ∧ mX8_init.1.cls ≠ "java/lang/invoke/VarHandle" ∧ plainName mX8_init.1.cls = true := ⟨z_at_rf (i := 966) rfl rfl, z_at_in (i := 76) (by decide +kernel), by decide +kernel, by decide +kernel, by decide +kernel⟩
theorem zm_L_18 : z_mOK RL 18 4 0 mX8_init := ⟨zc_X8_init.1, zc_X8_init.2.1, ⟨zc_X8_init.2.2.1, zc_X8_init.2.2.2.1, by decide +kernel⟩, by decide, zc_X8_init.2.2.2.2, z_at_in (i := 964) (by decide +kernel), z_at_in (i := 965) (by decide +kernel), rfl, rfl⟩
set_option maxRecDepth 20000 in
theorem zc_X8_thrown : Cond.code mX8_thrown.1 mX8_thrown.2.1 mX8_thrown.2.2.1 mX8_thrown.2.2.2 ∈ z_tb ∧ Cond.initialized mX8_thrown.1.cls ∈ z_tb ∧ mX8_thrown.1.cls ≠ "java/lang/invoke/MethodHandle" ∧ mX8_thrown.1.cls ≠ "java/lang/invoke/VarHandle" ∧ plainName mX8_thrown.1.cls = true := ⟨z_at_rf (i := 1129) rfl rfl, z_at_in (i := 76) (by decide +kernel), by decide +kernel, by decide +kernel, by decide +kernel⟩
theorem zm_L_36 : z_mOK RL 36 0 0 mX8_thrown := ⟨zc_X8_thrown.1, zc_X8_thrown.2.1, ⟨zc_X8_thrown.2.2.1, zc_X8_thrown.2.2.2.1, by decide +kernel⟩, by decide, zc_X8_thrown.2.2.2.2, z_at_in (i := 1126) (by decide +kernel), z_at_in (i := 1127) (by decide +kernel), z_at_in (i := 1128) (by decide +kernel)⟩
set_option maxRecDepth 20000 in
theorem zc_X8_type : Cond.code mX8_type.1 mX8_type.2.1 mX8_type.2.2.1 mX8_type.2.2.2 ∈ z_tb ∧ Cond.initialized mX8_type.1.cls ∈ z_tb ∧ mX8_type.1.cls ≠ "java/lang/invoke/MethodHandle" ∧ mX8_type.1.cls ≠ "java/lang/invoke/VarHandle" ∧ plainName mX8_type.1.cls = true := ⟨z_at_rf (i := 1133) rfl rfl, z_at_in (i := 76) (by decide +kernel), by decide +kernel, by decide +kernel, by decide +kernel⟩
theorem zm_L_25 : z_mOK RL 25 0 2 mX8_type := ⟨zc_X8_type.1, zc_X8_type.2.1, ⟨zc_X8_type.2.2.1, zc_X8_type.2.2.2.1, by decide +kernel⟩, by decide, zc_X8_type.2.2.2.2, z_at_in (i := 1130) (by decide +kernel), z_at_in (i := 1131) (by decide +kernel), z_at_in (i := 1132) (by decide +kernel)⟩
set_option maxRecDepth 20000 in
theorem zc_X8_begin : Cond.code mX8_begin.1 mX8_begin.2.1 mX8_begin.2.2.1 mX8_begin.2.2.2 ∈ z_tb ∧ Cond.initialized mX8_begin.1.cls ∈ z_tb ∧ mX8_begin.1.cls ≠ "java/lang/invoke/MethodHandle" ∧ mX8_begin.1.cls ≠ "java/lang/invoke/VarHandle" ∧ plainName mX8_begin.1.cls = true := ⟨z_at_rf (i := 1137) rfl rfl, z_at_in (i := 76) (by decide +kernel), by decide +kernel, by decide +kernel, by decide +kernel⟩
theorem zm_L_29 : z_mOK RL 29 0 0 mX8_begin := ⟨zc_X8_begin.1, zc_X8_begin.2.1, ⟨zc_X8_begin.2.2.1, zc_X8_begin.2.2.2.1, by decide +kernel⟩, by decide, zc_X8_begin.2.2.2.2, z_at_in (i := 1134) (by decide +kernel), z_at_in (i := 1135) (by decide +kernel), z_at_in (i := 1136) (by decide +kernel)⟩
set_option maxRecDepth 20000 in
theorem zc_X8_linesOfSource : Cond.code mX8_linesOfSource.1 mX8_linesOfSource.2.1 mX8_linesOfSource.2.2.1 mX8_linesOfSource.2.2.2 ∈ z_tb ∧ Cond.initialized mX8_linesOfSource.1.cls ∈ z_tb ∧ mX8_linesOfSource.1.cls ≠ "java/lang/invoke/MethodHandle" ∧ mX8_linesOfSource.1.cls ≠ "java/lang/invoke/VarHandle" ∧ plainName mX8_linesOfSource.1.cls = true := ⟨z_at_rf (i := 1141) rfl rfl, z_at_in (i := 76) (by decide +kernel), by decide +kernel, by decide +kernel, by decide +kernel⟩
theorem zm_X8_311 : z_mOK RX8 311 0 0 mX8_linesOfSource := ⟨zc_X8_linesOfSource.1, zc_X8_linesOfSource.2.1, ⟨zc_X8_linesOfSource.2.2.1, zc_X8_linesOfSource.2.2.2.1, by decide +kernel⟩, by decide, zc_X8_linesOfSource.2.2.2.2, z_at_in (i := 1138) (by decide +kernel), z_at_in (i := 1140) (by decide +kernel), z_at_in (i := 34) (by decide +kernel)⟩
set_option maxRecDepth 20000 in
theorem zc_X8_endOfLine : Cond.code mX8_endOfLine.1 mX8_endOfLine.2.1 mX8_endOfLine.2.2.1 mX8_endOfLine.2.2.2 ∈ z_tb ∧ Cond.initialized mX8_endOfLine.1.cls ∈ z_tb ∧ mX8_endOfLine.1.cls ≠ "java/lang/invoke/MethodHandle" ∧ mX8_endOfLine.1.cls ≠ "java/lang/invoke/VarHandle" ∧ plainName mX8_endOfLine.1.cls = true := ⟨z_at_rf (i := 1145) rfl rfl, z_at_in (i := 76) (by decide +kernel), by decide +kernel, by decide +kernel, by decide +kernel⟩
theorem zm_X8_163 : z_mOK RX8 163 0 1 mX8_endOfLine := ⟨zc_X8_endOfLine.1, zc_X8_endOfLine.2.1, ⟨zc_X8_endOfLine.2.2.1, zc_X8_endOfLine.2.2.2.1, by decide +kernel⟩, by decide, zc_X8_endOfLine.2.2.2.2, z_at_in (i := 1142) (by decide +kernel), z_at_in (i := 1144) (by decide +kernel), z_at_in (i := 35) (by decide +kernel)⟩
set_option maxRecDepth 20000 in
theorem zc_X8_next : Cond.code mX8_next.1 mX8_next.2.1 mX8_next.2.2.1 mX8_next.2.2.2 ∈ z_tb ∧ Cond.initialized mX8_next.1.cls ∈ z_tb ∧ mX8_next.1.cls ≠ "java/lang/invoke/MethodHandle" ∧ mX8_next.1.cls ≠ "java/lang/invoke/VarHandle" ∧ plainName mX8_next.1.cls = true := ⟨z_at_rf (i := 1149) rfl rfl, z_at_in (i := 76) (by decide +kernel), by decide +kernel, by decide +kernel, by decide +kernel⟩
theorem zm_L_35 : z_mOK RL 35 0 0 mX8_next := ⟨zc_X8_next.1, zc_X8_next.2.1, ⟨zc_X8_next.2.2.1, zc_X8_next.2.2.2.1, by decide +kernel⟩, by decide, zc_X8_next.2.2.2.2, z_at_in (i := 1146) (by decide +kernel), z_at_in (i := 1147) (by decide +kernel), z_at_in (i := 1148) (by decide +kernel)⟩
set_option maxRecDepth 20000 in
theorem zc_X8_nextLine : Cond.code mX8_nextLine.1 mX8_nextLine.2.1 mX8_nextLine.2.2.1 mX8_nextLine.2.2.2 ∈ z_tb ∧ Cond.initialized mX8_nextLine.1.cls ∈ z_tb ∧ mX8_nextLine.1.cls ≠ "java/lang/invoke/MethodHandle" ∧ mX8_nextLine.1.cls ≠ "java/lang/invoke/VarHandle" ∧ plainName mX8_nextLine.1.cls = true := ⟨z_at_rf (i := 1153) rfl rfl, z_at_in (i := 76) (by decide +kernel), by decide +kernel, by decide +kernel, by decide +kernel⟩
theorem zm_X8_314 : z_mOK RX8 314 0 0 mX8_nextLine := ⟨zc_X8_nextLine.1, zc_X8_nextLine.2.1, ⟨zc_X8_nextLine.2.2.1, zc_X8_nextLine.2.2.2.1, by decide +kernel⟩, by decide, zc_X8_nextLine.2.2.2.2, z_at_in (i := 1150) (by decide +kernel), z_at_in (i := 1152) (by decide +kernel), z_at_in (i := 36) (by decide +kernel)⟩
set_option maxRecDepth 20000 in
theorem zc_X8_reader : Cond.code mX8_reader.1 mX8_reader.2.1 mX8_reader.2.2.1 mX8_reader.2.2.2 ∈ z_tb ∧ Cond.initialized mX8_reader.1.cls ∈ z_tb ∧ mX8_reader.1.cls ≠ "java/lang/invoke/MethodHandle" ∧ mX8_reader.1.cls ≠ "java/lang/invoke/VarHandle" ∧ plainName mX8_reader.1.cls = true := ⟨z_at_rf (i := 1157) rfl rfl, z_at_in (i := 76) (by decide +kernel), by decide +kernel, by decide +kernel, by decide +kernel⟩
theorem zm_X8_183 : z_mOK RX8 183 0 0 mX8_reader := ⟨zc_X8_reader.1, zc_X8_reader.2.1, ⟨zc_X8_reader.2.2.1, zc_X8_reader.2.2.2.1, by decide +kernel⟩, by decide, zc_X8_reader.2.2.2.2, z_at_in (i := 1154) (by decide +kernel), z_at_in (i := 1156) (by decide +kernel), z_at_in (i := 37) (by decide +kernel)⟩
set_option maxRecDepth 20000 in
theorem zc_X8_fail : Cond.code mX8_fail.1 mX8_fail.2.1 mX8_fail.2.2.1 mX8_fail.2.2.2 ∈ z_tb ∧ Cond.initialized mX8_fail.1.cls ∈ z_tb ∧ mX8_fail.1.cls ≠ "java/lang/invoke/MethodHandle" ∧ mX8_fail.1.cls ≠ "java/lang/invoke/VarHandle" ∧ plainName mX8_fail.1.cls = true := ⟨z_at_rf (i := 1161) rfl rfl, z_at_in (i := 76) (by decide +kernel), by decide +kernel, by decide +kernel, by decide +kernel⟩
theorem zm_X8_189 : z_mOK RX8 189 0 1 mX8_fail := ⟨zc_X8_fail.1, zc_X8_fail.2.1, ⟨zc_X8_fail.2.2.1, zc_X8_fail.2.2.2.1, by decide +kernel⟩, by decide, zc_X8_fail.2.2.2.2, z_at_in (i := 1158) (by decide +kernel), z_at_in (i := 1160) (by decide +kernel), z_at_in (i := 38) (by decide +kernel)⟩
set_option maxRecDepth 20000 in
theorem zc_X8_ownLine : Cond.code mX8_ownLine.1 mX8_ownLine.2.1 mX8_ownLine.2.2.1 mX8_ownLine.2.2.2 ∈ z_tb ∧ Cond.initialized mX8_ownLine.1.cls ∈ z_tb ∧ mX8_ownLine.1.cls ≠ "java/lang/invoke/MethodHandle" ∧ mX8_ownLine.1.cls ≠ "java/lang/invoke/VarHandle" ∧ plainName mX8_ownLine.1.cls = true := ⟨z_at_rf (i := 1165) rfl rfl, z_at_in (i := 76) (by decide +kernel), by decide +kernel, by decide +kernel, by decide +kernel⟩
theorem zm_X8_145 : z_mOK RX8 145 0 0 mX8_ownLine := ⟨zc_X8_ownLine.1, zc_X8_ownLine.2.1, ⟨zc_X8_ownLine.2.2.1, zc_X8_ownLine.2.2.2.1, by decide +kernel⟩, by decide, zc_X8_ownLine.2.2.2.2, z_at_in (i := 1162) (by decide +kernel), z_at_in (i := 1164) (by decide +kernel), z_at_in (i := 39) (by decide +kernel)⟩
set_option maxRecDepth 20000 in
theorem zc_X8_readLine : Cond.code mX8_readLine.1 mX8_readLine.2.1 mX8_readLine.2.2.1 mX8_readLine.2.2.2 ∈ z_tb ∧ Cond.initialized mX8_readLine.1.cls ∈ z_tb ∧ mX8_readLine.1.cls ≠ "java/lang/invoke/MethodHandle" ∧ mX8_readLine.1.cls ≠ "java/lang/invoke/VarHandle" ∧ plainName mX8_readLine.1.cls = true := ⟨z_at_rf (i := 1169) rfl rfl, z_at_in (i := 76) (by decide +kernel), by decide +kernel, by decide +kernel, by decide +kernel⟩
theorem zm_X8_318 : z_mOK RX8 318 0 0 mX8_readLine := ⟨zc_X8_readLine.1, zc_X8_readLine.2.1, ⟨zc_X8_readLine.2.2.1, zc_X8_readLine.2.2.2.1, by decide +kernel⟩, by decide, zc_X8_readLine.2.2.2.2, z_at_in (i := 1166) (by decide +kernel), z_at_in (i := 1168) (by decide +kernel), z_at_in (i := 40) (by decide +kernel)⟩
set_option maxRecDepth 20000 in
theorem zc_X8_expand : Cond.code mX8_expand.1 mX8_expand.2.1 mX8_expand.2.2.1 mX8_expand.2.2.2 ∈ z_tb ∧ Cond.initialized mX8_expand.1.cls ∈ z_tb ∧ mX8_expand.1.cls ≠ "java/lang/invoke/MethodHandle" ∧ mX8_expand.1.cls ≠ "java/lang/invoke/VarHandle" ∧ plainName mX8_expand.1.cls = true := ⟨z_at_rf (i := 1173) rfl rfl, z_at_in (i := 76) (by decide +kernel), by decide +kernel, by decide +kernel, by decide +kernel⟩
theorem zm_X8_289 : z_mOK RX8 289 0 0 mX8_expand := ⟨zc_X8_expand.1, zc_X8_expand.2.1, ⟨zc_X8_expand.2.2.1, zc_X8_expand.2.2.2.1, by decide +kernel⟩, by decide, zc_X8_expand.2.2.2.2, z_at_in (i := 1170) (by decide +kernel), z_at_in (i := 1172) (by decide +kernel), z_at_in (i := 41) (by decide +kernel)⟩
set_option maxRecDepth 20000 in
theorem zc_X8_macroFrame : Cond.code mX8_macroFrame.1 mX8_macroFrame.2.1 mX8_macroFrame.2.2.1 mX8_macroFrame.2.2.2 ∈ z_tb ∧ Cond.initialized mX8_macroFrame.1.cls ∈ z_tb ∧ mX8_macroFrame.1.cls ≠ "java/lang/invoke/MethodHandle" ∧ mX8_macroFrame.1.cls ≠ "java/lang/invoke/VarHandle" ∧ plainName mX8_macroFrame.1.cls = true := ⟨z_at_rf (i := 1177) rfl rfl, z_at_in (i := 76) (by decide +kernel), by decide +kernel, by decide +kernel, by decide +kernel⟩
theorem zm_X8_205 : z_mOK RX8 205 0 0 mX8_macroFrame := ⟨zc_X8_macroFrame.1, zc_X8_macroFrame.2.1, ⟨zc_X8_macroFrame.2.2.1, zc_X8_macroFrame.2.2.2.1, by decide +kernel⟩, by decide, zc_X8_macroFrame.2.2.2.2, z_at_in (i := 1174) (by decide +kernel), z_at_in (i := 1176) (by decide +kernel), z_at_in (i := 42) (by decide +kernel)⟩
set_option maxRecDepth 20000 in
theorem zc_X8_parameterAt : Cond.code mX8_parameterAt.1 mX8_parameterAt.2.1 mX8_parameterAt.2.2.1 mX8_parameterAt.2.2.2 ∈ z_tb ∧ Cond.initialized mX8_parameterAt.1.cls ∈ z_tb ∧ mX8_parameterAt.1.cls ≠ "java/lang/invoke/MethodHandle" ∧ mX8_parameterAt.1.cls ≠ "java/lang/invoke/VarHandle" ∧ plainName mX8_parameterAt.1.cls = true := ⟨z_at_rf (i := 1181) rfl rfl, z_at_in (i := 76) (by decide +kernel), by decide +kernel, by decide +kernel, by decide +kernel⟩
theorem zm_X8_208 : z_mOK RX8 208 0 3 mX8_parameterAt := ⟨zc_X8_parameterAt.1, zc_X8_parameterAt.2.1, ⟨zc_X8_parameterAt.2.2.1, zc_X8_parameterAt.2.2.2.1, by decide +kernel⟩, by decide, zc_X8_parameterAt.2.2.2.2, z_at_in (i := 1178) (by decide +kernel), z_at_in (i := 1180) (by decide +kernel), z_at_in (i := 43) (by decide +kernel)⟩
set_option maxRecDepth 20000 in
theorem zc_X8_isNamed : Cond.code mX8_isNamed.1 mX8_isNamed.2.1 mX8_isNamed.2.2.1 mX8_isNamed.2.2.2 ∈ z_tb ∧ Cond.initialized mX8_isNamed.1.cls ∈ z_tb ∧ mX8_isNamed.1.cls ≠ "java/lang/invoke/MethodHandle" ∧ mX8_isNamed.1.cls ≠ "java/lang/invoke/VarHandle" ∧ plainName mX8_isNamed.1.cls = true := ⟨z_at_rf (i := 1184) rfl rfl, z_at_in (i := 76) (by decide +kernel), by decide +kernel, by decide +kernel, by decide +kernel⟩
theorem zm_X8_117 : z_mOK RX8 117 2 1 mX8_isNamed := ⟨zc_X8_isNamed.1, zc_X8_isNamed.2.1, ⟨zc_X8_isNamed.2.2.1, zc_X8_isNamed.2.2.2.1, by decide +kernel⟩, by decide, zc_X8_isNamed.2.2.2.2, z_at_in (i := 1182) (by decide +kernel), z_at_in (i := 1183) (by decide +kernel)⟩
set_option maxRecDepth 20000 in
theorem zc_X8_isLetter : Cond.code mX8_isLetter.1 mX8_isLetter.2.1 mX8_isLetter.2.2.1 mX8_isLetter.2.2.2 ∈ z_tb ∧ Cond.initialized mX8_isLetter.1.cls ∈ z_tb ∧ mX8_isLetter.1.cls ≠ "java/lang/invoke/MethodHandle" ∧ mX8_isLetter.1.cls ≠ "java/lang/invoke/VarHandle" ∧ plainName mX8_isLetter.1.cls = true := ⟨z_at_rf (i := 1187) rfl rfl, z_at_in (i := 76) (by decide +kernel), by decide +kernel, by decide +kernel, by decide +kernel⟩
theorem zm_X8_110 : z_mOK RX8 110 2 1 mX8_isLetter := ⟨zc_X8_isLetter.1, zc_X8_isLetter.2.1, ⟨zc_X8_isLetter.2.2.1, zc_X8_isLetter.2.2.2.1, by decide +kernel⟩, by decide, zc_X8_isLetter.2.2.2.2, z_at_in (i := 1185) (by decide +kernel), z_at_in (i := 1186) (by decide +kernel)⟩
set_option maxRecDepth 20000 in
theorem zc_X8_isDigit : Cond.code mX8_isDigit.1 mX8_isDigit.2.1 mX8_isDigit.2.2.1 mX8_isDigit.2.2.2 ∈ z_tb ∧ Cond.initialized mX8_isDigit.1.cls ∈ z_tb ∧ mX8_isDigit.1.cls ≠ "java/lang/invoke/MethodHandle" ∧ mX8_isDigit.1.cls ≠ "java/lang/invoke/VarHandle" ∧ plainName mX8_isDigit.1.cls = true := ⟨z_at_rf (i := 1190) rfl rfl, z_at_in (i := 76) (by decide +kernel), by decide +kernel, by decide +kernel, by decide +kernel⟩
theorem zm_X8_114 : z_mOK RX8 114 2 1 mX8_isDigit := ⟨zc_X8_isDigit.1, zc_X8_isDigit.2.1, ⟨zc_X8_isDigit.2.2.1, zc_X8_isDigit.2.2.2.1, by decide +kernel⟩, by decide, zc_X8_isDigit.2.2.2.2, z_at_in (i := 1188) (by decide +kernel), z_at_in (i := 1189) (by decide +kernel)⟩
set_option maxRecDepth 20000 in
theorem zc_X8_append : Cond.code mX8_append.1 mX8_append.2.1 mX8_append.2.2.1 mX8_append.2.2.2 ∈ z_tb ∧ Cond.initialized mX8_append.1.cls ∈ z_tb ∧ mX8_append.1.cls ≠ "java/lang/invoke/MethodHandle" ∧ mX8_append.1.cls ≠ "java/lang/invoke/VarHandle" ∧ plainName mX8_append.1.cls = true := ⟨z_at_rf (i := 1194) rfl rfl, z_at_in (i := 76) (by decide +kernel), by decide +kernel, by decide +kernel, by decide +kernel⟩
theorem zm_X8_202 : z_mOK RX8 202 0 1 mX8_append := ⟨zc_X8_append.1, zc_X8_append.2.1, ⟨zc_X8_append.2.2.1, zc_X8_append.2.2.2.1, by decide +kernel⟩, by decide, zc_X8_append.2.2.2.2, z_at_in (i := 1191) (by decide +kernel), z_at_in (i := 1193) (by decide +kernel), z_at_in (i := 44) (by decide +kernel)⟩
set_option maxRecDepth 20000 in
theorem zc_X8_appendNumber : Cond.code mX8_appendNumber.1 mX8_appendNumber.2.1 mX8_appendNumber.2.2.1 mX8_appendNumber.2.2.2 ∈ z_tb ∧ Cond.initialized mX8_appendNumber.1.cls ∈ z_tb ∧ mX8_appendNumber.1.cls ≠ "java/lang/invoke/MethodHandle" ∧ mX8_appendNumber.1.cls ≠ "java/lang/invoke/VarHandle" ∧ plainName mX8_appendNumber.1.cls = true := ⟨z_at_rf (i := 1198) rfl rfl, z_at_in (i := 76) (by decide +kernel), by decide +kernel, by decide +kernel, by decide +kernel⟩
theorem zm_X8_212 : z_mOK RX8 212 0 1 mX8_appendNumber := ⟨zc_X8_appendNumber.1, zc_X8_appendNumber.2.1, ⟨zc_X8_appendNumber.2.2.1, zc_X8_appendNumber.2.2.2.1, by decide +kernel⟩, by decide, zc_X8_appendNumber.2.2.2.2, z_at_in (i := 1195) (by decide +kernel), z_at_in (i := 1197) (by decide +kernel), z_at_in (i := 45) (by decide +kernel)⟩
set_option maxRecDepth 20000 in
theorem zc_X8_readTokens : Cond.code mX8_readTokens.1 mX8_readTokens.2.1 mX8_readTokens.2.2.1 mX8_readTokens.2.2.2 ∈ z_tb ∧ Cond.initialized mX8_readTokens.1.cls ∈ z_tb ∧ mX8_readTokens.1.cls ≠ "java/lang/invoke/MethodHandle" ∧ mX8_readTokens.1.cls ≠ "java/lang/invoke/VarHandle" ∧ plainName mX8_readTokens.1.cls = true := ⟨z_at_rf (i := 1202) rfl rfl, z_at_in (i := 76) (by decide +kernel), by decide +kernel, by decide +kernel, by decide +kernel⟩
theorem zm_X8_292 : z_mOK RX8 292 0 0 mX8_readTokens := ⟨zc_X8_readTokens.1, zc_X8_readTokens.2.1, ⟨zc_X8_readTokens.2.2.1, zc_X8_readTokens.2.2.2.1, by decide +kernel⟩, by decide, zc_X8_readTokens.2.2.2.2, z_at_in (i := 1199) (by decide +kernel), z_at_in (i := 1201) (by decide +kernel), z_at_in (i := 46) (by decide +kernel)⟩
set_option maxRecDepth 20000 in
theorem zc_X8_readToken : Cond.code mX8_readToken.1 mX8_readToken.2.1 mX8_readToken.2.2.1 mX8_readToken.2.2.2 ∈ z_tb ∧ Cond.initialized mX8_readToken.1.cls ∈ z_tb ∧ mX8_readToken.1.cls ≠ "java/lang/invoke/MethodHandle" ∧ mX8_readToken.1.cls ≠ "java/lang/invoke/VarHandle" ∧ plainName mX8_readToken.1.cls = true := ⟨z_at_rf (i := 1206) rfl rfl, z_at_in (i := 76) (by decide +kernel), by decide +kernel, by decide +kernel, by decide +kernel⟩
theorem zm_X8_242 : z_mOK RX8 242 0 1 mX8_readToken := ⟨zc_X8_readToken.1, zc_X8_readToken.2.1, ⟨zc_X8_readToken.2.2.1, zc_X8_readToken.2.2.2.1, by decide +kernel⟩, by decide, zc_X8_readToken.2.2.2.2, z_at_in (i := 1203) (by decide +kernel), z_at_in (i := 1205) (by decide +kernel), z_at_in (i := 47) (by decide +kernel)⟩
set_option maxRecDepth 20000 in
theorem zc_X8_numberToken : Cond.code mX8_numberToken.1 mX8_numberToken.2.1 mX8_numberToken.2.2.1 mX8_numberToken.2.2.2 ∈ z_tb ∧ Cond.initialized mX8_numberToken.1.cls ∈ z_tb ∧ mX8_numberToken.1.cls ≠ "java/lang/invoke/MethodHandle" ∧ mX8_numberToken.1.cls ≠ "java/lang/invoke/VarHandle" ∧ plainName mX8_numberToken.1.cls = true := ⟨z_at_rf (i := 1210) rfl rfl, z_at_in (i := 76) (by decide +kernel), by decide +kernel, by decide +kernel, by decide +kernel⟩
theorem zm_X8_232 : z_mOK RX8 232 0 1 mX8_numberToken := ⟨zc_X8_numberToken.1, zc_X8_numberToken.2.1, ⟨zc_X8_numberToken.2.2.1, zc_X8_numberToken.2.2.2.1, by decide +kernel⟩, by decide, zc_X8_numberToken.2.2.2.2, z_at_in (i := 1207) (by decide +kernel), z_at_in (i := 1209) (by decide +kernel), z_at_in (i := 48) (by decide +kernel)⟩
set_option maxRecDepth 20000 in
theorem zc_X8_digitOf : Cond.code mX8_digitOf.1 mX8_digitOf.2.1 mX8_digitOf.2.2.1 mX8_digitOf.2.2.2 ∈ z_tb ∧ Cond.initialized mX8_digitOf.1.cls ∈ z_tb ∧ mX8_digitOf.1.cls ≠ "java/lang/invoke/MethodHandle" ∧ mX8_digitOf.1.cls ≠ "java/lang/invoke/VarHandle" ∧ plainName mX8_digitOf.1.cls = true := ⟨z_at_rf (i := 1213) rfl rfl, z_at_in (i := 76) (by decide +kernel), by decide +kernel, by decide +kernel, by decide +kernel⟩
theorem zm_X8_218 : z_mOK RX8 218 2 1 mX8_digitOf := ⟨zc_X8_digitOf.1, zc_X8_digitOf.2.1, ⟨zc_X8_digitOf.2.2.1, zc_X8_digitOf.2.2.2.1, by decide +kernel⟩, by decide, zc_X8_digitOf.2.2.2.2, z_at_in (i := 1211) (by decide +kernel), z_at_in (i := 1212) (by decide +kernel)⟩
set_option maxRecDepth 20000 in
theorem zc_X8_token : Cond.code mX8_token.1 mX8_token.2.1 mX8_token.2.2.1 mX8_token.2.2.2 ∈ z_tb ∧ Cond.initialized mX8_token.1.cls ∈ z_tb ∧ mX8_token.1.cls ≠ "java/lang/invoke/MethodHandle" ∧ mX8_token.1.cls ≠ "java/lang/invoke/VarHandle" ∧ plainName mX8_token.1.cls = true := ⟨z_at_rf (i := 1225) rfl rfl, z_at_in (i := 76) (by decide +kernel), by decide +kernel, by decide +kernel, by decide +kernel⟩
theorem zm_X8_229 : z_mOK RX8 229 0 4 mX8_token := ⟨zc_X8_token.1, zc_X8_token.2.1, ⟨zc_X8_token.2.2.1, zc_X8_token.2.2.2.1, by decide +kernel⟩, by decide, zc_X8_token.2.2.2.2, z_at_in (i := 1222) (by decide +kernel), z_at_in (i := 1224) (by decide +kernel), z_at_in (i := 49) (by decide +kernel)⟩
set_option maxRecDepth 20000 in
theorem zc_X8_packed : Cond.code mX8_packed.1 mX8_packed.2.1 mX8_packed.2.2.1 mX8_packed.2.2.2 ∈ z_tb ∧ Cond.initialized mX8_packed.1.cls ∈ z_tb ∧ mX8_packed.1.cls ≠ "java/lang/invoke/MethodHandle" ∧ mX8_packed.1.cls ≠ "java/lang/invoke/VarHandle" ∧ plainName mX8_packed.1.cls = true := ⟨z_at_rf (i := 1228) rfl rfl, z_at_in (i := 76) (by decide +kernel), by decide +kernel, by decide +kernel, by decide +kernel⟩
theorem zm_X8_152 : z_mOK RX8 152 2 3 mX8_packed := ⟨zc_X8_packed.1, zc_X8_packed.2.1, ⟨zc_X8_packed.2.2.1, zc_X8_packed.2.2.2.1, by decide +kernel⟩, by decide, zc_X8_packed.2.2.2.2, z_at_in (i := 1226) (by decide +kernel), z_at_in (i := 1227) (by decide +kernel)⟩
set_option maxRecDepth 20000 in
theorem zc_X8_character : Cond.code mX8_character.1 mX8_character.2.1 mX8_character.2.2.1 mX8_character.2.2.2 ∈ z_tb ∧ Cond.initialized mX8_character.1.cls ∈ z_tb ∧ mX8_character.1.cls ≠ "java/lang/invoke/MethodHandle" ∧ mX8_character.1.cls ≠ "java/lang/invoke/VarHandle" ∧ plainName mX8_character.1.cls = true := ⟨z_at_rf (i := 1233) rfl rfl, z_at_in (i := 76) (by decide +kernel), by decide +kernel, by decide +kernel, by decide +kernel⟩
theorem zm_X8_235 : z_mOK RX8 235 0 2 mX8_character := ⟨zc_X8_character.1, zc_X8_character.2.1, ⟨zc_X8_character.2.2.1, zc_X8_character.2.2.2.1, by decide +kernel⟩, by decide, zc_X8_character.2.2.2.2, z_at_in (i := 1230) (by decide +kernel), z_at_in (i := 1232) (by decide +kernel), z_at_in (i := 50) (by decide +kernel)⟩
set_option maxRecDepth 20000 in
theorem zc_X8_isName : Cond.code mX8_isName.1 mX8_isName.2.1 mX8_isName.2.2.1 mX8_isName.2.2.2 ∈ z_tb ∧ Cond.initialized mX8_isName.1.cls ∈ z_tb ∧ mX8_isName.1.cls ≠ "java/lang/invoke/MethodHandle" ∧ mX8_isName.1.cls ≠ "java/lang/invoke/VarHandle" ∧ plainName mX8_isName.1.cls = true := ⟨z_at_rf (i := 1239) rfl rfl, z_at_in (i := 76) (by decide +kernel), by decide +kernel, by decide +kernel, by decide +kernel⟩
theorem zm_X8_248 : z_mOK RX8 248 0 1 mX8_isName := ⟨zc_X8_isName.1, zc_X8_isName.2.1, ⟨zc_X8_isName.2.2.1, zc_X8_isName.2.2.2.1, by decide +kernel⟩, by decide, zc_X8_isName.2.2.2.2, z_at_in (i := 1236) (by decide +kernel), z_at_in (i := 1238) (by decide +kernel), z_at_in (i := 51) (by decide +kernel)⟩
set_option maxRecDepth 20000 in
theorem zc_X8_wordOf : Cond.code mX8_wordOf.1 mX8_wordOf.2.1 mX8_wordOf.2.2.1 mX8_wordOf.2.2.2 ∈ z_tb ∧ Cond.initialized mX8_wordOf.1.cls ∈ z_tb ∧ mX8_wordOf.1.cls ≠ "java/lang/invoke/MethodHandle" ∧ mX8_wordOf.1.cls ≠ "java/lang/invoke/VarHandle" ∧ plainName mX8_wordOf.1.cls = true := ⟨z_at_rf (i := 1242) rfl rfl, z_at_in (i := 76) (by decide +kernel), by decide +kernel, by decide +kernel, by decide +kernel⟩
theorem zm_X8_156 : z_mOK RX8 156 2 1 mX8_wordOf := ⟨zc_X8_wordOf.1, zc_X8_wordOf.2.1, ⟨zc_X8_wordOf.2.2.1, zc_X8_wordOf.2.2.2.1, by decide +kernel⟩, by decide, zc_X8_wordOf.2.2.2.2, z_at_in (i := 1240) (by decide +kernel), z_at_in (i := 1241) (by decide +kernel)⟩
set_option maxRecDepth 20000 in
theorem zc_X8_macroNamed : Cond.code mX8_macroNamed.1 mX8_macroNamed.2.1 mX8_macroNamed.2.2.1 mX8_macroNamed.2.2.2 ∈ z_tb ∧ Cond.initialized mX8_macroNamed.1.cls ∈ z_tb ∧ mX8_macroNamed.1.cls ≠ "java/lang/invoke/MethodHandle" ∧ mX8_macroNamed.1.cls ≠ "java/lang/invoke/VarHandle" ∧ plainName mX8_macroNamed.1.cls = true := ⟨z_at_rf (i := 1253) rfl rfl, z_at_in (i := 76) (by decide +kernel), by decide +kernel, by decide +kernel, by decide +kernel⟩
theorem zm_X8_283 : z_mOK RX8 283 0 1 mX8_macroNamed := ⟨zc_X8_macroNamed.1, zc_X8_macroNamed.2.1, ⟨zc_X8_macroNamed.2.2.1, zc_X8_macroNamed.2.2.2.1, by decide +kernel⟩, by decide, zc_X8_macroNamed.2.2.2.2, z_at_in (i := 1250) (by decide +kernel), z_at_in (i := 1252) (by decide +kernel), z_at_in (i := 52) (by decide +kernel)⟩
set_option maxRecDepth 20000 in
theorem zc_X8_nesting : Cond.code mX8_nesting.1 mX8_nesting.2.1 mX8_nesting.2.2.1 mX8_nesting.2.2.2 ∈ z_tb ∧ Cond.initialized mX8_nesting.1.cls ∈ z_tb ∧ mX8_nesting.1.cls ≠ "java/lang/invoke/MethodHandle" ∧ mX8_nesting.1.cls ≠ "java/lang/invoke/VarHandle" ∧ plainName mX8_nesting.1.cls = true := ⟨z_at_rf (i := 1257) rfl rfl, z_at_in (i := 76) (by decide +kernel), by decide +kernel, by decide +kernel, by decide +kernel⟩
theorem zm_X8_295 : z_mOK RX8 295 0 2 mX8_nesting := ⟨zc_X8_nesting.1, zc_X8_nesting.2.1, ⟨zc_X8_nesting.2.2.1, zc_X8_nesting.2.2.2.1, by decide +kernel⟩, by decide, zc_X8_nesting.2.2.2.2, z_at_in (i := 1254) (by decide +kernel), z_at_in (i := 1256) (by decide +kernel), z_at_in (i := 53) (by decide +kernel)⟩
set_option maxRecDepth 20000 in
theorem zc_X8_findEnd : Cond.code mX8_findEnd.1 mX8_findEnd.2.1 mX8_findEnd.2.2.1 mX8_findEnd.2.2.2 ∈ z_tb ∧ Cond.initialized mX8_findEnd.1.cls ∈ z_tb ∧ mX8_findEnd.1.cls ≠ "java/lang/invoke/MethodHandle" ∧ mX8_findEnd.1.cls ≠ "java/lang/invoke/VarHandle" ∧ plainName mX8_findEnd.1.cls = true := ⟨z_at_rf (i := 1261) rfl rfl, z_at_in (i := 76) (by decide +kernel), by decide +kernel, by decide +kernel, by decide +kernel⟩
theorem zm_X8_251 : z_mOK RX8 251 0 6 mX8_findEnd := ⟨zc_X8_findEnd.1, zc_X8_findEnd.2.1, ⟨zc_X8_findEnd.2.2.1, zc_X8_findEnd.2.2.2.1, by decide +kernel⟩, by decide, zc_X8_findEnd.2.2.2.2, z_at_in (i := 1258) (by decide +kernel), z_at_in (i := 1260) (by decide +kernel), z_at_in (i := 54) (by decide +kernel)⟩
set_option maxRecDepth 20000 in
theorem zc_X8_firstWord : Cond.code mX8_firstWord.1 mX8_firstWord.2.1 mX8_firstWord.2.2.1 mX8_firstWord.2.2.2 ∈ z_tb ∧ Cond.initialized mX8_firstWord.1.cls ∈ z_tb ∧ mX8_firstWord.1.cls ≠ "java/lang/invoke/MethodHandle" ∧ mX8_firstWord.1.cls ≠ "java/lang/invoke/VarHandle" ∧ plainName mX8_firstWord.1.cls = true := ⟨z_at_rf (i := 1265) rfl rfl, z_at_in (i := 76) (by decide +kernel), by decide +kernel, by decide +kernel, by decide +kernel⟩
theorem zm_X8_167 : z_mOK RX8 167 0 2 mX8_firstWord := ⟨zc_X8_firstWord.1, zc_X8_firstWord.2.1, ⟨zc_X8_firstWord.2.2.1, zc_X8_firstWord.2.2.2.1, by decide +kernel⟩, by decide, zc_X8_firstWord.2.2.2.2, z_at_in (i := 1262) (by decide +kernel), z_at_in (i := 1264) (by decide +kernel), z_at_in (i := 55) (by decide +kernel)⟩
set_option maxRecDepth 20000 in
theorem zc_X8_split : Cond.code mX8_split.1 mX8_split.2.1 mX8_split.2.2.1 mX8_split.2.2.2 ∈ z_tb ∧ Cond.initialized mX8_split.1.cls ∈ z_tb ∧ mX8_split.1.cls ≠ "java/lang/invoke/MethodHandle" ∧ mX8_split.1.cls ≠ "java/lang/invoke/VarHandle" ∧ plainName mX8_split.1.cls = true := ⟨z_at_rf (i := 1269) rfl rfl, z_at_in (i := 76) (by decide +kernel), by decide +kernel, by decide +kernel, by decide +kernel⟩
theorem zm_X8_255 : z_mOK RX8 255 0 0 mX8_split := ⟨zc_X8_split.1, zc_X8_split.2.1, ⟨zc_X8_split.2.2.1, zc_X8_split.2.2.2.1, by decide +kernel⟩, by decide, zc_X8_split.2.2.2.2, z_at_in (i := 1266) (by decide +kernel), z_at_in (i := 1268) (by decide +kernel), z_at_in (i := 56) (by decide +kernel)⟩
set_option maxRecDepth 20000 in
theorem zc_X8_isSign : Cond.code mX8_isSign.1 mX8_isSign.2.1 mX8_isSign.2.2.1 mX8_isSign.2.2.2 ∈ z_tb ∧ Cond.initialized mX8_isSign.1.cls ∈ z_tb ∧ mX8_isSign.1.cls ≠ "java/lang/invoke/MethodHandle" ∧ mX8_isSign.1.cls ≠ "java/lang/invoke/VarHandle" ∧ plainName mX8_isSign.1.cls = true := ⟨z_at_rf (i := 1273) rfl rfl, z_at_in (i := 76) (by decide +kernel), by decide +kernel, by decide +kernel, by decide +kernel⟩
theorem zm_X8_261 : z_mOK RX8 261 0 2 mX8_isSign := ⟨zc_X8_isSign.1, zc_X8_isSign.2.1, ⟨zc_X8_isSign.2.2.1, zc_X8_isSign.2.2.2.1, by decide +kernel⟩, by decide, zc_X8_isSign.2.2.2.2, z_at_in (i := 1270) (by decide +kernel), z_at_in (i := 1272) (by decide +kernel), z_at_in (i := 57) (by decide +kernel)⟩
set_option maxRecDepth 20000 in
theorem zc_X8_parametersOf : Cond.code mX8_parametersOf.1 mX8_parametersOf.2.1 mX8_parametersOf.2.2.1 mX8_parametersOf.2.2.2 ∈ z_tb ∧ Cond.initialized mX8_parametersOf.1.cls ∈ z_tb ∧ mX8_parametersOf.1.cls ≠ "java/lang/invoke/MethodHandle" ∧ mX8_parametersOf.1.cls ≠ "java/lang/invoke/VarHandle" ∧ plainName mX8_parametersOf.1.cls = true := ⟨z_at_rf (i := 1277) rfl rfl, z_at_in (i := 76) (by decide +kernel), by decide +kernel, by decide +kernel, by decide +kernel⟩
theorem zm_X8_258 : z_mOK RX8 258 0 1 mX8_parametersOf := ⟨zc_X8_parametersOf.1, zc_X8_parametersOf.2.1, ⟨zc_X8_parametersOf.2.2.1, zc_X8_parametersOf.2.2.2.1, by decide +kernel⟩, by decide, zc_X8_parametersOf.2.2.2.2, z_at_in (i := 1274) (by decide +kernel), z_at_in (i := 1276) (by decide +kernel), z_at_in (i := 58) (by decide +kernel)⟩
set_option maxRecDepth 20000 in
theorem zc_X8_call : Cond.code mX8_call.1 mX8_call.2.1 mX8_call.2.2.1 mX8_call.2.2.2 ∈ z_tb ∧ Cond.initialized mX8_call.1.cls ∈ z_tb ∧ mX8_call.1.cls ≠ "java/lang/invoke/MethodHandle" ∧ mX8_call.1.cls ≠ "java/lang/invoke/VarHandle" ∧ plainName mX8_call.1.cls = true := ⟨z_at_rf (i := 1281) rfl rfl, z_at_in (i := 76) (by decide +kernel), by decide +kernel, by decide +kernel, by decide +kernel⟩
theorem zm_X8_299 : z_mOK RX8 299 0 1 mX8_call := ⟨zc_X8_call.1, zc_X8_call.2.1, ⟨zc_X8_call.2.2.1, zc_X8_call.2.2.2.1, by decide +kernel⟩, by decide, zc_X8_call.2.2.2.2, z_at_in (i := 1278) (by decide +kernel), z_at_in (i := 1280) (by decide +kernel), z_at_in (i := 59) (by decide +kernel)⟩
set_option maxRecDepth 20000 in
theorem zc_X8_enter : Cond.code mX8_enter.1 mX8_enter.2.1 mX8_enter.2.2.1 mX8_enter.2.2.2 ∈ z_tb ∧ Cond.initialized mX8_enter.1.cls ∈ z_tb ∧ mX8_enter.1.cls ≠ "java/lang/invoke/MethodHandle" ∧ mX8_enter.1.cls ≠ "java/lang/invoke/VarHandle" ∧ plainName mX8_enter.1.cls = true := ⟨z_at_rf (i := 1285) rfl rfl, z_at_in (i := 76) (by decide +kernel), by decide +kernel, by decide +kernel, by decide +kernel⟩
theorem zm_X8_265 : z_mOK RX8 265 0 3 mX8_enter := ⟨zc_X8_enter.1, zc_X8_enter.2.1, ⟨zc_X8_enter.2.2.1, zc_X8_enter.2.2.2.1, by decide +kernel⟩, by decide, zc_X8_enter.2.2.2.2, z_at_in (i := 1282) (by decide +kernel), z_at_in (i := 1284) (by decide +kernel), z_at_in (i := 60) (by decide +kernel)⟩
set_option maxRecDepth 20000 in
theorem zc_X8_structure : Cond.code mX8_structure.1 mX8_structure.2.1 mX8_structure.2.2.1 mX8_structure.2.2.2 ∈ z_tb ∧ Cond.initialized mX8_structure.1.cls ∈ z_tb ∧ mX8_structure.1.cls ≠ "java/lang/invoke/MethodHandle" ∧ mX8_structure.1.cls ≠ "java/lang/invoke/VarHandle" ∧ plainName mX8_structure.1.cls = true := ⟨z_at_rf (i := 1289) rfl rfl, z_at_in (i := 76) (by decide +kernel), by decide +kernel, by decide +kernel, by decide +kernel⟩
theorem zm_X8_302 : z_mOK RX8 302 0 1 mX8_structure := ⟨zc_X8_structure.1, zc_X8_structure.2.1, ⟨zc_X8_structure.2.2.1, zc_X8_structure.2.2.2.1, by decide +kernel⟩, by decide, zc_X8_structure.2.2.2.2, z_at_in (i := 1286) (by decide +kernel), z_at_in (i := 1288) (by decide +kernel), z_at_in (i := 61) (by decide +kernel)⟩
set_option maxRecDepth 20000 in
theorem zc_X8_macro : Cond.code mX8_macro.1 mX8_macro.2.1 mX8_macro.2.2.1 mX8_macro.2.2.2 ∈ z_tb ∧ Cond.initialized mX8_macro.1.cls ∈ z_tb ∧ mX8_macro.1.cls ≠ "java/lang/invoke/MethodHandle" ∧ mX8_macro.1.cls ≠ "java/lang/invoke/VarHandle" ∧ plainName mX8_macro.1.cls = true := ⟨z_at_rf (i := 1293) rfl rfl, z_at_in (i := 76) (by decide +kernel), by decide +kernel, by decide +kernel, by decide +kernel⟩
theorem zm_X8_272 : z_mOK RX8 272 0 0 mX8_macro := ⟨zc_X8_macro.1, zc_X8_macro.2.1, ⟨zc_X8_macro.2.2.1, zc_X8_macro.2.2.2.1, by decide +kernel⟩, by decide, zc_X8_macro.2.2.2.2, z_at_in (i := 1290) (by decide +kernel), z_at_in (i := 1292) (by decide +kernel), z_at_in (i := 62) (by decide +kernel)⟩
set_option maxRecDepth 20000 in
theorem zc_X8_goBehind : Cond.code mX8_goBehind.1 mX8_goBehind.2.1 mX8_goBehind.2.2.1 mX8_goBehind.2.2.2 ∈ z_tb ∧ Cond.initialized mX8_goBehind.1.cls ∈ z_tb ∧ mX8_goBehind.1.cls ≠ "java/lang/invoke/MethodHandle" ∧ mX8_goBehind.1.cls ≠ "java/lang/invoke/VarHandle" ∧ plainName mX8_goBehind.1.cls = true := ⟨z_at_rf (i := 1297) rfl rfl, z_at_in (i := 76) (by decide +kernel), by decide +kernel, by decide +kernel, by decide +kernel⟩
theorem zm_X8_275 : z_mOK RX8 275 0 0 mX8_goBehind := ⟨zc_X8_goBehind.1, zc_X8_goBehind.2.1, ⟨zc_X8_goBehind.2.2.1, zc_X8_goBehind.2.2.2.1, by decide +kernel⟩, by decide, zc_X8_goBehind.2.2.2.2, z_at_in (i := 1294) (by decide +kernel), z_at_in (i := 1296) (by decide +kernel), z_at_in (i := 63) (by decide +kernel)⟩
set_option maxRecDepth 20000 in
theorem zc_X8_octet : Cond.code mX8_octet.1 mX8_octet.2.1 mX8_octet.2.2.1 mX8_octet.2.2.2 ∈ z_tb ∧ Cond.initialized mX8_octet.1.cls ∈ z_tb ∧ mX8_octet.1.cls ≠ "java/lang/invoke/MethodHandle" ∧ mX8_octet.1.cls ≠ "java/lang/invoke/VarHandle" ∧ plainName mX8_octet.1.cls = true := ⟨z_at_rf (i := 1302) rfl rfl, z_at_in (i := 76) (by decide +kernel), by decide +kernel, by decide +kernel, by decide +kernel⟩
theorem zm_L_43 : z_mOK RL 43 0 1 mX8_octet := ⟨zc_X8_octet.1, zc_X8_octet.2.1, ⟨zc_X8_octet.2.2.1, zc_X8_octet.2.2.2.1, by decide +kernel⟩, by decide, zc_X8_octet.2.2.2.2, z_at_in (i := 1299) (by decide +kernel), z_at_in (i := 1300) (by decide +kernel), z_at_in (i := 1301) (by decide +kernel)⟩
set_option maxRecDepth 20000 in
theorem zc_X8_line : Cond.code mX8_line.1 mX8_line.2.1 mX8_line.2.2.1 mX8_line.2.2.2 ∈ z_tb ∧ Cond.initialized mX8_line.1.cls ∈ z_tb ∧ mX8_line.1.cls ≠ "java/lang/invoke/MethodHandle" ∧ mX8_line.1.cls ≠ "java/lang/invoke/VarHandle" ∧ plainName mX8_line.1.cls = true := ⟨z_at_rf (i := 1306) rfl rfl, z_at_in (i := 76) (by decide +kernel), by decide +kernel, by decide +kernel, by decide +kernel⟩
theorem zm_L_47 : z_mOK RL 47 0 0 mX8_line := ⟨zc_X8_line.1, zc_X8_line.2.1, ⟨zc_X8_line.2.2.1, zc_X8_line.2.2.2.1, by decide +kernel⟩, by decide, zc_X8_line.2.2.2.2, z_at_in (i := 1303) (by decide +kernel), z_at_in (i := 1304) (by decide +kernel), z_at_in (i := 1305) (by decide +kernel)⟩
set_option maxRecDepth 20000 in
theorem zc_X8_fault : Cond.code mX8_fault.1 mX8_fault.2.1 mX8_fault.2.2.1 mX8_fault.2.2.2 ∈ z_tb ∧ Cond.initialized mX8_fault.1.cls ∈ z_tb ∧ mX8_fault.1.cls ≠ "java/lang/invoke/MethodHandle" ∧ mX8_fault.1.cls ≠ "java/lang/invoke/VarHandle" ∧ plainName mX8_fault.1.cls = true := ⟨z_at_rf (i := 1310) rfl rfl, z_at_in (i := 76) (by decide +kernel), by decide +kernel, by decide +kernel, by decide +kernel⟩
theorem zm_L_51 : z_mOK RL 51 0 0 mX8_fault := ⟨zc_X8_fault.1, zc_X8_fault.2.1, ⟨zc_X8_fault.2.2.1, zc_X8_fault.2.2.2.1, by decide +kernel⟩, by decide, zc_X8_fault.2.2.2.2, z_at_in (i := 1307) (by decide +kernel), z_at_in (i := 1308) (by decide +kernel), z_at_in (i := 1309) (by decide +kernel)⟩
set_option maxRecDepth 20000 in
theorem zc_X8_depth : Cond.code mX8_depth.1 mX8_depth.2.1 mX8_depth.2.2.1 mX8_depth.2.2.2 ∈ z_tb ∧ Cond.initialized mX8_depth.1.cls ∈ z_tb ∧ mX8_depth.1.cls ≠ "java/lang/invoke/MethodHandle" ∧ mX8_depth.1.cls ≠ "java/lang/invoke/VarHandle" ∧ plainName mX8_depth.1.cls = true := ⟨z_at_rf (i := 1314) rfl rfl, z_at_in (i := 76) (by decide +kernel), by decide +kernel, by decide +kernel, by decide +kernel⟩
theorem zm_L_55 : z_mOK RL 55 0 0 mX8_depth := ⟨zc_X8_depth.1, zc_X8_depth.2.1, ⟨zc_X8_depth.2.2.1, zc_X8_depth.2.2.2.1, by decide +kernel⟩, by decide, zc_X8_depth.2.2.2.2, z_at_in (i := 1311) (by decide +kernel), z_at_in (i := 1312) (by decide +kernel), z_at_in (i := 1313) (by decide +kernel)⟩
end
section

/-! THE PURE MACHINE. A cell has a number; a store is (how many cells, how many slots in all, each cell). 'z_Ex d M pc lv st S o': from that place of method M, with d frames of room, the run comes to the place o. It is the least relation closed under the rows zk_..; z_sound: the rows hold of the machine. -/
def z_tr (ad : Nat → Nat) (v : Value) : Value := match v with
  | .ref i => .ref (ad i)
  | w => w
def z_ok (n : Nat) (v : Value) : Prop := match v with
  | .ref i => i < n
  | _ => True
def z_trA (ad : Nat → Nat) (a : vp_A) : vp_A := match a with
  | (n, .inr (.inr (.inr (.inr g)))) => (n, .inr (.inr (.inr (.inr (fun k => (g k).map ad)))))
  | b => b
def z_okA (n : Nat) (a : vp_A) : Prop := match a with
  | (_, .inr (.inr (.inr (.inr g)))) => ∀ k i, g k = some i → i < n
  | _ => True
def z_trC (ad : Nat → Nat) (cA : FieldType → ClassId) (c : zC) : va_E := match c with
  | .inl (ty, a) => .inl (cA ty, z_trA ad a)
  | .inr (ci, fs) => .inr (ci, fs.map (z_tr ad))
def z_okC (n : Nat) (c : zC) : Prop := match c with
  | .inl (_, a) => z_okA n a
  | .inr (_, fs) => ∀ v ∈ fs, z_ok n v
def z_ws (ad : Nat → Nat) (cA : FieldType → ClassId) (S : zS) : va_W := (List.range S.1).map fun i => (ad i, z_trC ad cA (S.2.2 i))
def z_put (S : zS) (i : Nat) (c : zC) : zS := (S.1, S.2.1, va_up S.2.2 i c)
def z_new (S : zS) (c : zC) (k : Nat) : zS := (S.1 + 1, S.2.1 + k, va_up S.2.2 S.1 c)
def z_lt (ad : Nat → Nat) (lv : zL) : zL := lv.map fun q => (q.1, z_tr ad q.2)
theorem z_ok_int {n : Nat} {x : Int32} : z_ok n (.int x) ↔ True := Iff.rfl
theorem z_ok_long {n : Nat} {x : Int64} : z_ok n (.long x) ↔ True := Iff.rfl
theorem z_ok_null {n : Nat} : z_ok n .null ↔ True := Iff.rfl
theorem z_ok_ref {n i : Nat} : z_ok n (.ref i) ↔ i < n := Iff.rfl
theorem z_ok_mono {n k : Nat} (h : n ≤ k) {v : Value} (hv : z_ok n v) : z_ok k v := by
  cases v <;> first | trivial | exact Nat.lt_of_lt_of_le hv h
theorem z_tr_new {ad ad' : Nat → Nat} {n : Nat} (h : ∀ i, i < n → ad' i = ad i) {v : Value} (hv : z_ok n v) : z_tr ad' v = z_tr ad v := by
  cases v <;> first | rfl | exact congrArg Value.ref (h _ hv)
theorem z_trs_new {ad ad' : Nat → Nat} {n : Nat} (h : ∀ i, i < n → ad' i = ad i) {st : List Value} (hv : ∀ v ∈ st, z_ok n v) : st.map (z_tr ad') = st.map (z_tr ad) := List.map_congr_left fun v hm => z_tr_new h (hv v hm)
theorem z_lt_new {ad ad' : Nat → Nat} {n : Nat} (h : ∀ i, i < n → ad' i = ad i) {lv : zL} (hv : ∀ q ∈ lv, z_ok n q.2) : z_lt ad' lv = z_lt ad lv := List.map_congr_left fun q hm => by rw [z_tr_new h (hv q hm)]
theorem z_okC_mono {n k : Nat} (h : n ≤ k) {c : zC} (hc : z_okC n c) : z_okC k c := by
  rcases c with ⟨ty, m, g | g | g | g | g⟩ | ⟨ci, fs⟩ <;> first | trivial | exact fun j i e => Nat.lt_of_lt_of_le (hc j i e) h | exact fun v hv => z_ok_mono h (hc v hv)
theorem z_trC_new {ad ad' : Nat → Nat} {n : Nat} (h : ∀ i, i < n → ad' i = ad i) {cA : FieldType → ClassId} {c : zC} (hc : z_okC n c) : z_trC ad' cA c = z_trC ad cA c := by
  rcases c with ⟨ty, m, g | g | g | g | g⟩ | ⟨ci, fs⟩
  · rfl
  · rfl
  · rfl
  · rfl
  · show (Sum.inl (cA ty, (m, .inr (.inr (.inr (.inr (fun k => (g k).map ad')))))) : va_E) = .inl (cA ty, (m, .inr (.inr (.inr (.inr (fun k => (g k).map ad))))))
    have e : (fun k => (g k).map ad') = (fun k => (g k).map ad) := by
      funext k
      cases hk : g k with
      | none => rfl
      | some i => exact congrArg some (h i (hc k i hk))
    rw [e]
  · show (Sum.inr (ci, fs.map (z_tr ad')) : va_E) = .inr (ci, fs.map (z_tr ad))
    rw [z_trs_new h hc]
theorem z_ws_get {ad : Nat → Nat} {cA : FieldType → ClassId} {S : zS} {i : Nat} (h : i < S.1) : (z_ws ad cA S)[i]? = some (ad i, z_trC ad cA (S.2.2 i)) := by
  simp [z_ws, h]
theorem z_ws_at {ad : Nat → Nat} {cA : FieldType → ClassId} {S : zS} {k : Nat} {q : Nat × va_E} (h : (z_ws ad cA S)[k]? = some q) : k < S.1 ∧ q = (ad k, z_trC ad cA (S.2.2 k)) := by
  have hk : k < S.1 := by
    have := (List.getElem?_eq_some_iff.mp h).1
    simpa [z_ws] using this
  rw [z_ws_get hk] at h
  exact ⟨hk, (Option.some.inj h).symm⟩
theorem z_ws_set {ad : Nat → Nat} {cA : FieldType → ClassId} {S : zS} {i : Nat} {c : zC} : (z_ws ad cA S).set i (ad i, z_trC ad cA c) = z_ws ad cA (z_put S i c) := by
  apply List.ext_getElem?
  intro j
  by_cases hj : j < S.1
  · rw [z_ws_get (S := z_put S i c) hj]
    by_cases e : i = j
    · subst e
      rw [List.getElem?_set_self (by simpa [z_ws] using hj)]
      simp [z_put, va_up]
    · rw [List.getElem?_set_ne e, z_ws_get hj]
      simp [z_put, va_up, Ne.symm e]
  · rw [List.getElem?_eq_none (by simpa [z_ws] using Nat.le_of_not_lt hj), List.getElem?_eq_none (by simpa [z_ws, z_put] using Nat.le_of_not_lt hj)]
theorem z_ws_new {ad : Nat → Nat} {cA : FieldType → ClassId} {S : zS} {c : zC} {k q : Nat} (hok : ∀ i, i < S.1 → z_okC S.1 (S.2.2 i)) : z_ws ad cA S ++ [(q, z_trC (va_up ad S.1 q) cA c)] = z_ws (va_up ad S.1 q) cA (z_new S c k) := by
  have hn : ∀ i, i < S.1 → va_up ad S.1 q i = ad i := fun i hi => va_up_ne _ _ (Nat.ne_of_lt hi)
  show _ = (List.range (S.1 + 1)).map _
  rw [List.range_succ, List.map_append]
  congr 1
  · apply List.map_congr_left
    intro i hi
    have hi' : i < S.1 := List.mem_range.mp hi
    rw [hn i hi']
    show _ = (ad i, z_trC (va_up ad S.1 q) cA (va_up S.2.2 S.1 c i))
    rw [va_up_ne _ _ (Nat.ne_of_lt hi'), z_trC_new hn (hok i hi')]
  · show _ = [(va_up ad S.1 q S.1, z_trC (va_up ad S.1 q) cA (va_up S.2.2 S.1 c S.1))]
    rw [va_up_self, va_up_self]
def z_Cx (D : va_G) (cA : FieldType → ClassId) (d : Nat) (M : zM) (p : Program) (R : Room) (s : State) (m : MethodId) (args : Array Value) (meth : Method) (c : Code) (A : Nat → Prop) : Prop :=
  p.tables.exec = Jvm.exec ∧ c.code = M.2.1 ∧ meth.sig.returnType = M.2.2.2 ∧ c.maxLocals = M.2.2.1 ∧ s.vm.findClass M.1.cls = some m.cls ∧ (∀ w ∈ z_tb, w.before args s = true) ∧ (∀ w ∈ z_nb, va_Nw w s) ∧ meth.locks = false ∧ (M.1.name = "<init>" → meth.name = "<init>") ∧ R.frames = d ∧ R.locals = 40 * d ∧
  (∀ (k : Nat) (q : vw_C), vwCl[k]? = some q → u_Kn s q.1 q.2.1 q.2.2 (D.1 k) (D.2 k)) ∧ (∀ (ty : FieldType) (k : ClassId), s.vm.findClass ("[" ++ ty.toString) = some k → cA ty = k) ∧ ∀ q, s.heap.size ≤ q → A q
def z_In (D : va_G) (cA : FieldType → ClassId) (ad : Nat → Nat) (S : zS) (s : State) (A : Nat → Prop) (H : Heap) : Prop :=
  va_P D vwCl (z_ws ad cA S) H ∧ va_D A (z_ws ad cA S) ∧ (∀ i, i < S.1 → z_okC S.1 (S.2.2 i)) ∧ ∀ i, i < S.1 → ∀ (ty : FieldType) (a : vp_A), S.2.2 i = .inl (ty, a) → ArrOfT s (cA ty) ty ∧ va_RA s (cA ty) ty
def z_Fr (M : zM) (ad : Nat → Nat) (A : Nat → Prop) (S : zS) (lv : zL) (st : List Value) (s : State) (H : Heap) (locs : List Loc) (ls : Array Slot) : Prop :=
  va_S A s.heap H locs ∧ lv_has ls M.2.2.1 (z_lt ad lv) ∧ (∀ q ∈ lv, z_ok S.1 q.2) ∧ ∀ v ∈ st, z_ok S.1 v
def z_Sem (l : Launch) (D : va_G) : zX := fun d M pc lv st S o => (S.1 ≤ o.2.2.2.1 ∧ S.2.1 ≤ o.2.2.2.2.1) ∧
  ∀ (p : Program) (e : Env) (R : Room) (s : State) (m : MethodId) (args : Array Value) (below : List Frame) (meth : Method) (c : Code) (cA : FieldType → ClassId) (A : Nat → Prop) (ad : Nat → Nat) (H : Heap) (locs : List Loc) (ls : Array Slot) (cells slots : Nat) (Q : State → Prop),
    z_Cx D cA d M p R s m args meth c A → z_In D cA ad S s A H → z_Fr M ad A S lv st s H locs ls → cells + (o.2.2.2.1 - S.1) ≤ R.cells → slots + (o.2.2.2.2.1 - S.2.1) ≤ R.slots →
    (∀ (ad' : Nat → Nat) (H' : Heap) (locs' : List Loc) (ls' : Array Slot), (∀ i, i < S.1 → ad' i = ad i) → z_In D cA ad' o.2.2.2 s A H' → z_Fr M ad' A o.2.2.2 o.2.1 o.2.2.1 s H' locs' ls' → W p l e R s m args below meth c H' locs' (cells + (o.2.2.2.1 - S.1)) (slots + (o.2.2.2.2.1 - S.2.1)) Q (F0 m o.1 ls' (o.2.2.1.map (z_tr ad')))) →
    W p l e R s m args below meth c H locs cells slots Q (F0 m pc ls (st.map (z_tr ad)))
/-- a step that changes neither the cells nor the locals -/
theorem z_loc {l : Launch} {D : va_G} {d : Nat} {M : zM} {pc pc' : Nat} {lv : zL} {st st' : List Value} {S : zS} {o : zO} (h : z_Sem l D d M pc' lv st' S o) (hok : ∀ n, (∀ q ∈ lv, z_ok n q.2) → (∀ v ∈ st, z_ok n v) → ∀ v ∈ st', z_ok n v)
    (hw : ∀ {p : Program} {e : Env} {R : Room} {s : State} {m : MethodId} {args : Array Value} {below : List Frame} {meth : Method} {c : Code} {cA : FieldType → ClassId} {A : Nat → Prop} {ad : Nat → Nat} {H : Heap} {locs : List Loc} {ls : Array Slot} {cells slots : Nat} {Q : State → Prop}, z_Cx D cA d M p R s m args meth c A → lv_has ls M.2.2.1 (z_lt ad lv) → cells ≤ R.cells → slots ≤ R.slots → W p l e R s m args below meth c H locs cells slots Q (F0 m pc' ls (st'.map (z_tr ad))) → W p l e R s m args below meth c H locs cells slots Q (F0 m pc ls (st.map (z_tr ad)))) : z_Sem l D d M pc lv st S o :=
  ⟨h.1, fun p e R s m args below meth c cA A ad H locs ls cells slots Q C I F hc hs k => hw C F.2.1 (Nat.le_trans (Nat.le_add_right _ _) hc) (Nat.le_trans (Nat.le_add_right _ _) hs) (h.2 p e R s m args below meth c cA A ad H locs ls cells slots Q C I ⟨F.1, F.2.1, F.2.2.1, hok _ F.2.2.1 F.2.2.2⟩ hc hs k)⟩
/-- a step that changes the locals -/
theorem z_sto {l : Launch} {D : va_G} {d : Nat} {M : zM} {pc pc' : Nat} {lv lv' : zL} {st st' : List Value} {S : zS} {o : zO} (h : z_Sem l D d M pc' lv' st' S o) (hok : ∀ n, (∀ q ∈ lv, z_ok n q.2) → (∀ v ∈ st, z_ok n v) → (∀ q ∈ lv', z_ok n q.2) ∧ ∀ v ∈ st', z_ok n v)
    (hw : ∀ {p : Program} {e : Env} {R : Room} {s : State} {m : MethodId} {args : Array Value} {below : List Frame} {meth : Method} {c : Code} {cA : FieldType → ClassId} {A : Nat → Prop} {ad : Nat → Nat} {H : Heap} {locs : List Loc} {ls : Array Slot} {cells slots : Nat} {Q : State → Prop}, z_Cx D cA d M p R s m args meth c A → lv_has ls M.2.2.1 (z_lt ad lv) → (∀ ls' : Array Slot, lv_has ls' M.2.2.1 (z_lt ad lv') → W p l e R s m args below meth c H locs cells slots Q (F0 m pc' ls' (st'.map (z_tr ad)))) → W p l e R s m args below meth c H locs cells slots Q (F0 m pc ls (st.map (z_tr ad)))) : z_Sem l D d M pc lv st S o :=
  ⟨h.1, fun p e R s m args below meth c cA A ad H locs ls cells slots Q C I F hc hs k => hw C F.2.1 (fun ls' hl => h.2 p e R s m args below meth c cA A ad H locs ls' cells slots Q C I ⟨F.1, hl, (hok _ F.2.2.1 F.2.2.2).1, (hok _ F.2.2.1 F.2.2.2).2⟩ hc hs k)⟩
/-- a step that branches -/
theorem z_br {l : Launch} {D : va_G} {d : Nat} {M : zM} {pc pc1 pc2 : Nat} {lv : zL} {st st' : List Value} {S : zS} {o : zO} {b : Prop} (h1 : b → z_Sem l D d M pc1 lv st' S o) (h2 : ¬ b → z_Sem l D d M pc2 lv st' S o) (hok : ∀ n, (∀ v ∈ st, z_ok n v) → ∀ v ∈ st', z_ok n v)
    (hw : ∀ {p : Program} {e : Env} {R : Room} {s : State} {m : MethodId} {args : Array Value} {below : List Frame} {meth : Method} {c : Code} {cA : FieldType → ClassId} {A : Nat → Prop} {ad : Nat → Nat} {H : Heap} {locs : List Loc} {ls : Array Slot} {cells slots : Nat} {Q : State → Prop}, z_Cx D cA d M p R s m args meth c A → (b → W p l e R s m args below meth c H locs cells slots Q (F0 m pc1 ls (st'.map (z_tr ad)))) → (¬ b → W p l e R s m args below meth c H locs cells slots Q (F0 m pc2 ls (st'.map (z_tr ad)))) → W p l e R s m args below meth c H locs cells slots Q (F0 m pc ls (st.map (z_tr ad)))) : z_Sem l D d M pc lv st S o :=
  ⟨by by_cases hb : b; exact (h1 hb).1; exact (h2 hb).1, fun p e R s m args below meth c cA A ad H locs ls cells slots Q C I F hc hs k => hw C (fun hb => (h1 hb).2 p e R s m args below meth c cA A ad H locs ls cells slots Q C I ⟨F.1, F.2.1, F.2.2.1, hok _ F.2.2.2⟩ hc hs k) (fun hb => (h2 hb).2 p e R s m args below meth c cA A ad H locs ls cells slots Q C I ⟨F.1, F.2.1, F.2.2.1, hok _ F.2.2.2⟩ hc hs k)⟩
theorem z_lt_mem {ad : Nat → Nat} {lv : zL} {i : Nat} {v : Value} (h : (i, v) ∈ lv) : (i, z_tr ad v) ∈ z_lt ad lv := List.mem_map.mpr ⟨(i, v), h, rfl⟩
theorem z_ld {ls : Array Slot} {nL : Nat} {ad : Nat → Nat} {lv : zL} {i : Nat} {v : Value} (hl : lv_has ls nL (z_lt ad lv)) (h : (i, v) ∈ lv) : ls[i]? = some (.val (z_tr ad v)) := hl.2.2 (i, z_tr ad v) (z_lt_mem h)
theorem z_cat {ad : Nat → Nat} (v : Value) : (z_tr ad v).category = v.category := by cases v <;> rfl
def z_k1 (i : Nat) (lv : zL) : zL := lv.filter (fun q => !(q.1 == i) && !(q.1 + 1 == i && q.2.category == 2))
def z_k2 (i : Nat) (lv : zL) : zL := lv.filter (fun q => !(q.1 == i) && (!(q.1 == i + 1) && !(q.1 + 1 == i && q.2.category == 2)))
theorem z_k1_lt {ad : Nat → Nat} {i : Nat} {lv : zL} : (z_lt ad lv).filter (fun q => !(q.1 == i) && !(q.1 + 1 == i && q.2.category == 2)) = z_lt ad (z_k1 i lv) := by
  unfold z_lt z_k1
  rw [List.filter_map]
  congr 1
  apply List.filter_congr
  intro q _
  simp [z_cat]
theorem z_k2_lt {ad : Nat → Nat} {i : Nat} {lv : zL} : (z_lt ad lv).filter (fun q => !(q.1 == i) && (!(q.1 == i + 1) && !(q.1 + 1 == i && q.2.category == 2))) = z_lt ad (z_k2 i lv) := by
  unfold z_lt z_k2
  rw [List.filter_map]
  congr 1
  apply List.filter_congr
  intro q _
  simp [z_cat]
theorem z_k1_ok {n i : Nat} {lv : zL} (h : ∀ q ∈ lv, z_ok n q.2) : ∀ q ∈ z_k1 i lv, z_ok n q.2 := fun q hq => h q (List.mem_filter.mp hq).1
theorem z_k2_ok {n i : Nat} {lv : zL} (h : ∀ q ∈ lv, z_ok n q.2) : ∀ q ∈ z_k2 i lv, z_ok n q.2 := fun q hq => h q (List.mem_filter.mp hq).1

theorem z_cls_ok {ci : Nat} {r : vw_C} (h : vwCl[ci]? = some r) : z_clB r = true := List.all_eq_true.mp z_cl_B r (List.mem_of_getElem? h)
theorem z_cls_in {ci : Nat} {r : vw_C} (h : vwCl[ci]? = some r) : ∀ w ∈ u_ws r.1 r.2.1 r.2.2, w ∈ z_tb := by
  have h1 := z_cls_ok h
  simp only [z_clB, Bool.and_eq_true] at h1
  intro w hw
  exact of_decide_eq_true (List.all_eq_true.mp h1.2 w hw)
theorem z_cls_nm {ci : Nat} {r : vw_C} (h : vwCl[ci]? = some r) : ∀ a, a < r.2.2 → ∀ b, b < r.2.2 → a ≠ b → (r.2.1 a).2.1 ≠ (r.2.1 b).2.1 := by
  have h1 := z_cls_ok h
  simp only [z_clB, Bool.and_eq_true] at h1
  intro a ha b hb hne
  have h2 := List.all_eq_true.mp (List.all_eq_true.mp h1.1.2 a (List.mem_range.mpr ha)) b (List.mem_range.mpr hb)
  simp only [Bool.or_eq_true, decide_eq_true_eq] at h2
  exact h2.resolve_left hne
def z_ft (r : vw_C) (k : Nat) : FieldType := (parseFieldDescriptor (r.2.1 k).2.2.1).getD .int
theorem z_cls_ty {ci : Nat} {r : vw_C} (h : vwCl[ci]? = some r) : ∀ k, k < r.2.2 → parseFieldDescriptor (r.2.1 k).2.2.1 = some (z_ft r k) := by
  have h1 := z_cls_ok h
  simp only [z_clB, Bool.and_eq_true] at h1
  intro k hk
  have h2 := List.all_eq_true.mp h1.1.1 k (List.mem_range.mpr hk)
  unfold z_ft
  cases hp : parseFieldDescriptor (r.2.1 k).2.2.1 with
  | none => rw [hp] at h2; cases h2
  | some t => rfl
theorem z_narrow {ad : Nat → Nat} {ty : FieldType} {v : Value} (h : narrow ty v = v) : narrow ty (z_tr ad v) = z_tr ad v := by
  cases v <;> first | exact h | (cases ty <;> rfl)
theorem z_fits {ad : Nat → Nat} {ty : FieldType} {v : Value} (h : fits ty v = true) : fits ty (z_tr ad v) = true := by
  cases v <;> first | exact h | (cases ty <;> first | rfl | exact h)
theorem z_rf {ad : Nat → Nat} (r : Option Nat) : z_tr ad (va_rf r) = va_rf (r.map ad) := by cases r <;> rfl
/-- the cells of a store, one of them changed -/
theorem z_In_put {D : va_G} {cA : FieldType → ClassId} {ad : Nat → Nat} {S : zS} {s : State} {A : Nat → Prop} {H H1 : Heap} {i : Nat} {c : zC} (I : z_In D cA ad S s A H) (hP : va_P D vwCl ((z_ws ad cA S).set i (ad i, z_trC ad cA c)) H1) (hD : va_D A ((z_ws ad cA S).set i (ad i, z_trC ad cA c))) (hok : z_okC S.1 c) (hty : ∀ ty a, c = .inl (ty, a) → ArrOfT s (cA ty) ty ∧ va_RA s (cA ty) ty) : z_In D cA ad (z_put S i c) s A H1 := by
  rw [z_ws_set] at hP hD
  refine ⟨hP, hD, fun j hj => ?_, fun j hj ty a he => ?_⟩
  · show z_okC S.1 (va_up S.2.2 i c j)
    by_cases e : j = i
    · subst e; rw [va_up_self]; exact hok
    · rw [va_up_ne _ _ e]; exact I.2.2.1 j hj
  · have he : va_up S.2.2 i c j = .inl (ty, a) := he
    by_cases e : j = i
    · subst e; rw [va_up_self] at he; exact hty ty a he
    · rw [va_up_ne _ _ e] at he; exact I.2.2.2 j hj ty a he
/-- a cell more -/
theorem z_In_new {D : va_G} {cA : FieldType → ClassId} {ad : Nat → Nat} {S : zS} {s : State} {A : Nat → Prop} {H H1 : Heap} {c : zC} {k q : Nat} (I : z_In D cA ad S s A H) (hP : va_P D vwCl (z_ws ad cA S ++ [(q, z_trC (va_up ad S.1 q) cA c)]) H1) (hD : va_D A (z_ws ad cA S ++ [(q, z_trC (va_up ad S.1 q) cA c)])) (hok : z_okC (S.1 + 1) c) (hty : ∀ ty a, c = .inl (ty, a) → ArrOfT s (cA ty) ty ∧ va_RA s (cA ty) ty) : z_In D cA (va_up ad S.1 q) (z_new S c k) s A H1 := by
  rw [z_ws_new (k := k) I.2.2.1] at hP hD
  refine ⟨hP, hD, fun j hj => ?_, fun j hj ty a he => ?_⟩
  · show z_okC (S.1 + 1) (va_up S.2.2 S.1 c j)
    have hj : j < S.1 + 1 := hj
    by_cases e : j = S.1
    · subst e; rw [va_up_self]; exact hok
    · rw [va_up_ne _ _ e]; exact z_okC_mono (Nat.le_succ _) (I.2.2.1 j (by omega))
  · have he : va_up S.2.2 S.1 c j = .inl (ty, a) := he
    have hj : j < S.1 + 1 := hj
    by_cases e : j = S.1
    · subst e; rw [va_up_self] at he; exact hty ty a he
    · rw [va_up_ne _ _ e] at he; exact I.2.2.2 j (by omega) ty a he
theorem z_Fr_put {M : zM} {ad : Nat → Nat} {A : Nat → Prop} {S : zS} {lv : zL} {st st' : List Value} {s : State} {H H1 : Heap} {locs locs1 : List Loc} {ls : Array Slot} {i : Nat} {c : zC} (F : z_Fr M ad A S lv st s H locs ls) (hS : va_S A s.heap H1 locs1) (hst : ∀ v ∈ st', z_ok S.1 v) : z_Fr M ad A (z_put S i c) lv st' s H1 locs1 ls := ⟨hS, F.2.1, F.2.2.1, hst⟩
theorem z_up_lt {ad : Nat → Nat} {n q : Nat} : ∀ i, i < n → va_up ad n q i = ad i := fun _ h => va_up_ne _ _ (Nat.ne_of_lt h)
theorem z_Fr_new {M : zM} {ad : Nat → Nat} {A : Nat → Prop} {S : zS} {lv : zL} {st st' : List Value} {s : State} {H H1 : Heap} {locs locs1 : List Loc} {ls : Array Slot} {q k : Nat} {c : zC} (F : z_Fr M ad A S lv st s H locs ls) (hS : va_S A s.heap H1 locs1) (hst : ∀ v ∈ st', z_ok (S.1 + 1) v) : z_Fr M (va_up ad S.1 q) A (z_new S c k) lv st' s H1 locs1 ls :=
  ⟨hS, by rw [z_lt_new z_up_lt F.2.2.1]; exact F.2.1, fun q hq => z_ok_mono (Nat.le_succ _) (F.2.2.1 q hq), hst⟩
theorem z_K {D : va_G} {cA : FieldType → ClassId} {d : Nat} {M : zM} {p : Program} {R : Room} {s : State} {m : MethodId} {args : Array Value} {meth : Method} {c : Code} {A : Nat → Prop} (C : z_Cx D cA d M p R s m args meth c A) : va_K D vwCl [] s := ⟨C.2.2.2.2.2.2.2.2.2.2.2.1, fun k q h => by simp at h⟩
theorem z_K1 {D : va_G} {cA : FieldType → ClassId} {d : Nat} {M : zM} {p : Program} {R : Room} {s : State} {m : MethodId} {args : Array Value} {meth : Method} {c : Code} {A : Nat → Prop} (C : z_Cx D cA d M p R s m args meth c A) {ty : FieldType} (h : ArrOfT s (cA ty) ty ∧ va_RA s (cA ty) ty) : va_K D vwCl [(cA ty, ty)] s := ⟨C.2.2.2.2.2.2.2.2.2.2.2.1, fun k q hq => by
  have hz : k < 1 := (List.getElem?_eq_some_iff.mp hq).1
  rw [show k = 0 by omega] at hq
  cases hq
  exact h⟩
/-- the semantics at a step that puts a cell -/
theorem z_stp {l : Launch} {D : va_G} {d : Nat} {M : zM} {pc pc' : Nat} {lv : zL} {st st' : List Value} {S : zS} {o : zO} {i : Nat} {c' : zC} (h : z_Sem l D d M pc' lv st' (z_put S i c') o) (hok : ∀ n, (∀ v ∈ st, z_ok n v) → ∀ v ∈ st', z_ok n v)
    (hw : ∀ {p : Program} {e : Env} {R : Room} {s : State} {m : MethodId} {args : Array Value} {below : List Frame} {meth : Method} {c : Code} {cA : FieldType → ClassId} {A : Nat → Prop} {ad : Nat → Nat} {H : Heap} {locs : List Loc} {ls : Array Slot} {cells slots : Nat} {Q : State → Prop}, z_Cx D cA d M p R s m args meth c A → z_In D cA ad S s A H → z_Fr M ad A S lv st s H locs ls → (∀ (H1 : Heap) (locs1 : List Loc), z_In D cA ad (z_put S i c') s A H1 → va_S A s.heap H1 locs1 → W p l e R s m args below meth c H1 locs1 cells slots Q (F0 m pc' ls (st'.map (z_tr ad)))) → W p l e R s m args below meth c H locs cells slots Q (F0 m pc ls (st.map (z_tr ad)))) : z_Sem l D d M pc lv st S o :=
  ⟨h.1, fun p e R s m args below meth c cA A ad H locs ls cells slots Q C I F hc hs k => hw C I F (fun H1 locs1 I1 hS => h.2 p e R s m args below meth c cA A ad H1 locs1 ls cells slots Q C I1 (z_Fr_put F hS (hok _ F.2.2.2)) hc hs (fun ad' H' locs' ls' ha I' F' => k ad' H' locs' ls' ha I' F'))⟩
/-- at a step that makes a cell -/
theorem z_stn {l : Launch} {D : va_G} {d : Nat} {M : zM} {pc pc' : Nat} {lv : zL} {st st' : List Value} {S : zS} {o : zO} {n9 : Nat} {c' : zC} (h : z_Sem l D d M pc' lv st' (z_new S c' n9) o) (hok : (∀ v ∈ st, z_ok S.1 v) → ∀ v ∈ st', z_ok (S.1 + 1) v)
    (hw : ∀ {p : Program} {e : Env} {R : Room} {s : State} {m : MethodId} {args : Array Value} {below : List Frame} {meth : Method} {c : Code} {cA : FieldType → ClassId} {A : Nat → Prop} {ad : Nat → Nat} {H : Heap} {locs : List Loc} {ls : Array Slot} {cells slots : Nat} {Q : State → Prop}, z_Cx D cA d M p R s m args meth c A → z_In D cA ad S s A H → z_Fr M ad A S lv st s H locs ls → cells + 1 ≤ R.cells → slots + n9 ≤ R.slots → (∀ (q : Nat) (H1 : Heap), z_In D cA (va_up ad S.1 q) (z_new S c' n9) s A H1 → va_S A s.heap H1 locs → W p l e R s m args below meth c H1 locs (cells + 1) (slots + n9) Q (F0 m pc' ls (st'.map (z_tr (va_up ad S.1 q))))) → W p l e R s m args below meth c H locs cells slots Q (F0 m pc ls (st.map (z_tr ad)))) : z_Sem l D d M pc lv st S o := by
  have h1 : S.1 + 1 ≤ o.2.2.2.1 := h.1.1
  have h2 : S.2.1 + n9 ≤ o.2.2.2.2.1 := h.1.2
  refine ⟨⟨by omega, by omega⟩, fun p e R s m args below meth c cA A ad H locs ls cells slots Q C I F hc hs k => hw C I F (by omega) (by omega) (fun q H1 I1 hS => ?_)⟩
  have e1 : cells + 1 + (o.2.2.2.1 - (S.1 + 1)) = cells + (o.2.2.2.1 - S.1) := by omega
  have e2 : slots + n9 + (o.2.2.2.2.1 - (S.2.1 + n9)) = slots + (o.2.2.2.2.1 - S.2.1) := by omega
  refine h.2 p e R s m args below meth c cA A _ H1 locs ls (cells + 1) (slots + n9) Q C I1 (z_Fr_new F hS (hok F.2.2.2)) (by show cells + 1 + (o.2.2.2.1 - (S.1 + 1)) ≤ _; omega) (by show slots + n9 + (o.2.2.2.2.1 - (S.2.1 + n9)) ≤ _; omega) (fun ad' H' locs' ls' ha I' F' => ?_)
  have w := k ad' H' locs' ls' (fun i hi => (ha i (Nat.lt_succ_of_lt hi)).trans (z_up_lt i hi)) I' F'
  show W p l e R s m args below meth c H' locs' (cells + 1 + (o.2.2.2.1 - (S.1 + 1))) (slots + n9 + (o.2.2.2.2.1 - (S.2.1 + n9))) Q _
  rw [e1, e2]
  exact w

theorem z_In_mv {D : va_G} {cA : FieldType → ClassId} {ad : Nat → Nat} {S : zS} {u U : State} {A : Nat → Prop} {H : Heap} (hvm : u.vm.Alike U.vm) (I : z_In D cA ad S u A H) : z_In D cA ad S U A H := ⟨I.1, I.2.1, I.2.2.1, fun i hi ty a he => ⟨arrOfT_moved hvm (I.2.2.2 i hi ty a he).1, (I.2.2.2 i hi ty a he).2.moved hvm⟩⟩
theorem z_In_A {D : va_G} {cA : FieldType → ClassId} {ad : Nat → Nat} {S : zS} {s : State} {A A' : Nat → Prop} {H : Heap} (I : z_In D cA ad S s A H) (h : ∀ q, A q → A' q) : z_In D cA ad S s A' H := ⟨I.1, I.2.1.weaken (fun _ q _ hq => h _ hq), I.2.2.1, I.2.2.2⟩
/-- what a callee is given -/
def z_Wd (D : va_G) (cA : FieldType → ClassId) (ad : Nat → Nat) (S : zS) (sz : Nat) (U : State) : Prop := U.heap.size = sz ∧ z_In D cA ad S U (va_A (z_ws ad cA S) sz) U.heap ∧ (∀ w ∈ z_nb, va_Nw w U) ∧ (∀ (k : Nat) (q : vw_C), vwCl[k]? = some q → u_Kn U q.1 q.2.1 q.2.2 (D.1 k) (D.2 k)) ∧ ∀ (ty : FieldType) (k : ClassId), U.vm.findClass ("[" ++ ty.toString) = some k → cA ty = k
def z_w (M : zM) : List Cond := Cond.code M.1 M.2.1 M.2.2.1 M.2.2.2 :: z_tb
def z_rm (d mc ms : Nat) : Room := { frames := d, cells := mc, slots := ms, locals := 40 * d }
def z_Qc (D : va_G) (cA : FieldType → ClassId) (ad : Nat → Nat) (S S1 : zS) (sz : Nat) (r : Option Value) : Array Value → State → Outcome → State → Prop := fun _ st oc t => ∃ ad' : Nat → Nat, (∀ i, i < S.1 → ad' i = ad i) ∧ oc = .returned (r.map (z_tr ad')) ∧ (∀ v ∈ r, z_ok S1.1 v) ∧ z_In D cA ad' S1 t (va_A (z_ws ad cA S) sz) t.heap ∧ va_F (va_A (z_ws ad cA S) sz) st t
/-- a method's end, with its answer -/
def z_rt (M : zM) (pc : Nat) (st : List Value) (r : Option Value) : Prop := (decode M.2.1 pc = .ok (.return_, 1) ∧ M.2.2.2 = none ∧ st = [] ∧ r = none) ∨ (decode M.2.1 pc = .ok (.ireturn, 1) ∧ ∃ (x : Int32) (ty : FieldType), M.2.2.2 = some ty ∧ narrow ty (.int x) = .int x ∧ st = [.int x] ∧ r = some (.int x)) ∨ (decode M.2.1 pc = .ok (.lreturn, 1) ∧ ∃ x : Int64, M.2.2.2 = some .long ∧ st = [.long x] ∧ r = some (.long x)) ∨ (decode M.2.1 pc = .ok (.areturn, 1) ∧ ∃ (v : Value) (rt : FieldType), M.2.2.2 = some rt ∧ ((∃ n, rt = .object n) ∨ ∃ t, rt = .array t) ∧ (v = .null ∨ ∃ a, v = .ref a) ∧ st = [v] ∧ r = some v)
theorem z_args {ad : Nat → Nat} : ∀ (as : List Value) (i : Nat), lv_args i (as.map (z_tr ad)) = z_lt ad (lv_args i as)
  | [], _ => rfl
  | v :: as, i => by
    show (i, z_tr ad v) :: lv_args (if (z_tr ad v).category = 2 then i + 2 else i + 1) (as.map (z_tr ad)) = (i, z_tr ad v) :: z_lt ad (lv_args (if v.category = 2 then i + 2 else i + 1) as)
    rw [z_cat, z_args as]
theorem z_args_ok {n : Nat} : ∀ (as : List Value) (i : Nat), (∀ v ∈ as, z_ok n v) → ∀ q ∈ lv_args i as, z_ok n q.2
  | [], _, _ => fun q h => by cases h
  | v :: as, i, h => fun q hq => by
    rcases List.mem_cons.mp hq with rfl | hq
    · exact h v List.mem_cons_self
    · exact z_args_ok as _ (fun u hu => h u (List.mem_cons_of_mem _ hu)) q hq
theorem z_sl {ad : Nat → Nat} (as : List Value) : (lg_sl (as.map (z_tr ad))).length = (lg_sl as).length := by
  induction as with
  | nil => rfl
  | cons v as ih =>
    simp only [lg_sl, List.map_cons, List.flatMap_cons, List.length_append, z_cat] at ih ⊢
    rw [ih]
    congr 1
    by_cases h : v.category = 2 <;> simp [h]
theorem z_met {l : Launch} {D : va_G} {cA : FieldType → ClassId} {ad : Nat → Nat} {d : Nat} {M : zM} {as st' : List Value} {lv' : zL} {S S1 : zS} {pc' sz : Nat} {r : Option Value} (h : z_Sem l D d M 0 (lv_args 0 as) [] S (pc', lv', st', S1)) (hrt : z_rt M pc' st' r) (hok : ∀ v ∈ as, z_ok S.1 v) (hfit : (lg_sl as).length ≤ M.2.2.1) (hpl : plainName M.1.cls = true) :
    Met l M.1 (z_w M) (z_rm d (S1.1 - S.1) (S1.2.1 - S.2.1)) (va_Pc (as.map (z_tr ad)) (z_Wd D cA ad S sz)) (z_Qc D cA ad S S1 sz r) (S1.1 - S.1) (S1.2.1 - S.2.1) (va_A (z_ws ad cA S) sz) := by
  refine Met.ofW (cc := M.2.1) (maxL := M.2.2.1) (ret := M.2.2.2) hpl rfl ?_
  intro p e s m args below meth c s₁ B hml hv
  obtain ⟨rfl, hsz, I, hnw, hkn, hcA⟩ := hv
  have hts := atoms_spec (ws := z_w M) B.pre
  have hr := B.returns
  have hlocks := B.notSynchronized
  subst hsz
  have C : z_Cx D cA d M p (z_rm d (S1.1 - S.1) (S1.2.1 - S.2.1)) s m ((as.map (z_tr ad)).toArray) meth c (va_A (z_ws ad cA S) s.heap.size) :=
    ⟨B.exec, B.bytes, hr, hml, findClass_of_methodNamed B.named, fun w hw => hts w (List.mem_cons_of_mem _ hw), hnw, hlocks, fun hn => (name_of_methodNamed B.named B.method).1.trans hn, rfl, rfl, hkn, hcA, fun q hq => Or.inr hq⟩
  have hl := lv_entry (as.map (z_tr ad)) (n := M.2.2.1) (by rw [z_sl]; exact hfit)
  rw [lg_entry_eq]
  generalize (lg_sl (as.map (z_tr ad)) ++ List.replicate (M.2.2.1 - (lg_sl (as.map (z_tr ad))).length) Slot.unset).toArray = ls at hl ⊢
  rw [z_args] at hl
  refine h.2 p e _ s m _ below meth c cA _ ad s.heap [] ls 0 0 _ C I ⟨va_S.rf, hl, z_args_ok as 0 hok, fun v hv => by cases hv⟩ (by show 0 + (S1.1 - S.1) ≤ S1.1 - S.1; omega) (by show 0 + (S1.2.1 - S.2.1) ≤ S1.2.1 - S.2.1; omega) (fun ad' H' locs' ls' ha I' F' => ?_)
  show W p l e _ s m _ below meth c H' locs' (0 + (S1.1 - S.1)) (0 + (S1.2.1 - S.2.1)) _ (F0 m pc' ls' (st'.map (z_tr ad')))
  rw [Nat.zero_add, Nat.zero_add]
  have hq : ∀ t : State, t.heap = H' → s.WarmedH t.vm → (∀ v ∈ r, z_ok S1.1 v) → z_Qc D cA ad S S1 s.heap.size r ((as.map (z_tr ad)).toArray) s (.returned (r.map (z_tr ad'))) t := fun t ht hW hrk => ⟨ad', ha, rfl, hrk, by rw [ht]; exact z_In_mv hW.alike I', F'.1.F ht⟩
  have hst := F'.2.2.2
  rcases hrt with ⟨hd, hM, rfl, rfl⟩ | ⟨hd, x, ty, hM, hn, rfl, rfl⟩ | ⟨hd, x, hM, rfl, rfl⟩ | ⟨hd, v, rt, hM, ht1, hv, rfl, rfl⟩
  · exact W.vret B.exec B.bytes (hr.trans hM) (fun t ht hW => hq t ht hW (fun v h => by cases h)) F'.1.2.2 hd
  · exact W.zret (ty := ty) B.exec B.bytes (hr.trans hM) hn (fun t ht hW => hq t ht hW (fun v h => by cases h; trivial)) F'.1.2.2 hd
  · exact W.lret B.exec B.bytes (hr.trans hM) (fun t ht hW => hq t ht hW (fun v h => by cases h; trivial)) F'.1.2.2 hd
  · exact W.aret (v := z_tr ad' v) (rt := rt) B.exec B.bytes (hr.trans hM) ht1 (by rcases hv with rfl | ⟨a, rfl⟩; exact Or.inl rfl; exact Or.inr ⟨_, rfl⟩) (fun t ht hW => hq t ht hW (fun u h => by cases h; exact hst _ List.mem_cons_self)) F'.1.2.2 hd
theorem z_blind {D : va_G} {cA : FieldType → ClassId} {ad : Nat → Nat} {S : zS} {sz : Nat} {av : List Value} : FrameBlind (va_Pc av (z_Wd D cA ad S sz)) := by
  intro a U g mk ⟨h0, h1, h2, h3, h4, h5⟩
  refine ⟨h0, h1, z_In_mv (u := U) (U := U.calling g mk a) (Vm.Alike.refl U.vm) h2, fun w hw => va_Nw.same (u := U) ?_ rfl (h3 w hw), fun k q hq => u_Kn_moved (u := U) (U := U.calling g mk a) (Vm.Alike.refl U.vm) (h4 k q hq), h5⟩
  have hn := (List.mem_filter.mp hw).2
  cases w <;> first | rfl | (exfalso; simp [z_isN] at hn; done)
theorem z_wd {D : va_G} {cA : FieldType → ClassId} {d : Nat} {M : zM} {p : Program} {R : Room} {s : State} {m : MethodId} {args : Array Value} {meth : Method} {c : Code} {A : Nat → Prop} {ad : Nat → Nat} {S : zS} {H : Heap} (C : z_Cx D cA d M p R s m args meth c A) (I : z_In D cA ad S s A H) : ∀ U : State, U.heap = H → s.WarmedH U.vm → z_Wd D cA ad S H.size U := by
  intro U hU hW
  refine ⟨by rw [hU], ?_, fun w hw => ?_, fun k q hq => u_Kn_moved hW.alike (C.2.2.2.2.2.2.2.2.2.2.2.1 k q hq), fun ty k hk => C.2.2.2.2.2.2.2.2.2.2.2.2.1 ty k (by rw [hW.alike.findClass] at hk; exact hk)⟩
  · rw [hU]
    exact ⟨I.1, I.2.1.self, I.2.2.1, (z_In_mv hW.alike I).2.2.2⟩
  · have hn := (List.mem_filter.mp hw).2
    have h9 := C.2.2.2.2.2.2.1 w hw
    cases w <;> first | exact va_Nw.warmM hW h9 | exact va_Nw.warmF hW h9 | (exfalso; simp [z_isN] at hn; done)
theorem z_good {M : zM} (h : Cond.code M.1 M.2.1 M.2.2.1 M.2.2.2 ∈ z_tb) : GoodIn z_tb (z_w M) := by
  intro w hw
  have h1 : w ∈ z_tb := by
    rcases List.mem_cons.mp hw with rfl | h9
    · exact h
    · exact h9
  exact ⟨h1, good_of_word (List.mem_filter.mp h1).2⟩
/-- behind a call: the run goes on -/
theorem z_ret {l : Launch} {D : va_G} {d : Nat} {M : zM} {pc : Nat} {lv : zL} {st : List Value} {S S1 : zS} {o : zO} {r : Option Value} {p : Program} {e : Env} {R : Room} {s : State} {m : MethodId} {args : Array Value} {below : List Frame} {meth : Method} {c : Code} {cA : FieldType → ClassId} {A : Nat → Prop} {ad : Nat → Nat} {H : Heap} {locs : List Loc} {ls : Array Slot} {cells slots : Nat} {Q : State → Prop} {g : JFrame} {a9 : Array Value}
    (hg : g = F0 m pc ls g.stack) (C : z_Cx D cA d M p R s m args meth c A) (I : z_In D cA ad S s A H) (hS : va_S A s.heap H locs) (hl : lv_has ls M.2.2.1 (z_lt ad lv)) (hlok : ∀ q ∈ lv, z_ok S.1 q.2) (hst : ∀ v ∈ st, z_ok S.1 v) (hgr : S.1 ≤ S1.1 ∧ S.2.1 ≤ S1.2.1)
    (hr : va_Run p l e R s m args below meth c H locs cells slots (S1.1 - S.1) (S1.2.1 - S.2.1) g (st.map (z_tr ad)) (z_Qc D cA ad S S1 H.size r a9) (va_A (z_ws ad cA S) H.size)) (k : z_Sem l D d M (pc + 3) lv (r.toList ++ st) S1 o) (hc : cells + (o.2.2.2.1 - S.1) ≤ R.cells) (hs : slots + (o.2.2.2.2.1 - S.2.1) ≤ R.slots)
    (K : ∀ (ad' : Nat → Nat) (H' : Heap) (locs' : List Loc) (ls' : Array Slot), (∀ i, i < S.1 → ad' i = ad i) → z_In D cA ad' o.2.2.2 s A H' → z_Fr M ad' A o.2.2.2 o.2.1 o.2.2.1 s H' locs' ls' → W p l e R s m args below meth c H' locs' (cells + (o.2.2.2.1 - S.1)) (slots + (o.2.2.2.2.1 - S.2.1)) Q (F0 m o.1 ls' (o.2.2.1.map (z_tr ad')))) : W p l e R s m args below meth c H locs cells slots Q g := by
  intro T hT X
  obtain ⟨v, st₀, t, T', L, h0, X', hL, e1, e2, ⟨ad', ha, hv, hrk, I1, hz, hkp⟩, stp⟩ := hr T hT X
  cases hv
  rw [h0] at hz hkp
  have hk1 := k.1
  have hsub : ∀ q, va_A (z_ws ad cA S) H.size q → A q := by
    intro q hq
    rcases hq with ⟨j, e9, h⟩ | h
    · exact I.2.1.2 j _ h
    · exact C.2.2.2.2.2.2.2.2.2.2.2.2.2 q (Nat.le_trans hS.1 h)
  have hal : s.vm.Alike t.vm := by rw [← e2]; exact X'.warmed.alike
  have I2 : z_In D cA ad' S1 s A T'.heap := by rw [e1]; exact z_In_A (z_In_mv hal.symm I1) hsub
  have hS2 : va_S A s.heap T'.heap (locs ++ L) := ⟨Nat.le_trans hS.1 (by rw [e1]; exact hz), fun q h1 h2 => by rw [e1, hkp q (Nat.lt_of_lt_of_le h1 hS.1) (fun z => h2 (hsub q z))]; exact hS.2.1 q h1 h2, fun q hq => by
      rcases List.mem_append.mp hq with h | h
      · exact hS.2.2 q h
      · exact hsub _ (hL q h)⟩
  have est : (r.toList ++ st).map (z_tr ad') = (r.map (z_tr ad')).toList ++ st.map (z_tr ad) := by
    rw [List.map_append, z_trs_new ha hst]
    cases r <;> rfl
  have hok2 : ∀ v ∈ r.toList ++ st, z_ok S1.1 v := fun v hv => by
    rcases List.mem_append.mp hv with h | h
    · exact hrk v (by cases r with | none => cases h | some u => have h9 : v = u := (by simpa using h); subst h9; rfl)
    · exact z_ok_mono hgr.1 (hst v h)
  have w := k.2 p e R s m args below meth c cA A ad' T'.heap (locs ++ L) ls (cells + (S1.1 - S.1)) (slots + (S1.2.1 - S.2.1)) Q C I2 ⟨hS2, by rw [z_lt_new ha hlok]; exact hl, fun q hq => z_ok_mono hgr.1 (hlok q hq), hok2⟩ (by omega) (by omega) (fun ad2 H2 locs2 ls2 ha2 I3 F3 => by
    have w9 := K ad2 H2 locs2 ls2 (fun i hi => (ha2 i (Nat.lt_of_lt_of_le hi hgr.1)).trans (ha i hi)) I3 F3
    have q1 : cells + (S1.1 - S.1) + (o.2.2.2.1 - S1.1) = cells + (o.2.2.2.1 - S.1) := by omega
    have q2 : slots + (S1.2.1 - S.2.1) + (o.2.2.2.2.1 - S1.2.1) = slots + (o.2.2.2.2.1 - S.2.1) := by omega
    rw [q1, q2]
    exact w9)
  rw [est] at w
  obtain ⟨t2, a1, b1⟩ := w T' rfl X'
  refine ⟨t2, stp t2 ?_, b1⟩
  rw [hg]
  exact a1

def zk_iconst (X : zX) : Prop := ∀ (d : Nat) (M : zM) (pc : Nat) (lv : zL) (st : List Value) (S : zS) (o : zO) (n : Int), decode M.2.1 pc = .ok (.iconst n, 1) → (X d M (pc + 1) lv (.int (Int32.ofInt n) :: st) S o) → X d M pc lv (st) S o
def zk_bipush (X : zX) : Prop := ∀ (d : Nat) (M : zM) (pc : Nat) (lv : zL) (st : List Value) (S : zS) (o : zO) (n : Int), decode M.2.1 pc = .ok (.bipush n, 2) → (X d M (pc + 2) lv (.int (Int8.ofInt n).toInt32 :: st) S o) → X d M pc lv (st) S o
def zk_sipush (X : zX) : Prop := ∀ (d : Nat) (M : zM) (pc : Nat) (lv : zL) (st : List Value) (S : zS) (o : zO) (n : Int), decode M.2.1 pc = .ok (.sipush n, 3) → (X d M (pc + 3) lv (.int (Int16.ofInt n).toInt32 :: st) S o) → X d M pc lv (st) S o
def zk_lconst (X : zX) : Prop := ∀ (d : Nat) (M : zM) (pc : Nat) (lv : zL) (st : List Value) (S : zS) (o : zO) (n : Fin 2), decode M.2.1 pc = .ok (.lconst n, 1) → (X d M (pc + 1) lv (.long (Int64.ofNat (n : Nat)) :: st) S o) → X d M pc lv (st) S o
def zk_aconst (X : zX) : Prop := ∀ (d : Nat) (M : zM) (pc : Nat) (lv : zL) (st : List Value) (S : zS) (o : zO) , decode M.2.1 pc = .ok (.aconst_null, 1) → (X d M (pc + 1) lv (.null :: st) S o) → X d M pc lv (st) S o
def zk_iload_n (X : zX) : Prop := ∀ (d : Nat) (M : zM) (pc : Nat) (lv : zL) (st : List Value) (S : zS) (o : zO) (j : Fin 4) (x : Int32), decode M.2.1 pc = .ok (.iload_n j, 1) → (((j : Nat), Value.int x) ∈ lv) → (X d M (pc + 1) lv (.int x :: st) S o) → X d M pc lv (st) S o
def zk_iload (X : zX) : Prop := ∀ (d : Nat) (M : zM) (pc : Nat) (lv : zL) (st : List Value) (S : zS) (o : zO) (i : Nat) (x : Int32), decode M.2.1 pc = .ok (.iload i, 2) → ((i, Value.int x) ∈ lv) → (X d M (pc + 2) lv (.int x :: st) S o) → X d M pc lv (st) S o
def zk_lload_n (X : zX) : Prop := ∀ (d : Nat) (M : zM) (pc : Nat) (lv : zL) (st : List Value) (S : zS) (o : zO) (j : Fin 4) (x : Int64), decode M.2.1 pc = .ok (.lload_n j, 1) → (((j : Nat), Value.long x) ∈ lv) → (X d M (pc + 1) lv (.long x :: st) S o) → X d M pc lv (st) S o
def zk_lload (X : zX) : Prop := ∀ (d : Nat) (M : zM) (pc : Nat) (lv : zL) (st : List Value) (S : zS) (o : zO) (i : Nat) (x : Int64), decode M.2.1 pc = .ok (.lload i, 2) → ((i, Value.long x) ∈ lv) → (X d M (pc + 2) lv (.long x :: st) S o) → X d M pc lv (st) S o
def zk_aload_n (X : zX) : Prop := ∀ (d : Nat) (M : zM) (pc : Nat) (lv : zL) (st : List Value) (S : zS) (o : zO) (j : Fin 4) (x : Nat), decode M.2.1 pc = .ok (.aload_n j, 1) → (((j : Nat), Value.ref x) ∈ lv) → (X d M (pc + 1) lv (.ref x :: st) S o) → X d M pc lv (st) S o
def zk_aload (X : zX) : Prop := ∀ (d : Nat) (M : zM) (pc : Nat) (lv : zL) (st : List Value) (S : zS) (o : zO) (i : Nat) (x : Nat), decode M.2.1 pc = .ok (.aload i, 2) → ((i, Value.ref x) ∈ lv) → (X d M (pc + 2) lv (.ref x :: st) S o) → X d M pc lv (st) S o
def zk_aload_nN (X : zX) : Prop := ∀ (d : Nat) (M : zM) (pc : Nat) (lv : zL) (st : List Value) (S : zS) (o : zO) (j : Fin 4), decode M.2.1 pc = .ok (.aload_n j, 1) → (((j : Nat), Value.null) ∈ lv) → (X d M (pc + 1) lv (.null :: st) S o) → X d M pc lv (st) S o
def zk_aloadN (X : zX) : Prop := ∀ (d : Nat) (M : zM) (pc : Nat) (lv : zL) (st : List Value) (S : zS) (o : zO) (i : Nat), decode M.2.1 pc = .ok (.aload i, 2) → ((i, Value.null) ∈ lv) → (X d M (pc + 2) lv (.null :: st) S o) → X d M pc lv (st) S o
def zk_istore_n (X : zX) : Prop := ∀ (d : Nat) (M : zM) (pc : Nat) (lv : zL) (st : List Value) (S : zS) (o : zO) (j : Fin 4) (x : Int32), decode M.2.1 pc = .ok (.istore_n j, 1) → ((j : Nat) < M.2.2.1) → (X d M (pc + 1) (((j : Nat), Value.int x) :: z_k1 ((j : Nat)) lv) (st) S o) → X d M pc lv (.int x :: st) S o
def zk_istore (X : zX) : Prop := ∀ (d : Nat) (M : zM) (pc : Nat) (lv : zL) (st : List Value) (S : zS) (o : zO) (i : Nat) (x : Int32), decode M.2.1 pc = .ok (.istore i, 2) → (i < M.2.2.1) → (X d M (pc + 2) ((i, Value.int x) :: z_k1 (i) lv) (st) S o) → X d M pc lv (.int x :: st) S o
def zk_lstore_n (X : zX) : Prop := ∀ (d : Nat) (M : zM) (pc : Nat) (lv : zL) (st : List Value) (S : zS) (o : zO) (j : Fin 4) (x : Int64), decode M.2.1 pc = .ok (.lstore_n j, 1) → ((j : Nat) + 1 < M.2.2.1) → (X d M (pc + 1) (((j : Nat), Value.long x) :: z_k2 ((j : Nat)) lv) (st) S o) → X d M pc lv (.long x :: st) S o
def zk_lstore (X : zX) : Prop := ∀ (d : Nat) (M : zM) (pc : Nat) (lv : zL) (st : List Value) (S : zS) (o : zO) (i : Nat) (x : Int64), decode M.2.1 pc = .ok (.lstore i, 2) → (i + 1 < M.2.2.1) → (X d M (pc + 2) ((i, Value.long x) :: z_k2 (i) lv) (st) S o) → X d M pc lv (.long x :: st) S o
def zk_astore_n (X : zX) : Prop := ∀ (d : Nat) (M : zM) (pc : Nat) (lv : zL) (st : List Value) (S : zS) (o : zO) (j : Fin 4) (x : Nat), decode M.2.1 pc = .ok (.astore_n j, 1) → ((j : Nat) < M.2.2.1) → (X d M (pc + 1) (((j : Nat), Value.ref x) :: z_k1 ((j : Nat)) lv) (st) S o) → X d M pc lv (.ref x :: st) S o
def zk_astore (X : zX) : Prop := ∀ (d : Nat) (M : zM) (pc : Nat) (lv : zL) (st : List Value) (S : zS) (o : zO) (i : Nat) (x : Nat), decode M.2.1 pc = .ok (.astore i, 2) → (i < M.2.2.1) → (X d M (pc + 2) ((i, Value.ref x) :: z_k1 (i) lv) (st) S o) → X d M pc lv (.ref x :: st) S o
def zk_astore_nN (X : zX) : Prop := ∀ (d : Nat) (M : zM) (pc : Nat) (lv : zL) (st : List Value) (S : zS) (o : zO) (j : Fin 4), decode M.2.1 pc = .ok (.astore_n j, 1) → ((j : Nat) < M.2.2.1) → (X d M (pc + 1) (((j : Nat), Value.null) :: z_k1 ((j : Nat)) lv) (st) S o) → X d M pc lv (.null :: st) S o
def zk_astoreN (X : zX) : Prop := ∀ (d : Nat) (M : zM) (pc : Nat) (lv : zL) (st : List Value) (S : zS) (o : zO) (i : Nat), decode M.2.1 pc = .ok (.astore i, 2) → (i < M.2.2.1) → (X d M (pc + 2) ((i, Value.null) :: z_k1 (i) lv) (st) S o) → X d M pc lv (.null :: st) S o
def zk_iinc (X : zX) : Prop := ∀ (d : Nat) (M : zM) (pc : Nat) (lv : zL) (st : List Value) (S : zS) (o : zO) (i : Nat) (n : Int) (x : Int32), decode M.2.1 pc = .ok (.iinc i n, 3) → ((i, Value.int x) ∈ lv) → (i < M.2.2.1) → (X d M (pc + 3) ((i, Value.int (x + Int32.ofInt n)) :: z_k1 i lv) (st) S o) → X d M pc lv (st) S o
def zk_iadd (X : zX) : Prop := ∀ (d : Nat) (M : zM) (pc : Nat) (lv : zL) (st : List Value) (S : zS) (o : zO) (x y : Int32), decode M.2.1 pc = .ok (.iadd, 1) → (X d M (pc + 1) lv (.int (x + y) :: st) S o) → X d M pc lv (.int y :: .int x :: st) S o
def zk_isub (X : zX) : Prop := ∀ (d : Nat) (M : zM) (pc : Nat) (lv : zL) (st : List Value) (S : zS) (o : zO) (x y : Int32), decode M.2.1 pc = .ok (.isub, 1) → (X d M (pc + 1) lv (.int (x - y) :: st) S o) → X d M pc lv (.int y :: .int x :: st) S o
def zk_imul (X : zX) : Prop := ∀ (d : Nat) (M : zM) (pc : Nat) (lv : zL) (st : List Value) (S : zS) (o : zO) (x y : Int32), decode M.2.1 pc = .ok (.imul, 1) → (X d M (pc + 1) lv (.int (x * y) :: st) S o) → X d M pc lv (.int y :: .int x :: st) S o
def zk_iand (X : zX) : Prop := ∀ (d : Nat) (M : zM) (pc : Nat) (lv : zL) (st : List Value) (S : zS) (o : zO) (x y : Int32), decode M.2.1 pc = .ok (.iand, 1) → (X d M (pc + 1) lv (.int (x &&& y) :: st) S o) → X d M pc lv (.int y :: .int x :: st) S o
def zk_ior (X : zX) : Prop := ∀ (d : Nat) (M : zM) (pc : Nat) (lv : zL) (st : List Value) (S : zS) (o : zO) (x y : Int32), decode M.2.1 pc = .ok (.ior, 1) → (X d M (pc + 1) lv (.int (x ||| y) :: st) S o) → X d M pc lv (.int y :: .int x :: st) S o
def zk_ixor (X : zX) : Prop := ∀ (d : Nat) (M : zM) (pc : Nat) (lv : zL) (st : List Value) (S : zS) (o : zO) (x y : Int32), decode M.2.1 pc = .ok (.ixor, 1) → (X d M (pc + 1) lv (.int (x ^^^ y) :: st) S o) → X d M pc lv (.int y :: .int x :: st) S o
def zk_ishl (X : zX) : Prop := ∀ (d : Nat) (M : zM) (pc : Nat) (lv : zL) (st : List Value) (S : zS) (o : zO) (x y : Int32), decode M.2.1 pc = .ok (.ishl, 1) → (X d M (pc + 1) lv (.int (x <<< (y &&& 31)) :: st) S o) → X d M pc lv (.int y :: .int x :: st) S o
def zk_ishr (X : zX) : Prop := ∀ (d : Nat) (M : zM) (pc : Nat) (lv : zL) (st : List Value) (S : zS) (o : zO) (x y : Int32), decode M.2.1 pc = .ok (.ishr, 1) → (X d M (pc + 1) lv (.int (x >>> (y &&& 31)) :: st) S o) → X d M pc lv (.int y :: .int x :: st) S o
def zk_idiv (X : zX) : Prop := ∀ (d : Nat) (M : zM) (pc : Nat) (lv : zL) (st : List Value) (S : zS) (o : zO) (x y : Int32), decode M.2.1 pc = .ok (.idiv, 1) → (¬ y = 0) → (X d M (pc + 1) lv (.int (x / y) :: st) S o) → X d M pc lv (.int y :: .int x :: st) S o
def zk_irem (X : zX) : Prop := ∀ (d : Nat) (M : zM) (pc : Nat) (lv : zL) (st : List Value) (S : zS) (o : zO) (x y : Int32), decode M.2.1 pc = .ok (.irem, 1) → (¬ y = 0) → (X d M (pc + 1) lv (.int (x - x / y * y) :: st) S o) → X d M pc lv (.int y :: .int x :: st) S o
def zk_ladd (X : zX) : Prop := ∀ (d : Nat) (M : zM) (pc : Nat) (lv : zL) (st : List Value) (S : zS) (o : zO) (x y : Int64), decode M.2.1 pc = .ok (.ladd, 1) → (X d M (pc + 1) lv (.long (x + y) :: st) S o) → X d M pc lv (.long y :: .long x :: st) S o
def zk_lsub (X : zX) : Prop := ∀ (d : Nat) (M : zM) (pc : Nat) (lv : zL) (st : List Value) (S : zS) (o : zO) (x y : Int64), decode M.2.1 pc = .ok (.lsub, 1) → (X d M (pc + 1) lv (.long (x - y) :: st) S o) → X d M pc lv (.long y :: .long x :: st) S o
def zk_lmul (X : zX) : Prop := ∀ (d : Nat) (M : zM) (pc : Nat) (lv : zL) (st : List Value) (S : zS) (o : zO) (x y : Int64), decode M.2.1 pc = .ok (.lmul, 1) → (X d M (pc + 1) lv (.long (x * y) :: st) S o) → X d M pc lv (.long y :: .long x :: st) S o
def zk_land (X : zX) : Prop := ∀ (d : Nat) (M : zM) (pc : Nat) (lv : zL) (st : List Value) (S : zS) (o : zO) (x y : Int64), decode M.2.1 pc = .ok (.land, 1) → (X d M (pc + 1) lv (.long (x &&& y) :: st) S o) → X d M pc lv (.long y :: .long x :: st) S o
def zk_lor (X : zX) : Prop := ∀ (d : Nat) (M : zM) (pc : Nat) (lv : zL) (st : List Value) (S : zS) (o : zO) (x y : Int64), decode M.2.1 pc = .ok (.lor, 1) → (X d M (pc + 1) lv (.long (x ||| y) :: st) S o) → X d M pc lv (.long y :: .long x :: st) S o
def zk_lxor (X : zX) : Prop := ∀ (d : Nat) (M : zM) (pc : Nat) (lv : zL) (st : List Value) (S : zS) (o : zO) (x y : Int64), decode M.2.1 pc = .ok (.lxor, 1) → (X d M (pc + 1) lv (.long (x ^^^ y) :: st) S o) → X d M pc lv (.long y :: .long x :: st) S o
def zk_ineg (X : zX) : Prop := ∀ (d : Nat) (M : zM) (pc : Nat) (lv : zL) (st : List Value) (S : zS) (o : zO) (x : Int32), decode M.2.1 pc = .ok (.ineg, 1) → (X d M (pc + 1) lv (.int (-x) :: st) S o) → X d M pc lv (.int x :: st) S o
def zk_iushr (X : zX) : Prop := ∀ (d : Nat) (M : zM) (pc : Nat) (lv : zL) (st : List Value) (S : zS) (o : zO) (x y : Int32), decode M.2.1 pc = .ok (.iushr, 1) → (X d M (pc + 1) lv (.int (x.toUInt32 >>> (y.toUInt32 &&& Int32.toUInt32 31)).toInt32 :: st) S o) → X d M pc lv (.int y :: .int x :: st) S o
def zk_lushr (X : zX) : Prop := ∀ (d : Nat) (M : zM) (pc : Nat) (lv : zL) (st : List Value) (S : zS) (o : zO) (x : Int64) (y : Int32), decode M.2.1 pc = .ok (.lushr, 1) → (X d M (pc + 1) lv (.long (x.toUInt64 >>> (y.toInt64.toUInt64 &&& Int64.toUInt64 63)).toInt64 :: st) S o) → X d M pc lv (.int y :: .long x :: st) S o
def zk_lshl (X : zX) : Prop := ∀ (d : Nat) (M : zM) (pc : Nat) (lv : zL) (st : List Value) (S : zS) (o : zO) (x : Int64) (y : Int32), decode M.2.1 pc = .ok (.lshl, 1) → (X d M (pc + 1) lv (.long (x <<< (y.toInt64 &&& 63)) :: st) S o) → X d M pc lv (.int y :: .long x :: st) S o
def zk_lshr (X : zX) : Prop := ∀ (d : Nat) (M : zM) (pc : Nat) (lv : zL) (st : List Value) (S : zS) (o : zO) (x : Int64) (y : Int32), decode M.2.1 pc = .ok (.lshr, 1) → (X d M (pc + 1) lv (.long (x >>> (y.toInt64 &&& 63)) :: st) S o) → X d M pc lv (.int y :: .long x :: st) S o
def zk_i2l (X : zX) : Prop := ∀ (d : Nat) (M : zM) (pc : Nat) (lv : zL) (st : List Value) (S : zS) (o : zO) (x : Int32), decode M.2.1 pc = .ok (.i2l, 1) → (X d M (pc + 1) lv (.long x.toInt64 :: st) S o) → X d M pc lv (.int x :: st) S o
def zk_l2i (X : zX) : Prop := ∀ (d : Nat) (M : zM) (pc : Nat) (lv : zL) (st : List Value) (S : zS) (o : zO) (x : Int64), decode M.2.1 pc = .ok (.l2i, 1) → (X d M (pc + 1) lv (.int x.toInt32 :: st) S o) → X d M pc lv (.long x :: st) S o
def zk_i2b (X : zX) : Prop := ∀ (d : Nat) (M : zM) (pc : Nat) (lv : zL) (st : List Value) (S : zS) (o : zO) (x : Int32), decode M.2.1 pc = .ok (.i2b, 1) → (X d M (pc + 1) lv (.int x.toInt8.toInt32 :: st) S o) → X d M pc lv (.int x :: st) S o
def zk_i2c (X : zX) : Prop := ∀ (d : Nat) (M : zM) (pc : Nat) (lv : zL) (st : List Value) (S : zS) (o : zO) (x : Int32), decode M.2.1 pc = .ok (.i2c, 1) → (X d M (pc + 1) lv (.int (x.toUInt32 % 65536).toInt32 :: st) S o) → X d M pc lv (.int x :: st) S o
def zk_dup (X : zX) : Prop := ∀ (d : Nat) (M : zM) (pc : Nat) (lv : zL) (st : List Value) (S : zS) (o : zO) (v : Value), decode M.2.1 pc = .ok (.dup, 1) → (v.category = 1) → (X d M (pc + 1) lv (v :: v :: st) S o) → X d M pc lv (v :: st) S o
def zk_pop (X : zX) : Prop := ∀ (d : Nat) (M : zM) (pc : Nat) (lv : zL) (st : List Value) (S : zS) (o : zO) (v : Value), decode M.2.1 pc = .ok (.pop, 1) → (v.category = 1) → (X d M (pc + 1) lv (st) S o) → X d M pc lv (v :: st) S o
def zk_dup2 (X : zX) : Prop := ∀ (d : Nat) (M : zM) (pc : Nat) (lv : zL) (st : List Value) (S : zS) (o : zO) (v u : Value), decode M.2.1 pc = .ok (.dup2, 1) → (v.category = 1) → (u.category = 1) → (X d M (pc + 1) lv (v :: u :: v :: u :: st) S o) → X d M pc lv (v :: u :: st) S o
def zk_if_eq (X : zX) : Prop := ∀ (d : Nat) (M : zM) (pc : Nat) (lv : zL) (st : List Value) (S : zS) (o : zO) (x : Int32) (off : Int) (tgt : Nat), decode M.2.1 pc = .ok (.ifCond .eq off, 3) → ((pc : Int) + off = (tgt : Int)) → ((x = 0) → X d M (tgt) lv (st) S o) → ((¬ x = 0) → X d M (pc + 3) lv (st) S o) → X d M pc lv (.int x :: st) S o
def zk_icmp_eq (X : zX) : Prop := ∀ (d : Nat) (M : zM) (pc : Nat) (lv : zL) (st : List Value) (S : zS) (o : zO) (x y : Int32) (off : Int) (tgt : Nat), decode M.2.1 pc = .ok (.if_icmp .eq off, 3) → ((pc : Int) + off = (tgt : Int)) → ((x = y) → X d M (tgt) lv (st) S o) → ((¬ x = y) → X d M (pc + 3) lv (st) S o) → X d M pc lv (.int y :: .int x :: st) S o
def zk_if_ne (X : zX) : Prop := ∀ (d : Nat) (M : zM) (pc : Nat) (lv : zL) (st : List Value) (S : zS) (o : zO) (x : Int32) (off : Int) (tgt : Nat), decode M.2.1 pc = .ok (.ifCond .ne off, 3) → ((pc : Int) + off = (tgt : Int)) → ((¬ x = 0) → X d M (tgt) lv (st) S o) → ((x = 0) → X d M (pc + 3) lv (st) S o) → X d M pc lv (.int x :: st) S o
def zk_icmp_ne (X : zX) : Prop := ∀ (d : Nat) (M : zM) (pc : Nat) (lv : zL) (st : List Value) (S : zS) (o : zO) (x y : Int32) (off : Int) (tgt : Nat), decode M.2.1 pc = .ok (.if_icmp .ne off, 3) → ((pc : Int) + off = (tgt : Int)) → ((¬ x = y) → X d M (tgt) lv (st) S o) → ((x = y) → X d M (pc + 3) lv (st) S o) → X d M pc lv (.int y :: .int x :: st) S o
def zk_if_lt (X : zX) : Prop := ∀ (d : Nat) (M : zM) (pc : Nat) (lv : zL) (st : List Value) (S : zS) (o : zO) (x : Int32) (off : Int) (tgt : Nat), decode M.2.1 pc = .ok (.ifCond .lt off, 3) → ((pc : Int) + off = (tgt : Int)) → ((x < 0) → X d M (tgt) lv (st) S o) → ((¬ x < 0) → X d M (pc + 3) lv (st) S o) → X d M pc lv (.int x :: st) S o
def zk_icmp_lt (X : zX) : Prop := ∀ (d : Nat) (M : zM) (pc : Nat) (lv : zL) (st : List Value) (S : zS) (o : zO) (x y : Int32) (off : Int) (tgt : Nat), decode M.2.1 pc = .ok (.if_icmp .lt off, 3) → ((pc : Int) + off = (tgt : Int)) → ((x < y) → X d M (tgt) lv (st) S o) → ((¬ x < y) → X d M (pc + 3) lv (st) S o) → X d M pc lv (.int y :: .int x :: st) S o
def zk_if_ge (X : zX) : Prop := ∀ (d : Nat) (M : zM) (pc : Nat) (lv : zL) (st : List Value) (S : zS) (o : zO) (x : Int32) (off : Int) (tgt : Nat), decode M.2.1 pc = .ok (.ifCond .ge off, 3) → ((pc : Int) + off = (tgt : Int)) → ((0 ≤ x) → X d M (tgt) lv (st) S o) → ((¬ 0 ≤ x) → X d M (pc + 3) lv (st) S o) → X d M pc lv (.int x :: st) S o
def zk_icmp_ge (X : zX) : Prop := ∀ (d : Nat) (M : zM) (pc : Nat) (lv : zL) (st : List Value) (S : zS) (o : zO) (x y : Int32) (off : Int) (tgt : Nat), decode M.2.1 pc = .ok (.if_icmp .ge off, 3) → ((pc : Int) + off = (tgt : Int)) → ((y ≤ x) → X d M (tgt) lv (st) S o) → ((¬ y ≤ x) → X d M (pc + 3) lv (st) S o) → X d M pc lv (.int y :: .int x :: st) S o
def zk_if_gt (X : zX) : Prop := ∀ (d : Nat) (M : zM) (pc : Nat) (lv : zL) (st : List Value) (S : zS) (o : zO) (x : Int32) (off : Int) (tgt : Nat), decode M.2.1 pc = .ok (.ifCond .gt off, 3) → ((pc : Int) + off = (tgt : Int)) → ((0 < x) → X d M (tgt) lv (st) S o) → ((¬ 0 < x) → X d M (pc + 3) lv (st) S o) → X d M pc lv (.int x :: st) S o
def zk_icmp_gt (X : zX) : Prop := ∀ (d : Nat) (M : zM) (pc : Nat) (lv : zL) (st : List Value) (S : zS) (o : zO) (x y : Int32) (off : Int) (tgt : Nat), decode M.2.1 pc = .ok (.if_icmp .gt off, 3) → ((pc : Int) + off = (tgt : Int)) → ((y < x) → X d M (tgt) lv (st) S o) → ((¬ y < x) → X d M (pc + 3) lv (st) S o) → X d M pc lv (.int y :: .int x :: st) S o
def zk_if_le (X : zX) : Prop := ∀ (d : Nat) (M : zM) (pc : Nat) (lv : zL) (st : List Value) (S : zS) (o : zO) (x : Int32) (off : Int) (tgt : Nat), decode M.2.1 pc = .ok (.ifCond .le off, 3) → ((pc : Int) + off = (tgt : Int)) → ((x ≤ 0) → X d M (tgt) lv (st) S o) → ((¬ x ≤ 0) → X d M (pc + 3) lv (st) S o) → X d M pc lv (.int x :: st) S o
def zk_icmp_le (X : zX) : Prop := ∀ (d : Nat) (M : zM) (pc : Nat) (lv : zL) (st : List Value) (S : zS) (o : zO) (x y : Int32) (off : Int) (tgt : Nat), decode M.2.1 pc = .ok (.if_icmp .le off, 3) → ((pc : Int) + off = (tgt : Int)) → ((x ≤ y) → X d M (tgt) lv (st) S o) → ((¬ x ≤ y) → X d M (pc + 3) lv (st) S o) → X d M pc lv (.int y :: .int x :: st) S o
def zk_goto (X : zX) : Prop := ∀ (d : Nat) (M : zM) (pc : Nat) (lv : zL) (st : List Value) (S : zS) (o : zO) (off : Int) (tgt : Nat), decode M.2.1 pc = .ok (.goto off, 3) → ((pc : Int) + off = (tgt : Int)) → (X d M (tgt) lv (st) S o) → X d M pc lv (st) S o
def zk_ifnull (X : zX) : Prop := ∀ (d : Nat) (M : zM) (pc : Nat) (lv : zL) (st : List Value) (S : zS) (o : zO) (x : Nat) (off : Int), decode M.2.1 pc = .ok (.ifnull off, 3) → (X d M (pc + 3) lv (st) S o) → X d M pc lv (.ref x :: st) S o
def zk_ifnullN (X : zX) : Prop := ∀ (d : Nat) (M : zM) (pc : Nat) (lv : zL) (st : List Value) (S : zS) (o : zO) (off : Int) (tgt : Nat), decode M.2.1 pc = .ok (.ifnull off, 3) → ((pc : Int) + off = (tgt : Int)) → (X d M (tgt) lv (st) S o) → X d M pc lv (.null :: st) S o
def zk_ifnonnull (X : zX) : Prop := ∀ (d : Nat) (M : zM) (pc : Nat) (lv : zL) (st : List Value) (S : zS) (o : zO) (x : Nat) (off : Int) (tgt : Nat), decode M.2.1 pc = .ok (.ifnonnull off, 3) → ((pc : Int) + off = (tgt : Int)) → (X d M (tgt) lv (st) S o) → X d M pc lv (.ref x :: st) S o
def zk_ifnonnullN (X : zX) : Prop := ∀ (d : Nat) (M : zM) (pc : Nat) (lv : zL) (st : List Value) (S : zS) (o : zO) (off : Int), decode M.2.1 pc = .ok (.ifnonnull off, 3) → (X d M (pc + 3) lv (st) S o) → X d M pc lv (.null :: st) S o
def zk_lookup (X : zX) : Prop := ∀ (d : Nat) (M : zM) (pc : Nat) (lv : zL) (st : List Value) (S : zS) (o : zO) (x : Int32) (dflt off : Int) (ps : Array (Int × Int)) (len tgt : Nat), decode M.2.1 pc = .ok (.lookupswitch dflt ps, len) → ((ps.toList.zip (ps.toList.drop 1)).all (fun (a, next) => a.1 < next.1) = true) → (Op.lookupswitch.offset ps.toList dflt x.toInt = off) → ((pc : Int) + off = (tgt : Int)) → (X d M (tgt) lv (st) S o) → X d M pc lv (.int x :: st) S o
def zk_tableIn (X : zX) : Prop := ∀ (d : Nat) (M : zM) (pc : Nat) (lv : zL) (st : List Value) (S : zS) (o : zO) (x : Int32) (dflt lo hi off : Int) (offs : Array Int) (len tgt : Nat), decode M.2.1 pc = .ok (.tableswitch dflt lo hi offs, len) → (¬ x.toInt < lo) → (¬ hi < x.toInt) → (offs[(x.toInt - lo).toNat]? = some off) → ((pc : Int) + off = (tgt : Int)) → (X d M (tgt) lv (st) S o) → X d M pc lv (.int x :: st) S o
def zk_tableOut (X : zX) : Prop := ∀ (d : Nat) (M : zM) (pc : Nat) (lv : zL) (st : List Value) (S : zS) (o : zO) (x : Int32) (dflt lo hi : Int) (offs : Array Int) (len tgt : Nat), decode M.2.1 pc = .ok (.tableswitch dflt lo hi offs, len) → (x.toInt < lo ∨ hi < x.toInt) → ((pc : Int) + dflt = (tgt : Int)) → (X d M (tgt) lv (st) S o) → X d M pc lv (.int x :: st) S o
def zk_getf (X : zX) : Prop := ∀ (d : Nat) (M : zM) (pc : Nat) (lv : zL) (st : List Value) (S : zS) (o : zO) (idx i ci j : Nat) (ty : FieldType) (fin : Bool) (fs : List Value) (v : Value), decode M.2.1 pc = .ok (.getfield idx, 3) → (z_fOK M.1.cls idx ci j ty fin) → (S.2.2 i = .inr (ci, fs)) → (fs[j]? = some v) → (X d M (pc + 3) lv (v :: st) S o) → X d M pc lv (.ref i :: st) S o
def zk_putf (X : zX) : Prop := ∀ (d : Nat) (M : zM) (pc : Nat) (lv : zL) (st : List Value) (S : zS) (o : zO) (idx i ci j : Nat) (ty : FieldType) (fs : List Value) (v : Value), decode M.2.1 pc = .ok (.putfield idx, 3) → (z_fOK M.1.cls idx ci j ty false) → (S.2.2 i = .inr (ci, fs)) → (j < fs.length) → (narrow ty v = v ∧ fits ty v = true) → (X d M (pc + 3) lv (st) (z_put S i (.inr (ci, fs.set j v))) o) → X d M pc lv (v :: .ref i :: st) S o
def zk_putF (X : zX) : Prop := ∀ (d : Nat) (M : zM) (pc : Nat) (lv : zL) (st : List Value) (S : zS) (o : zO) (idx i ci j : Nat) (ty : FieldType) (fs : List Value) (v : Value), decode M.2.1 pc = .ok (.putfield idx, 3) → (z_fO1 M.1.cls idx ci j ty) → (S.2.2 i = .inr (ci, fs)) → (j < fs.length) → (narrow ty v = v ∧ fits ty v = true) → (M.1.name = "<init>") → (X d M (pc + 3) lv (st) (z_put S i (.inr (ci, fs.set j v))) o) → X d M pc lv (v :: .ref i :: st) S o
def zk_bald (X : zX) : Prop := ∀ (d : Nat) (M : zM) (pc : Nat) (lv : zL) (st : List Value) (S : zS) (o : zO) (i n : Nat) (x : Int32) (g : Nat → Int32), decode M.2.1 pc = .ok (.baload, 1) → (S.2.2 i = .inl (.byte, n, .inl g)) → (vp_in x n) → (X d M (pc + 1) lv (.int (g x.toNatClampNeg) :: st) S o) → X d M pc lv (.int x :: .ref i :: st) S o
def zk_zald (X : zX) : Prop := ∀ (d : Nat) (M : zM) (pc : Nat) (lv : zL) (st : List Value) (S : zS) (o : zO) (i n : Nat) (x : Int32) (g : Nat → Int32), decode M.2.1 pc = .ok (.baload, 1) → (S.2.2 i = .inl (.boolean, n, .inl g)) → (vp_in x n) → (X d M (pc + 1) lv (.int (g x.toNatClampNeg) :: st) S o) → X d M pc lv (.int x :: .ref i :: st) S o
def zk_iald (X : zX) : Prop := ∀ (d : Nat) (M : zM) (pc : Nat) (lv : zL) (st : List Value) (S : zS) (o : zO) (i n : Nat) (x : Int32) (g : Nat → Int32), decode M.2.1 pc = .ok (.iaload, 1) → (S.2.2 i = .inl (.int, n, .inl g)) → (vp_in x n) → (X d M (pc + 1) lv (.int (g x.toNatClampNeg) :: st) S o) → X d M pc lv (.int x :: .ref i :: st) S o
def zk_lald (X : zX) : Prop := ∀ (d : Nat) (M : zM) (pc : Nat) (lv : zL) (st : List Value) (S : zS) (o : zO) (i n : Nat) (x : Int32) (g : Nat → Int64), decode M.2.1 pc = .ok (.laload, 1) → (S.2.2 i = .inl (.long, n, .inr (.inl g))) → (vp_in x n) → (X d M (pc + 1) lv (.long (g x.toNatClampNeg) :: st) S o) → X d M pc lv (.int x :: .ref i :: st) S o
def zk_aald (X : zX) : Prop := ∀ (d : Nat) (M : zM) (pc : Nat) (lv : zL) (st : List Value) (S : zS) (o : zO) (i n : Nat) (x : Int32) (ty : FieldType) (g : Nat → Option Nat), decode M.2.1 pc = .ok (.aaload, 1) → (S.2.2 i = .inl (ty, n, .inr (.inr (.inr (.inr g))))) → (vp_in x n) → (ty.isReference = true) → (X d M (pc + 1) lv (va_rf (g x.toNatClampNeg) :: st) S o) → X d M pc lv (.int x :: .ref i :: st) S o
def zk_bast (X : zX) : Prop := ∀ (d : Nat) (M : zM) (pc : Nat) (lv : zL) (st : List Value) (S : zS) (o : zO) (i n : Nat) (x : Int32) (g : Nat → Int32) (y : Int32), decode M.2.1 pc = .ok (.bastore, 1) → (S.2.2 i = .inl (.byte, n, .inl g)) → (vp_in x n) → (X d M (pc + 1) lv (st) (z_put S i (.inl (.byte, n, .inl (upd g x.toNatClampNeg (vp_nar .byte y))))) o) → X d M pc lv (.int y :: .int x :: .ref i :: st) S o
def zk_zast (X : zX) : Prop := ∀ (d : Nat) (M : zM) (pc : Nat) (lv : zL) (st : List Value) (S : zS) (o : zO) (i n : Nat) (x : Int32) (g : Nat → Int32) (y : Int32), decode M.2.1 pc = .ok (.bastore, 1) → (S.2.2 i = .inl (.boolean, n, .inl g)) → (vp_in x n) → (X d M (pc + 1) lv (st) (z_put S i (.inl (.boolean, n, .inl (upd g x.toNatClampNeg (vp_nar .boolean y))))) o) → X d M pc lv (.int y :: .int x :: .ref i :: st) S o
def zk_iast (X : zX) : Prop := ∀ (d : Nat) (M : zM) (pc : Nat) (lv : zL) (st : List Value) (S : zS) (o : zO) (i n : Nat) (x : Int32) (g : Nat → Int32) (y : Int32), decode M.2.1 pc = .ok (.iastore, 1) → (S.2.2 i = .inl (.int, n, .inl g)) → (vp_in x n) → (X d M (pc + 1) lv (st) (z_put S i (.inl (.int, n, .inl (upd g x.toNatClampNeg y)))) o) → X d M pc lv (.int y :: .int x :: .ref i :: st) S o
def zk_last (X : zX) : Prop := ∀ (d : Nat) (M : zM) (pc : Nat) (lv : zL) (st : List Value) (S : zS) (o : zO) (i n : Nat) (x : Int32) (g : Nat → Int64) (y : Int64), decode M.2.1 pc = .ok (.lastore, 1) → (S.2.2 i = .inl (.long, n, .inr (.inl g))) → (vp_in x n) → (X d M (pc + 1) lv (st) (z_put S i (.inl (.long, n, .inr (.inl (vp_updL g x.toNatClampNeg y))))) o) → X d M pc lv (.long y :: .int x :: .ref i :: st) S o
def zk_aast (X : zX) : Prop := ∀ (d : Nat) (M : zM) (pc : Nat) (lv : zL) (st : List Value) (S : zS) (o : zO) (i n j ci : Nat) (x : Int32) (r : vw_C) (g : Nat → Option Nat) (vs : List Value), decode M.2.1 pc = .ok (.aastore, 1) → (S.2.2 i = .inl (.object r.1, n, .inr (.inr (.inr (.inr g))))) → (vp_in x n) → (S.2.2 j = .inr (ci, vs)) → (vwCl[ci]? = some r) → (X d M (pc + 1) lv (st) (z_put S i (.inl (.object r.1, n, .inr (.inr (.inr (.inr (va_up g x.toNatClampNeg (some j)))))))) o) → X d M pc lv (.ref j :: .int x :: .ref i :: st) S o
def zk_alen (X : zX) : Prop := ∀ (d : Nat) (M : zM) (pc : Nat) (lv : zL) (st : List Value) (S : zS) (o : zO) (i : Nat) (ty : FieldType) (a : vp_A), decode M.2.1 pc = .ok (.arraylength, 1) → (S.2.2 i = .inl (ty, a)) → (X d M (pc + 1) lv (.int (Int32.ofNat a.1) :: st) S o) → X d M pc lv (.ref i :: st) S o
def zk_new (X : zX) : Prop := ∀ (d : Nat) (M : zM) (pc : Nat) (lv : zL) (st : List Value) (S : zS) (o : zO) (idx ci n : Nat) (fs : List Value), decode M.2.1 pc = .ok (.new idx, 3) → (z_nOK M.1.cls idx ci n fs) → (X d M (pc + 3) lv (.ref S.1 :: st) (z_new S (.inr (ci, fs)) n) o) → X d M pc lv (st) S o
def zk_newi (X : zX) : Prop := ∀ (d : Nat) (M : zM) (pc : Nat) (lv : zL) (st : List Value) (S : zS) (o : zO) (n : Int32) (N : Nat), decode M.2.1 pc = .ok (.newarray .int, 2) → (¬ n < 0) → (n.toNatClampNeg = N) → (N * componentBytes .int ≤ 536870912) → (Cond.arrayClass .int ∈ z_tb) → (X d M (pc + 2) lv (.ref S.1 :: st) (z_new S (.inl (.int, N, .inl (fun _ => 0))) N) o) → X d M pc lv (.int n :: st) S o
def zk_newb (X : zX) : Prop := ∀ (d : Nat) (M : zM) (pc : Nat) (lv : zL) (st : List Value) (S : zS) (o : zO) (n : Int32) (N : Nat), decode M.2.1 pc = .ok (.newarray .byte, 2) → (¬ n < 0) → (n.toNatClampNeg = N) → (N * componentBytes .byte ≤ 536870912) → (Cond.arrayClass .byte ∈ z_tb) → (X d M (pc + 2) lv (.ref S.1 :: st) (z_new S (.inl (.byte, N, .inl (fun _ => 0))) N) o) → X d M pc lv (.int n :: st) S o
def zk_newz (X : zX) : Prop := ∀ (d : Nat) (M : zM) (pc : Nat) (lv : zL) (st : List Value) (S : zS) (o : zO) (n : Int32) (N : Nat), decode M.2.1 pc = .ok (.newarray .boolean, 2) → (¬ n < 0) → (n.toNatClampNeg = N) → (N * componentBytes .boolean ≤ 536870912) → (Cond.arrayClass .boolean ∈ z_tb) → (X d M (pc + 2) lv (.ref S.1 :: st) (z_new S (.inl (.boolean, N, .inl (fun _ => 0))) N) o) → X d M pc lv (.int n :: st) S o
def zk_newl (X : zX) : Prop := ∀ (d : Nat) (M : zM) (pc : Nat) (lv : zL) (st : List Value) (S : zS) (o : zO) (n : Int32) (N : Nat), decode M.2.1 pc = .ok (.newarray .long, 2) → (¬ n < 0) → (n.toNatClampNeg = N) → (N * componentBytes .long ≤ 536870912) → (Cond.arrayClass .long ∈ z_tb) → (X d M (pc + 2) lv (.ref S.1 :: st) (z_new S (.inl (.long, N, .inr (.inl (fun _ => 0)))) N) o) → X d M pc lv (.int n :: st) S o
def zk_ldc (X : zX) : Prop := ∀ (d : Nat) (M : zM) (pc : Nat) (lv : zL) (st : List Value) (S : zS) (o : zO) (idx : Nat) (v : Int32), decode M.2.1 pc = .ok (.ldc idx, 2) → (Cond.constant M.1.cls idx v ∈ z_tb) → (X d M (pc + 2) lv (.int v :: st) S o) → X d M pc lv (st) S o
def zk_ldcw (X : zX) : Prop := ∀ (d : Nat) (M : zM) (pc : Nat) (lv : zL) (st : List Value) (S : zS) (o : zO) (idx : Nat) (v : Int32), decode M.2.1 pc = .ok (.ldc_w idx, 3) → (Cond.constant M.1.cls idx v ∈ z_tb) → (X d M (pc + 3) lv (.int v :: st) S o) → X d M pc lv (st) S o
def zk_ldc2 (X : zX) : Prop := ∀ (d : Nat) (M : zM) (pc : Nat) (lv : zL) (st : List Value) (S : zS) (o : zO) (idx : Nat) (v : Int64), decode M.2.1 pc = .ok (.ldc2_w idx, 3) → (Cond.constantLong M.1.cls idx v ∈ z_tb) → (X d M (pc + 3) lv (.long v :: st) S o) → X d M pc lv (st) S o
def zk_lcmp (X : zX) : Prop := ∀ (d : Nat) (M : zM) (pc : Nat) (lv : zL) (st : List Value) (S : zS) (o : zO) (x y : Int64), decode M.2.1 pc = .ok (.lcmp, 1) → (X d M (pc + 1) lv (.int (lg_cmp x y) :: st) S o) → X d M pc lv (.long y :: .long x :: st) S o
def zk_callS (X : zX) : Prop := ∀ (d : Nat) (M : zM) (pc : Nat) (lv : zL) (st : List Value) (S : zS) (o : zO) (idx n : Nat) (M1 : zM) (as st1 : List Value) (lv1 : zL) (S1 : zS) (pc1 : Nat) (r : Option Value), decode M.2.1 pc = .ok (.invokestatic idx, 3) → (z_mOK M.1.cls idx 2 n M1) → (as.length = n) → ((lg_sl as).length ≤ M1.2.2.1) → ((st.map Value.category).sum ≤ 8) → (z_rt M1 pc1 st1 r) → X d M1 0 (lv_args 0 as) [] S (pc1, lv1, st1, S1) → X (d + 1) M (pc + 3) lv (r.toList ++ st) S1 o → X (d + 1) M pc lv (as.reverse ++ st) S o
def zk_callSN (X : zX) : Prop := ∀ (d : Nat) (M : zM) (pc : Nat) (lv : zL) (st : List Value) (S : zS) (o : zO) (idx n : Nat) (M1 : zM) (as st1 : List Value) (lv1 : zL) (S1 : zS) (pc1 : Nat) (r : Option Value), decode M.2.1 pc = .ok (.invokestatic idx, 3) → (z_mOK M.1.cls idx 3 n M1) → (as.length = n) → ((lg_sl as).length ≤ M1.2.2.1) → ((st.map Value.category).sum ≤ 8) → (z_rt M1 pc1 st1 r) → X d M1 0 (lv_args 0 as) [] S (pc1, lv1, st1, S1) → X (d + 1) M (pc + 3) lv (r.toList ++ st) S1 o → X (d + 1) M pc lv (as.reverse ++ st) S o
def zk_callV (X : zX) : Prop := ∀ (d : Nat) (M : zM) (pc : Nat) (lv : zL) (st : List Value) (S : zS) (o : zO) (idx n : Nat) (M1 : zM) (as st1 : List Value) (lv1 : zL) (S1 : zS) (pc1 : Nat) (r : Option Value) (b ci : Nat) (fs : List Value), decode M.2.1 pc = .ok (.invokevirtual idx, 3) → (z_mOK M.1.cls idx 0 n M1) → (as.length = n) → ((lg_sl (.ref b :: as)).length ≤ M1.2.2.1) → ((st.map Value.category).sum ≤ 8) → (z_rt M1 pc1 st1 r) → (S.2.2 b = .inr (ci, fs)) → ((vwCl[ci]?).map (fun q => q.1) = some M1.1.cls) → X d M1 0 (lv_args 0 (.ref b :: as)) [] S (pc1, lv1, st1, S1) → X (d + 1) M (pc + 3) lv (r.toList ++ st) S1 o → X (d + 1) M pc lv (as.reverse ++ .ref b :: st) S o
def zk_callI (X : zX) : Prop := ∀ (d : Nat) (M : zM) (pc : Nat) (lv : zL) (st : List Value) (S : zS) (o : zO) (idx n : Nat) (M1 : zM) (as st1 : List Value) (lv1 : zL) (S1 : zS) (pc1 : Nat) (r : Option Value) (b : Nat), decode M.2.1 pc = .ok (.invokespecial idx, 3) → (z_mOK M.1.cls idx 4 n M1) → (as.length = n) → ((lg_sl (.ref b :: as)).length ≤ M1.2.2.1) → ((st.map Value.category).sum ≤ 8) → (z_rt M1 pc1 st1 r) → X d M1 0 (lv_args 0 (.ref b :: as)) [] S (pc1, lv1, st1, S1) → X (d + 1) M (pc + 3) lv (r.toList ++ st) S1 o → X (d + 1) M pc lv (as.reverse ++ .ref b :: st) S o
def zk_callIN (X : zX) : Prop := ∀ (d : Nat) (M : zM) (pc : Nat) (lv : zL) (st : List Value) (S : zS) (o : zO) (idx n : Nat) (M1 : zM) (as st1 : List Value) (lv1 : zL) (S1 : zS) (pc1 : Nat) (r : Option Value) (b : Nat), decode M.2.1 pc = .ok (.invokespecial idx, 3) → (z_mOK M.1.cls idx 5 n M1) → (as.length = n) → ((lg_sl (.ref b :: as)).length ≤ M1.2.2.1) → ((st.map Value.category).sum ≤ 8) → (z_rt M1 pc1 st1 r) → X d M1 0 (lv_args 0 (.ref b :: as)) [] S (pc1, lv1, st1, S1) → X (d + 1) M (pc + 3) lv (r.toList ++ st) S1 o → X (d + 1) M pc lv (as.reverse ++ .ref b :: st) S o
def z_Cl (X : zX) : Prop := (∀ (d : Nat) (M : zM) (pc : Nat) (lv : zL) (st : List Value) (S : zS), X d M pc lv st S (pc, lv, st, S)) ∧ zk_iconst X ∧ zk_bipush X ∧ zk_sipush X ∧ zk_lconst X ∧ zk_aconst X ∧ zk_iload_n X ∧ zk_iload X ∧ zk_lload_n X ∧ zk_lload X ∧ zk_aload_n X ∧ zk_aload X ∧ zk_aload_nN X ∧ zk_aloadN X ∧ zk_istore_n X ∧ zk_istore X ∧ zk_lstore_n X ∧ zk_lstore X ∧ zk_astore_n X ∧ zk_astore X ∧ zk_astore_nN X ∧ zk_astoreN X ∧ zk_iinc X ∧ zk_iadd X ∧ zk_isub X ∧ zk_imul X ∧ zk_iand X ∧ zk_ior X ∧ zk_ixor X ∧ zk_ishl X ∧ zk_ishr X ∧ zk_idiv X ∧ zk_irem X ∧ zk_ladd X ∧ zk_lsub X ∧ zk_lmul X ∧ zk_land X ∧ zk_lor X ∧ zk_lxor X ∧ zk_ineg X ∧ zk_iushr X ∧ zk_lushr X ∧ zk_lshl X ∧ zk_lshr X ∧ zk_i2l X ∧ zk_l2i X ∧ zk_i2b X ∧ zk_i2c X ∧ zk_dup X ∧ zk_pop X ∧ zk_dup2 X ∧ zk_if_eq X ∧ zk_icmp_eq X ∧ zk_if_ne X ∧ zk_icmp_ne X ∧ zk_if_lt X ∧ zk_icmp_lt X ∧ zk_if_ge X ∧ zk_icmp_ge X ∧ zk_if_gt X ∧ zk_icmp_gt X ∧ zk_if_le X ∧ zk_icmp_le X ∧ zk_goto X ∧ zk_ifnull X ∧ zk_ifnullN X ∧ zk_ifnonnull X ∧ zk_ifnonnullN X ∧ zk_lookup X ∧ zk_tableIn X ∧ zk_tableOut X ∧ zk_getf X ∧ zk_putf X ∧ zk_putF X ∧ zk_bald X ∧ zk_zald X ∧ zk_iald X ∧ zk_lald X ∧ zk_aald X ∧ zk_bast X ∧ zk_zast X ∧ zk_iast X ∧ zk_last X ∧ zk_aast X ∧ zk_alen X ∧ zk_new X ∧ zk_newi X ∧ zk_newb X ∧ zk_newz X ∧ zk_newl X ∧ zk_ldc X ∧ zk_ldcw X ∧ zk_ldc2 X ∧ zk_lcmp X ∧ zk_callS X ∧ zk_callSN X ∧ zk_callV X ∧ zk_callI X ∧ zk_callIN X
def z_Ex : zX := fun d M pc lv st S o => ∀ X : zX, z_Cl X → X d M pc lv st S o
theorem zr_refl {d : Nat} {M : zM} {pc : Nat} {lv : zL} {st : List Value} {S : zS} : z_Ex d M pc lv st S (pc, lv, st, S) := fun X hX => hX.1 d M pc lv st S
theorem zr_iconst {d : Nat} {M : zM} {pc : Nat} {lv : zL} {st : List Value} {S : zS} {o : zO} {n : Int} (hd : decode M.2.1 pc = .ok (.iconst n, 1))  (k0 : z_Ex d M (pc + 1) lv (.int (Int32.ofInt n) :: st) S o) : z_Ex d M pc lv (st) S o := fun X hX => hX.2.1 d M pc lv st S o n hd  (k0 X hX)
theorem zr_bipush {d : Nat} {M : zM} {pc : Nat} {lv : zL} {st : List Value} {S : zS} {o : zO} {n : Int} (hd : decode M.2.1 pc = .ok (.bipush n, 2))  (k0 : z_Ex d M (pc + 2) lv (.int (Int8.ofInt n).toInt32 :: st) S o) : z_Ex d M pc lv (st) S o := fun X hX => hX.2.2.1 d M pc lv st S o n hd  (k0 X hX)
theorem zr_sipush {d : Nat} {M : zM} {pc : Nat} {lv : zL} {st : List Value} {S : zS} {o : zO} {n : Int} (hd : decode M.2.1 pc = .ok (.sipush n, 3))  (k0 : z_Ex d M (pc + 3) lv (.int (Int16.ofInt n).toInt32 :: st) S o) : z_Ex d M pc lv (st) S o := fun X hX => hX.2.2.2.1 d M pc lv st S o n hd  (k0 X hX)
theorem zr_lconst {d : Nat} {M : zM} {pc : Nat} {lv : zL} {st : List Value} {S : zS} {o : zO} {n : Fin 2} (hd : decode M.2.1 pc = .ok (.lconst n, 1))  (k0 : z_Ex d M (pc + 1) lv (.long (Int64.ofNat (n : Nat)) :: st) S o) : z_Ex d M pc lv (st) S o := fun X hX => hX.2.2.2.2.1 d M pc lv st S o n hd  (k0 X hX)
theorem zr_aconst {d : Nat} {M : zM} {pc : Nat} {lv : zL} {st : List Value} {S : zS} {o : zO}  (hd : decode M.2.1 pc = .ok (.aconst_null, 1))  (k0 : z_Ex d M (pc + 1) lv (.null :: st) S o) : z_Ex d M pc lv (st) S o := fun X hX => hX.2.2.2.2.2.1 d M pc lv st S o  hd  (k0 X hX)
theorem zr_iload_n {d : Nat} {M : zM} {pc : Nat} {lv : zL} {st : List Value} {S : zS} {o : zO} {j : Fin 4} {x : Int32} (hd : decode M.2.1 pc = .ok (.iload_n j, 1)) (h0 : ((j : Nat), Value.int x) ∈ lv) (k0 : z_Ex d M (pc + 1) lv (.int x :: st) S o) : z_Ex d M pc lv (st) S o := fun X hX => hX.2.2.2.2.2.2.1 d M pc lv st S o j x hd h0 (k0 X hX)
theorem zr_iload {d : Nat} {M : zM} {pc : Nat} {lv : zL} {st : List Value} {S : zS} {o : zO} {i : Nat} {x : Int32} (hd : decode M.2.1 pc = .ok (.iload i, 2)) (h0 : (i, Value.int x) ∈ lv) (k0 : z_Ex d M (pc + 2) lv (.int x :: st) S o) : z_Ex d M pc lv (st) S o := fun X hX => hX.2.2.2.2.2.2.2.1 d M pc lv st S o i x hd h0 (k0 X hX)
theorem zr_lload_n {d : Nat} {M : zM} {pc : Nat} {lv : zL} {st : List Value} {S : zS} {o : zO} {j : Fin 4} {x : Int64} (hd : decode M.2.1 pc = .ok (.lload_n j, 1)) (h0 : ((j : Nat), Value.long x) ∈ lv) (k0 : z_Ex d M (pc + 1) lv (.long x :: st) S o) : z_Ex d M pc lv (st) S o := fun X hX => hX.2.2.2.2.2.2.2.2.1 d M pc lv st S o j x hd h0 (k0 X hX)
theorem zr_lload {d : Nat} {M : zM} {pc : Nat} {lv : zL} {st : List Value} {S : zS} {o : zO} {i : Nat} {x : Int64} (hd : decode M.2.1 pc = .ok (.lload i, 2)) (h0 : (i, Value.long x) ∈ lv) (k0 : z_Ex d M (pc + 2) lv (.long x :: st) S o) : z_Ex d M pc lv (st) S o := fun X hX => hX.2.2.2.2.2.2.2.2.2.1 d M pc lv st S o i x hd h0 (k0 X hX)
theorem zr_aload_n {d : Nat} {M : zM} {pc : Nat} {lv : zL} {st : List Value} {S : zS} {o : zO} {j : Fin 4} {x : Nat} (hd : decode M.2.1 pc = .ok (.aload_n j, 1)) (h0 : ((j : Nat), Value.ref x) ∈ lv) (k0 : z_Ex d M (pc + 1) lv (.ref x :: st) S o) : z_Ex d M pc lv (st) S o := fun X hX => hX.2.2.2.2.2.2.2.2.2.2.1 d M pc lv st S o j x hd h0 (k0 X hX)
theorem zr_aload {d : Nat} {M : zM} {pc : Nat} {lv : zL} {st : List Value} {S : zS} {o : zO} {i : Nat} {x : Nat} (hd : decode M.2.1 pc = .ok (.aload i, 2)) (h0 : (i, Value.ref x) ∈ lv) (k0 : z_Ex d M (pc + 2) lv (.ref x :: st) S o) : z_Ex d M pc lv (st) S o := fun X hX => hX.2.2.2.2.2.2.2.2.2.2.2.1 d M pc lv st S o i x hd h0 (k0 X hX)
theorem zr_aload_nN {d : Nat} {M : zM} {pc : Nat} {lv : zL} {st : List Value} {S : zS} {o : zO} {j : Fin 4} (hd : decode M.2.1 pc = .ok (.aload_n j, 1)) (h0 : ((j : Nat), Value.null) ∈ lv) (k0 : z_Ex d M (pc + 1) lv (.null :: st) S o) : z_Ex d M pc lv (st) S o := fun X hX => hX.2.2.2.2.2.2.2.2.2.2.2.2.1 d M pc lv st S o j hd h0 (k0 X hX)
theorem zr_aloadN {d : Nat} {M : zM} {pc : Nat} {lv : zL} {st : List Value} {S : zS} {o : zO} {i : Nat} (hd : decode M.2.1 pc = .ok (.aload i, 2)) (h0 : (i, Value.null) ∈ lv) (k0 : z_Ex d M (pc + 2) lv (.null :: st) S o) : z_Ex d M pc lv (st) S o := fun X hX => hX.2.2.2.2.2.2.2.2.2.2.2.2.2.1 d M pc lv st S o i hd h0 (k0 X hX)
theorem zr_istore_n {d : Nat} {M : zM} {pc : Nat} {lv : zL} {st : List Value} {S : zS} {o : zO} {j : Fin 4} {x : Int32} (hd : decode M.2.1 pc = .ok (.istore_n j, 1)) (h0 : (j : Nat) < M.2.2.1) (k0 : z_Ex d M (pc + 1) (((j : Nat), Value.int x) :: z_k1 ((j : Nat)) lv) (st) S o) : z_Ex d M pc lv (.int x :: st) S o := fun X hX => hX.2.2.2.2.2.2.2.2.2.2.2.2.2.2.1 d M pc lv st S o j x hd h0 (k0 X hX)
theorem zr_istore {d : Nat} {M : zM} {pc : Nat} {lv : zL} {st : List Value} {S : zS} {o : zO} {i : Nat} {x : Int32} (hd : decode M.2.1 pc = .ok (.istore i, 2)) (h0 : i < M.2.2.1) (k0 : z_Ex d M (pc + 2) ((i, Value.int x) :: z_k1 (i) lv) (st) S o) : z_Ex d M pc lv (.int x :: st) S o := fun X hX => hX.2.2.2.2.2.2.2.2.2.2.2.2.2.2.2.1 d M pc lv st S o i x hd h0 (k0 X hX)
theorem zr_lstore_n {d : Nat} {M : zM} {pc : Nat} {lv : zL} {st : List Value} {S : zS} {o : zO} {j : Fin 4} {x : Int64} (hd : decode M.2.1 pc = .ok (.lstore_n j, 1)) (h0 : (j : Nat) + 1 < M.2.2.1) (k0 : z_Ex d M (pc + 1) (((j : Nat), Value.long x) :: z_k2 ((j : Nat)) lv) (st) S o) : z_Ex d M pc lv (.long x :: st) S o := fun X hX => hX.2.2.2.2.2.2.2.2.2.2.2.2.2.2.2.2.1 d M pc lv st S o j x hd h0 (k0 X hX)
theorem zr_lstore {d : Nat} {M : zM} {pc : Nat} {lv : zL} {st : List Value} {S : zS} {o : zO} {i : Nat} {x : Int64} (hd : decode M.2.1 pc = .ok (.lstore i, 2)) (h0 : i + 1 < M.2.2.1) (k0 : z_Ex d M (pc + 2) ((i, Value.long x) :: z_k2 (i) lv) (st) S o) : z_Ex d M pc lv (.long x :: st) S o := fun X hX => hX.2.2.2.2.2.2.2.2.2.2.2.2.2.2.2.2.2.1 d M pc lv st S o i x hd h0 (k0 X hX)
theorem zr_astore_n {d : Nat} {M : zM} {pc : Nat} {lv : zL} {st : List Value} {S : zS} {o : zO} {j : Fin 4} {x : Nat} (hd : decode M.2.1 pc = .ok (.astore_n j, 1)) (h0 : (j : Nat) < M.2.2.1) (k0 : z_Ex d M (pc + 1) (((j : Nat), Value.ref x) :: z_k1 ((j : Nat)) lv) (st) S o) : z_Ex d M pc lv (.ref x :: st) S o := fun X hX => hX.2.2.2.2.2.2.2.2.2.2.2.2.2.2.2.2.2.2.1 d M pc lv st S o j x hd h0 (k0 X hX)
theorem zr_astore {d : Nat} {M : zM} {pc : Nat} {lv : zL} {st : List Value} {S : zS} {o : zO} {i : Nat} {x : Nat} (hd : decode M.2.1 pc = .ok (.astore i, 2)) (h0 : i < M.2.2.1) (k0 : z_Ex d M (pc + 2) ((i, Value.ref x) :: z_k1 (i) lv) (st) S o) : z_Ex d M pc lv (.ref x :: st) S o := fun X hX => hX.2.2.2.2.2.2.2.2.2.2.2.2.2.2.2.2.2.2.2.1 d M pc lv st S o i x hd h0 (k0 X hX)
theorem zr_astore_nN {d : Nat} {M : zM} {pc : Nat} {lv : zL} {st : List Value} {S : zS} {o : zO} {j : Fin 4} (hd : decode M.2.1 pc = .ok (.astore_n j, 1)) (h0 : (j : Nat) < M.2.2.1) (k0 : z_Ex d M (pc + 1) (((j : Nat), Value.null) :: z_k1 ((j : Nat)) lv) (st) S o) : z_Ex d M pc lv (.null :: st) S o := fun X hX => hX.2.2.2.2.2.2.2.2.2.2.2.2.2.2.2.2.2.2.2.2.1 d M pc lv st S o j hd h0 (k0 X hX)
theorem zr_astoreN {d : Nat} {M : zM} {pc : Nat} {lv : zL} {st : List Value} {S : zS} {o : zO} {i : Nat} (hd : decode M.2.1 pc = .ok (.astore i, 2)) (h0 : i < M.2.2.1) (k0 : z_Ex d M (pc + 2) ((i, Value.null) :: z_k1 (i) lv) (st) S o) : z_Ex d M pc lv (.null :: st) S o := fun X hX => hX.2.2.2.2.2.2.2.2.2.2.2.2.2.2.2.2.2.2.2.2.2.1 d M pc lv st S o i hd h0 (k0 X hX)
theorem zr_iinc {d : Nat} {M : zM} {pc : Nat} {lv : zL} {st : List Value} {S : zS} {o : zO} {i : Nat} {n : Int} {x : Int32} (hd : decode M.2.1 pc = .ok (.iinc i n, 3)) (h0 : (i, Value.int x) ∈ lv) (h1 : i < M.2.2.1) (k0 : z_Ex d M (pc + 3) ((i, Value.int (x + Int32.ofInt n)) :: z_k1 i lv) (st) S o) : z_Ex d M pc lv (st) S o := fun X hX => hX.2.2.2.2.2.2.2.2.2.2.2.2.2.2.2.2.2.2.2.2.2.2.1 d M pc lv st S o i n x hd h0 h1 (k0 X hX)
theorem zr_iadd {d : Nat} {M : zM} {pc : Nat} {lv : zL} {st : List Value} {S : zS} {o : zO} {x y : Int32} (hd : decode M.2.1 pc = .ok (.iadd, 1))  (k0 : z_Ex d M (pc + 1) lv (.int (x + y) :: st) S o) : z_Ex d M pc lv (.int y :: .int x :: st) S o := fun X hX => hX.2.2.2.2.2.2.2.2.2.2.2.2.2.2.2.2.2.2.2.2.2.2.2.1 d M pc lv st S o x y hd  (k0 X hX)
theorem zr_isub {d : Nat} {M : zM} {pc : Nat} {lv : zL} {st : List Value} {S : zS} {o : zO} {x y : Int32} (hd : decode M.2.1 pc = .ok (.isub, 1))  (k0 : z_Ex d M (pc + 1) lv (.int (x - y) :: st) S o) : z_Ex d M pc lv (.int y :: .int x :: st) S o := fun X hX => hX.2.2.2.2.2.2.2.2.2.2.2.2.2.2.2.2.2.2.2.2.2.2.2.2.1 d M pc lv st S o x y hd  (k0 X hX)
theorem zr_imul {d : Nat} {M : zM} {pc : Nat} {lv : zL} {st : List Value} {S : zS} {o : zO} {x y : Int32} (hd : decode M.2.1 pc = .ok (.imul, 1))  (k0 : z_Ex d M (pc + 1) lv (.int (x * y) :: st) S o) : z_Ex d M pc lv (.int y :: .int x :: st) S o := fun X hX => hX.2.2.2.2.2.2.2.2.2.2.2.2.2.2.2.2.2.2.2.2.2.2.2.2.2.1 d M pc lv st S o x y hd  (k0 X hX)
theorem zr_iand {d : Nat} {M : zM} {pc : Nat} {lv : zL} {st : List Value} {S : zS} {o : zO} {x y : Int32} (hd : decode M.2.1 pc = .ok (.iand, 1))  (k0 : z_Ex d M (pc + 1) lv (.int (x &&& y) :: st) S o) : z_Ex d M pc lv (.int y :: .int x :: st) S o := fun X hX => hX.2.2.2.2.2.2.2.2.2.2.2.2.2.2.2.2.2.2.2.2.2.2.2.2.2.2.1 d M pc lv st S o x y hd  (k0 X hX)
theorem zr_ior {d : Nat} {M : zM} {pc : Nat} {lv : zL} {st : List Value} {S : zS} {o : zO} {x y : Int32} (hd : decode M.2.1 pc = .ok (.ior, 1))  (k0 : z_Ex d M (pc + 1) lv (.int (x ||| y) :: st) S o) : z_Ex d M pc lv (.int y :: .int x :: st) S o := fun X hX => hX.2.2.2.2.2.2.2.2.2.2.2.2.2.2.2.2.2.2.2.2.2.2.2.2.2.2.2.1 d M pc lv st S o x y hd  (k0 X hX)
theorem zr_ixor {d : Nat} {M : zM} {pc : Nat} {lv : zL} {st : List Value} {S : zS} {o : zO} {x y : Int32} (hd : decode M.2.1 pc = .ok (.ixor, 1))  (k0 : z_Ex d M (pc + 1) lv (.int (x ^^^ y) :: st) S o) : z_Ex d M pc lv (.int y :: .int x :: st) S o := fun X hX => hX.2.2.2.2.2.2.2.2.2.2.2.2.2.2.2.2.2.2.2.2.2.2.2.2.2.2.2.2.1 d M pc lv st S o x y hd  (k0 X hX)
theorem zr_ishl {d : Nat} {M : zM} {pc : Nat} {lv : zL} {st : List Value} {S : zS} {o : zO} {x y : Int32} (hd : decode M.2.1 pc = .ok (.ishl, 1))  (k0 : z_Ex d M (pc + 1) lv (.int (x <<< (y &&& 31)) :: st) S o) : z_Ex d M pc lv (.int y :: .int x :: st) S o := fun X hX => hX.2.2.2.2.2.2.2.2.2.2.2.2.2.2.2.2.2.2.2.2.2.2.2.2.2.2.2.2.2.1 d M pc lv st S o x y hd  (k0 X hX)
theorem zr_ishr {d : Nat} {M : zM} {pc : Nat} {lv : zL} {st : List Value} {S : zS} {o : zO} {x y : Int32} (hd : decode M.2.1 pc = .ok (.ishr, 1))  (k0 : z_Ex d M (pc + 1) lv (.int (x >>> (y &&& 31)) :: st) S o) : z_Ex d M pc lv (.int y :: .int x :: st) S o := fun X hX => hX.2.2.2.2.2.2.2.2.2.2.2.2.2.2.2.2.2.2.2.2.2.2.2.2.2.2.2.2.2.2.1 d M pc lv st S o x y hd  (k0 X hX)
theorem zr_idiv {d : Nat} {M : zM} {pc : Nat} {lv : zL} {st : List Value} {S : zS} {o : zO} {x y : Int32} (hd : decode M.2.1 pc = .ok (.idiv, 1)) (h0 : ¬ y = 0) (k0 : z_Ex d M (pc + 1) lv (.int (x / y) :: st) S o) : z_Ex d M pc lv (.int y :: .int x :: st) S o := fun X hX => hX.2.2.2.2.2.2.2.2.2.2.2.2.2.2.2.2.2.2.2.2.2.2.2.2.2.2.2.2.2.2.2.1 d M pc lv st S o x y hd h0 (k0 X hX)
theorem zr_irem {d : Nat} {M : zM} {pc : Nat} {lv : zL} {st : List Value} {S : zS} {o : zO} {x y : Int32} (hd : decode M.2.1 pc = .ok (.irem, 1)) (h0 : ¬ y = 0) (k0 : z_Ex d M (pc + 1) lv (.int (x - x / y * y) :: st) S o) : z_Ex d M pc lv (.int y :: .int x :: st) S o := fun X hX => hX.2.2.2.2.2.2.2.2.2.2.2.2.2.2.2.2.2.2.2.2.2.2.2.2.2.2.2.2.2.2.2.2.1 d M pc lv st S o x y hd h0 (k0 X hX)
theorem zr_ladd {d : Nat} {M : zM} {pc : Nat} {lv : zL} {st : List Value} {S : zS} {o : zO} {x y : Int64} (hd : decode M.2.1 pc = .ok (.ladd, 1))  (k0 : z_Ex d M (pc + 1) lv (.long (x + y) :: st) S o) : z_Ex d M pc lv (.long y :: .long x :: st) S o := fun X hX => hX.2.2.2.2.2.2.2.2.2.2.2.2.2.2.2.2.2.2.2.2.2.2.2.2.2.2.2.2.2.2.2.2.2.1 d M pc lv st S o x y hd  (k0 X hX)
theorem zr_lsub {d : Nat} {M : zM} {pc : Nat} {lv : zL} {st : List Value} {S : zS} {o : zO} {x y : Int64} (hd : decode M.2.1 pc = .ok (.lsub, 1))  (k0 : z_Ex d M (pc + 1) lv (.long (x - y) :: st) S o) : z_Ex d M pc lv (.long y :: .long x :: st) S o := fun X hX => hX.2.2.2.2.2.2.2.2.2.2.2.2.2.2.2.2.2.2.2.2.2.2.2.2.2.2.2.2.2.2.2.2.2.2.1 d M pc lv st S o x y hd  (k0 X hX)
theorem zr_lmul {d : Nat} {M : zM} {pc : Nat} {lv : zL} {st : List Value} {S : zS} {o : zO} {x y : Int64} (hd : decode M.2.1 pc = .ok (.lmul, 1))  (k0 : z_Ex d M (pc + 1) lv (.long (x * y) :: st) S o) : z_Ex d M pc lv (.long y :: .long x :: st) S o := fun X hX => hX.2.2.2.2.2.2.2.2.2.2.2.2.2.2.2.2.2.2.2.2.2.2.2.2.2.2.2.2.2.2.2.2.2.2.2.1 d M pc lv st S o x y hd  (k0 X hX)
theorem zr_land {d : Nat} {M : zM} {pc : Nat} {lv : zL} {st : List Value} {S : zS} {o : zO} {x y : Int64} (hd : decode M.2.1 pc = .ok (.land, 1))  (k0 : z_Ex d M (pc + 1) lv (.long (x &&& y) :: st) S o) : z_Ex d M pc lv (.long y :: .long x :: st) S o := fun X hX => hX.2.2.2.2.2.2.2.2.2.2.2.2.2.2.2.2.2.2.2.2.2.2.2.2.2.2.2.2.2.2.2.2.2.2.2.2.1 d M pc lv st S o x y hd  (k0 X hX)
theorem zr_lor {d : Nat} {M : zM} {pc : Nat} {lv : zL} {st : List Value} {S : zS} {o : zO} {x y : Int64} (hd : decode M.2.1 pc = .ok (.lor, 1))  (k0 : z_Ex d M (pc + 1) lv (.long (x ||| y) :: st) S o) : z_Ex d M pc lv (.long y :: .long x :: st) S o := fun X hX => hX.2.2.2.2.2.2.2.2.2.2.2.2.2.2.2.2.2.2.2.2.2.2.2.2.2.2.2.2.2.2.2.2.2.2.2.2.2.1 d M pc lv st S o x y hd  (k0 X hX)
theorem zr_lxor {d : Nat} {M : zM} {pc : Nat} {lv : zL} {st : List Value} {S : zS} {o : zO} {x y : Int64} (hd : decode M.2.1 pc = .ok (.lxor, 1))  (k0 : z_Ex d M (pc + 1) lv (.long (x ^^^ y) :: st) S o) : z_Ex d M pc lv (.long y :: .long x :: st) S o := fun X hX => hX.2.2.2.2.2.2.2.2.2.2.2.2.2.2.2.2.2.2.2.2.2.2.2.2.2.2.2.2.2.2.2.2.2.2.2.2.2.2.1 d M pc lv st S o x y hd  (k0 X hX)
theorem zr_ineg {d : Nat} {M : zM} {pc : Nat} {lv : zL} {st : List Value} {S : zS} {o : zO} {x : Int32} (hd : decode M.2.1 pc = .ok (.ineg, 1))  (k0 : z_Ex d M (pc + 1) lv (.int (-x) :: st) S o) : z_Ex d M pc lv (.int x :: st) S o := fun X hX => hX.2.2.2.2.2.2.2.2.2.2.2.2.2.2.2.2.2.2.2.2.2.2.2.2.2.2.2.2.2.2.2.2.2.2.2.2.2.2.2.1 d M pc lv st S o x hd  (k0 X hX)
theorem zr_iushr {d : Nat} {M : zM} {pc : Nat} {lv : zL} {st : List Value} {S : zS} {o : zO} {x y : Int32} (hd : decode M.2.1 pc = .ok (.iushr, 1))  (k0 : z_Ex d M (pc + 1) lv (.int (x.toUInt32 >>> (y.toUInt32 &&& Int32.toUInt32 31)).toInt32 :: st) S o) : z_Ex d M pc lv (.int y :: .int x :: st) S o := fun X hX => hX.2.2.2.2.2.2.2.2.2.2.2.2.2.2.2.2.2.2.2.2.2.2.2.2.2.2.2.2.2.2.2.2.2.2.2.2.2.2.2.2.1 d M pc lv st S o x y hd  (k0 X hX)
theorem zr_lushr {d : Nat} {M : zM} {pc : Nat} {lv : zL} {st : List Value} {S : zS} {o : zO} {x : Int64} {y : Int32} (hd : decode M.2.1 pc = .ok (.lushr, 1))  (k0 : z_Ex d M (pc + 1) lv (.long (x.toUInt64 >>> (y.toInt64.toUInt64 &&& Int64.toUInt64 63)).toInt64 :: st) S o) : z_Ex d M pc lv (.int y :: .long x :: st) S o := fun X hX => hX.2.2.2.2.2.2.2.2.2.2.2.2.2.2.2.2.2.2.2.2.2.2.2.2.2.2.2.2.2.2.2.2.2.2.2.2.2.2.2.2.2.1 d M pc lv st S o x y hd  (k0 X hX)
theorem zr_lshl {d : Nat} {M : zM} {pc : Nat} {lv : zL} {st : List Value} {S : zS} {o : zO} {x : Int64} {y : Int32} (hd : decode M.2.1 pc = .ok (.lshl, 1))  (k0 : z_Ex d M (pc + 1) lv (.long (x <<< (y.toInt64 &&& 63)) :: st) S o) : z_Ex d M pc lv (.int y :: .long x :: st) S o := fun X hX => hX.2.2.2.2.2.2.2.2.2.2.2.2.2.2.2.2.2.2.2.2.2.2.2.2.2.2.2.2.2.2.2.2.2.2.2.2.2.2.2.2.2.2.1 d M pc lv st S o x y hd  (k0 X hX)
theorem zr_lshr {d : Nat} {M : zM} {pc : Nat} {lv : zL} {st : List Value} {S : zS} {o : zO} {x : Int64} {y : Int32} (hd : decode M.2.1 pc = .ok (.lshr, 1))  (k0 : z_Ex d M (pc + 1) lv (.long (x >>> (y.toInt64 &&& 63)) :: st) S o) : z_Ex d M pc lv (.int y :: .long x :: st) S o := fun X hX => hX.2.2.2.2.2.2.2.2.2.2.2.2.2.2.2.2.2.2.2.2.2.2.2.2.2.2.2.2.2.2.2.2.2.2.2.2.2.2.2.2.2.2.2.1 d M pc lv st S o x y hd  (k0 X hX)
theorem zr_i2l {d : Nat} {M : zM} {pc : Nat} {lv : zL} {st : List Value} {S : zS} {o : zO} {x : Int32} (hd : decode M.2.1 pc = .ok (.i2l, 1))  (k0 : z_Ex d M (pc + 1) lv (.long x.toInt64 :: st) S o) : z_Ex d M pc lv (.int x :: st) S o := fun X hX => hX.2.2.2.2.2.2.2.2.2.2.2.2.2.2.2.2.2.2.2.2.2.2.2.2.2.2.2.2.2.2.2.2.2.2.2.2.2.2.2.2.2.2.2.2.1 d M pc lv st S o x hd  (k0 X hX)
theorem zr_l2i {d : Nat} {M : zM} {pc : Nat} {lv : zL} {st : List Value} {S : zS} {o : zO} {x : Int64} (hd : decode M.2.1 pc = .ok (.l2i, 1))  (k0 : z_Ex d M (pc + 1) lv (.int x.toInt32 :: st) S o) : z_Ex d M pc lv (.long x :: st) S o := fun X hX => hX.2.2.2.2.2.2.2.2.2.2.2.2.2.2.2.2.2.2.2.2.2.2.2.2.2.2.2.2.2.2.2.2.2.2.2.2.2.2.2.2.2.2.2.2.2.1 d M pc lv st S o x hd  (k0 X hX)
theorem zr_i2b {d : Nat} {M : zM} {pc : Nat} {lv : zL} {st : List Value} {S : zS} {o : zO} {x : Int32} (hd : decode M.2.1 pc = .ok (.i2b, 1))  (k0 : z_Ex d M (pc + 1) lv (.int x.toInt8.toInt32 :: st) S o) : z_Ex d M pc lv (.int x :: st) S o := fun X hX => hX.2.2.2.2.2.2.2.2.2.2.2.2.2.2.2.2.2.2.2.2.2.2.2.2.2.2.2.2.2.2.2.2.2.2.2.2.2.2.2.2.2.2.2.2.2.2.1 d M pc lv st S o x hd  (k0 X hX)
theorem zr_i2c {d : Nat} {M : zM} {pc : Nat} {lv : zL} {st : List Value} {S : zS} {o : zO} {x : Int32} (hd : decode M.2.1 pc = .ok (.i2c, 1))  (k0 : z_Ex d M (pc + 1) lv (.int (x.toUInt32 % 65536).toInt32 :: st) S o) : z_Ex d M pc lv (.int x :: st) S o := fun X hX => hX.2.2.2.2.2.2.2.2.2.2.2.2.2.2.2.2.2.2.2.2.2.2.2.2.2.2.2.2.2.2.2.2.2.2.2.2.2.2.2.2.2.2.2.2.2.2.2.1 d M pc lv st S o x hd  (k0 X hX)
theorem zr_dup {d : Nat} {M : zM} {pc : Nat} {lv : zL} {st : List Value} {S : zS} {o : zO} {v : Value} (hd : decode M.2.1 pc = .ok (.dup, 1)) (h0 : v.category = 1) (k0 : z_Ex d M (pc + 1) lv (v :: v :: st) S o) : z_Ex d M pc lv (v :: st) S o := fun X hX => hX.2.2.2.2.2.2.2.2.2.2.2.2.2.2.2.2.2.2.2.2.2.2.2.2.2.2.2.2.2.2.2.2.2.2.2.2.2.2.2.2.2.2.2.2.2.2.2.2.1 d M pc lv st S o v hd h0 (k0 X hX)
theorem zr_pop {d : Nat} {M : zM} {pc : Nat} {lv : zL} {st : List Value} {S : zS} {o : zO} {v : Value} (hd : decode M.2.1 pc = .ok (.pop, 1)) (h0 : v.category = 1) (k0 : z_Ex d M (pc + 1) lv (st) S o) : z_Ex d M pc lv (v :: st) S o := fun X hX => hX.2.2.2.2.2.2.2.2.2.2.2.2.2.2.2.2.2.2.2.2.2.2.2.2.2.2.2.2.2.2.2.2.2.2.2.2.2.2.2.2.2.2.2.2.2.2.2.2.2.1 d M pc lv st S o v hd h0 (k0 X hX)
theorem zr_dup2 {d : Nat} {M : zM} {pc : Nat} {lv : zL} {st : List Value} {S : zS} {o : zO} {v u : Value} (hd : decode M.2.1 pc = .ok (.dup2, 1)) (h0 : v.category = 1) (h1 : u.category = 1) (k0 : z_Ex d M (pc + 1) lv (v :: u :: v :: u :: st) S o) : z_Ex d M pc lv (v :: u :: st) S o := fun X hX => hX.2.2.2.2.2.2.2.2.2.2.2.2.2.2.2.2.2.2.2.2.2.2.2.2.2.2.2.2.2.2.2.2.2.2.2.2.2.2.2.2.2.2.2.2.2.2.2.2.2.2.1 d M pc lv st S o v u hd h0 h1 (k0 X hX)
theorem zr_if_eq {d : Nat} {M : zM} {pc : Nat} {lv : zL} {st : List Value} {S : zS} {o : zO} {x : Int32} {off : Int} {tgt : Nat} (hd : decode M.2.1 pc = .ok (.ifCond .eq off, 3)) (h0 : (pc : Int) + off = (tgt : Int)) (k0 : (x = 0) → z_Ex d M (tgt) lv (st) S o) (k1 : (¬ x = 0) → z_Ex d M (pc + 3) lv (st) S o) : z_Ex d M pc lv (.int x :: st) S o := fun X hX => hX.2.2.2.2.2.2.2.2.2.2.2.2.2.2.2.2.2.2.2.2.2.2.2.2.2.2.2.2.2.2.2.2.2.2.2.2.2.2.2.2.2.2.2.2.2.2.2.2.2.2.2.1 d M pc lv st S o x off tgt hd h0 (fun hb => k0 hb X hX) (fun hb => k1 hb X hX)
theorem zr_icmp_eq {d : Nat} {M : zM} {pc : Nat} {lv : zL} {st : List Value} {S : zS} {o : zO} {x y : Int32} {off : Int} {tgt : Nat} (hd : decode M.2.1 pc = .ok (.if_icmp .eq off, 3)) (h0 : (pc : Int) + off = (tgt : Int)) (k0 : (x = y) → z_Ex d M (tgt) lv (st) S o) (k1 : (¬ x = y) → z_Ex d M (pc + 3) lv (st) S o) : z_Ex d M pc lv (.int y :: .int x :: st) S o := fun X hX => hX.2.2.2.2.2.2.2.2.2.2.2.2.2.2.2.2.2.2.2.2.2.2.2.2.2.2.2.2.2.2.2.2.2.2.2.2.2.2.2.2.2.2.2.2.2.2.2.2.2.2.2.2.1 d M pc lv st S o x y off tgt hd h0 (fun hb => k0 hb X hX) (fun hb => k1 hb X hX)
theorem zr_if_ne {d : Nat} {M : zM} {pc : Nat} {lv : zL} {st : List Value} {S : zS} {o : zO} {x : Int32} {off : Int} {tgt : Nat} (hd : decode M.2.1 pc = .ok (.ifCond .ne off, 3)) (h0 : (pc : Int) + off = (tgt : Int)) (k0 : (¬ x = 0) → z_Ex d M (tgt) lv (st) S o) (k1 : (x = 0) → z_Ex d M (pc + 3) lv (st) S o) : z_Ex d M pc lv (.int x :: st) S o := fun X hX => hX.2.2.2.2.2.2.2.2.2.2.2.2.2.2.2.2.2.2.2.2.2.2.2.2.2.2.2.2.2.2.2.2.2.2.2.2.2.2.2.2.2.2.2.2.2.2.2.2.2.2.2.2.2.1 d M pc lv st S o x off tgt hd h0 (fun hb => k0 hb X hX) (fun hb => k1 hb X hX)
theorem zr_icmp_ne {d : Nat} {M : zM} {pc : Nat} {lv : zL} {st : List Value} {S : zS} {o : zO} {x y : Int32} {off : Int} {tgt : Nat} (hd : decode M.2.1 pc = .ok (.if_icmp .ne off, 3)) (h0 : (pc : Int) + off = (tgt : Int)) (k0 : (¬ x = y) → z_Ex d M (tgt) lv (st) S o) (k1 : (x = y) → z_Ex d M (pc + 3) lv (st) S o) : z_Ex d M pc lv (.int y :: .int x :: st) S o := fun X hX => hX.2.2.2.2.2.2.2.2.2.2.2.2.2.2.2.2.2.2.2.2.2.2.2.2.2.2.2.2.2.2.2.2.2.2.2.2.2.2.2.2.2.2.2.2.2.2.2.2.2.2.2.2.2.2.1 d M pc lv st S o x y off tgt hd h0 (fun hb => k0 hb X hX) (fun hb => k1 hb X hX)
theorem zr_if_lt {d : Nat} {M : zM} {pc : Nat} {lv : zL} {st : List Value} {S : zS} {o : zO} {x : Int32} {off : Int} {tgt : Nat} (hd : decode M.2.1 pc = .ok (.ifCond .lt off, 3)) (h0 : (pc : Int) + off = (tgt : Int)) (k0 : (x < 0) → z_Ex d M (tgt) lv (st) S o) (k1 : (¬ x < 0) → z_Ex d M (pc + 3) lv (st) S o) : z_Ex d M pc lv (.int x :: st) S o := fun X hX => hX.2.2.2.2.2.2.2.2.2.2.2.2.2.2.2.2.2.2.2.2.2.2.2.2.2.2.2.2.2.2.2.2.2.2.2.2.2.2.2.2.2.2.2.2.2.2.2.2.2.2.2.2.2.2.2.1 d M pc lv st S o x off tgt hd h0 (fun hb => k0 hb X hX) (fun hb => k1 hb X hX)
theorem zr_icmp_lt {d : Nat} {M : zM} {pc : Nat} {lv : zL} {st : List Value} {S : zS} {o : zO} {x y : Int32} {off : Int} {tgt : Nat} (hd : decode M.2.1 pc = .ok (.if_icmp .lt off, 3)) (h0 : (pc : Int) + off = (tgt : Int)) (k0 : (x < y) → z_Ex d M (tgt) lv (st) S o) (k1 : (¬ x < y) → z_Ex d M (pc + 3) lv (st) S o) : z_Ex d M pc lv (.int y :: .int x :: st) S o := fun X hX => hX.2.2.2.2.2.2.2.2.2.2.2.2.2.2.2.2.2.2.2.2.2.2.2.2.2.2.2.2.2.2.2.2.2.2.2.2.2.2.2.2.2.2.2.2.2.2.2.2.2.2.2.2.2.2.2.2.1 d M pc lv st S o x y off tgt hd h0 (fun hb => k0 hb X hX) (fun hb => k1 hb X hX)
theorem zr_if_ge {d : Nat} {M : zM} {pc : Nat} {lv : zL} {st : List Value} {S : zS} {o : zO} {x : Int32} {off : Int} {tgt : Nat} (hd : decode M.2.1 pc = .ok (.ifCond .ge off, 3)) (h0 : (pc : Int) + off = (tgt : Int)) (k0 : (0 ≤ x) → z_Ex d M (tgt) lv (st) S o) (k1 : (¬ 0 ≤ x) → z_Ex d M (pc + 3) lv (st) S o) : z_Ex d M pc lv (.int x :: st) S o := fun X hX => hX.2.2.2.2.2.2.2.2.2.2.2.2.2.2.2.2.2.2.2.2.2.2.2.2.2.2.2.2.2.2.2.2.2.2.2.2.2.2.2.2.2.2.2.2.2.2.2.2.2.2.2.2.2.2.2.2.2.1 d M pc lv st S o x off tgt hd h0 (fun hb => k0 hb X hX) (fun hb => k1 hb X hX)
theorem zr_icmp_ge {d : Nat} {M : zM} {pc : Nat} {lv : zL} {st : List Value} {S : zS} {o : zO} {x y : Int32} {off : Int} {tgt : Nat} (hd : decode M.2.1 pc = .ok (.if_icmp .ge off, 3)) (h0 : (pc : Int) + off = (tgt : Int)) (k0 : (y ≤ x) → z_Ex d M (tgt) lv (st) S o) (k1 : (¬ y ≤ x) → z_Ex d M (pc + 3) lv (st) S o) : z_Ex d M pc lv (.int y :: .int x :: st) S o := fun X hX => hX.2.2.2.2.2.2.2.2.2.2.2.2.2.2.2.2.2.2.2.2.2.2.2.2.2.2.2.2.2.2.2.2.2.2.2.2.2.2.2.2.2.2.2.2.2.2.2.2.2.2.2.2.2.2.2.2.2.2.1 d M pc lv st S o x y off tgt hd h0 (fun hb => k0 hb X hX) (fun hb => k1 hb X hX)
theorem zr_if_gt {d : Nat} {M : zM} {pc : Nat} {lv : zL} {st : List Value} {S : zS} {o : zO} {x : Int32} {off : Int} {tgt : Nat} (hd : decode M.2.1 pc = .ok (.ifCond .gt off, 3)) (h0 : (pc : Int) + off = (tgt : Int)) (k0 : (0 < x) → z_Ex d M (tgt) lv (st) S o) (k1 : (¬ 0 < x) → z_Ex d M (pc + 3) lv (st) S o) : z_Ex d M pc lv (.int x :: st) S o := fun X hX => hX.2.2.2.2.2.2.2.2.2.2.2.2.2.2.2.2.2.2.2.2.2.2.2.2.2.2.2.2.2.2.2.2.2.2.2.2.2.2.2.2.2.2.2.2.2.2.2.2.2.2.2.2.2.2.2.2.2.2.2.1 d M pc lv st S o x off tgt hd h0 (fun hb => k0 hb X hX) (fun hb => k1 hb X hX)
theorem zr_icmp_gt {d : Nat} {M : zM} {pc : Nat} {lv : zL} {st : List Value} {S : zS} {o : zO} {x y : Int32} {off : Int} {tgt : Nat} (hd : decode M.2.1 pc = .ok (.if_icmp .gt off, 3)) (h0 : (pc : Int) + off = (tgt : Int)) (k0 : (y < x) → z_Ex d M (tgt) lv (st) S o) (k1 : (¬ y < x) → z_Ex d M (pc + 3) lv (st) S o) : z_Ex d M pc lv (.int y :: .int x :: st) S o := fun X hX => hX.2.2.2.2.2.2.2.2.2.2.2.2.2.2.2.2.2.2.2.2.2.2.2.2.2.2.2.2.2.2.2.2.2.2.2.2.2.2.2.2.2.2.2.2.2.2.2.2.2.2.2.2.2.2.2.2.2.2.2.2.1 d M pc lv st S o x y off tgt hd h0 (fun hb => k0 hb X hX) (fun hb => k1 hb X hX)
theorem zr_if_le {d : Nat} {M : zM} {pc : Nat} {lv : zL} {st : List Value} {S : zS} {o : zO} {x : Int32} {off : Int} {tgt : Nat} (hd : decode M.2.1 pc = .ok (.ifCond .le off, 3)) (h0 : (pc : Int) + off = (tgt : Int)) (k0 : (x ≤ 0) → z_Ex d M (tgt) lv (st) S o) (k1 : (¬ x ≤ 0) → z_Ex d M (pc + 3) lv (st) S o) : z_Ex d M pc lv (.int x :: st) S o := fun X hX => hX.2.2.2.2.2.2.2.2.2.2.2.2.2.2.2.2.2.2.2.2.2.2.2.2.2.2.2.2.2.2.2.2.2.2.2.2.2.2.2.2.2.2.2.2.2.2.2.2.2.2.2.2.2.2.2.2.2.2.2.2.2.1 d M pc lv st S o x off tgt hd h0 (fun hb => k0 hb X hX) (fun hb => k1 hb X hX)
theorem zr_icmp_le {d : Nat} {M : zM} {pc : Nat} {lv : zL} {st : List Value} {S : zS} {o : zO} {x y : Int32} {off : Int} {tgt : Nat} (hd : decode M.2.1 pc = .ok (.if_icmp .le off, 3)) (h0 : (pc : Int) + off = (tgt : Int)) (k0 : (x ≤ y) → z_Ex d M (tgt) lv (st) S o) (k1 : (¬ x ≤ y) → z_Ex d M (pc + 3) lv (st) S o) : z_Ex d M pc lv (.int y :: .int x :: st) S o := fun X hX => hX.2.2.2.2.2.2.2.2.2.2.2.2.2.2.2.2.2.2.2.2.2.2.2.2.2.2.2.2.2.2.2.2.2.2.2.2.2.2.2.2.2.2.2.2.2.2.2.2.2.2.2.2.2.2.2.2.2.2.2.2.2.2.1 d M pc lv st S o x y off tgt hd h0 (fun hb => k0 hb X hX) (fun hb => k1 hb X hX)
theorem zr_goto {d : Nat} {M : zM} {pc : Nat} {lv : zL} {st : List Value} {S : zS} {o : zO} {off : Int} {tgt : Nat} (hd : decode M.2.1 pc = .ok (.goto off, 3)) (h0 : (pc : Int) + off = (tgt : Int)) (k0 : z_Ex d M (tgt) lv (st) S o) : z_Ex d M pc lv (st) S o := fun X hX => hX.2.2.2.2.2.2.2.2.2.2.2.2.2.2.2.2.2.2.2.2.2.2.2.2.2.2.2.2.2.2.2.2.2.2.2.2.2.2.2.2.2.2.2.2.2.2.2.2.2.2.2.2.2.2.2.2.2.2.2.2.2.2.2.1 d M pc lv st S o off tgt hd h0 (k0 X hX)
theorem zr_ifnull {d : Nat} {M : zM} {pc : Nat} {lv : zL} {st : List Value} {S : zS} {o : zO} {x : Nat} {off : Int} (hd : decode M.2.1 pc = .ok (.ifnull off, 3))  (k0 : z_Ex d M (pc + 3) lv (st) S o) : z_Ex d M pc lv (.ref x :: st) S o := fun X hX => hX.2.2.2.2.2.2.2.2.2.2.2.2.2.2.2.2.2.2.2.2.2.2.2.2.2.2.2.2.2.2.2.2.2.2.2.2.2.2.2.2.2.2.2.2.2.2.2.2.2.2.2.2.2.2.2.2.2.2.2.2.2.2.2.2.1 d M pc lv st S o x off hd  (k0 X hX)
theorem zr_ifnullN {d : Nat} {M : zM} {pc : Nat} {lv : zL} {st : List Value} {S : zS} {o : zO} {off : Int} {tgt : Nat} (hd : decode M.2.1 pc = .ok (.ifnull off, 3)) (h0 : (pc : Int) + off = (tgt : Int)) (k0 : z_Ex d M (tgt) lv (st) S o) : z_Ex d M pc lv (.null :: st) S o := fun X hX => hX.2.2.2.2.2.2.2.2.2.2.2.2.2.2.2.2.2.2.2.2.2.2.2.2.2.2.2.2.2.2.2.2.2.2.2.2.2.2.2.2.2.2.2.2.2.2.2.2.2.2.2.2.2.2.2.2.2.2.2.2.2.2.2.2.2.1 d M pc lv st S o off tgt hd h0 (k0 X hX)
theorem zr_ifnonnull {d : Nat} {M : zM} {pc : Nat} {lv : zL} {st : List Value} {S : zS} {o : zO} {x : Nat} {off : Int} {tgt : Nat} (hd : decode M.2.1 pc = .ok (.ifnonnull off, 3)) (h0 : (pc : Int) + off = (tgt : Int)) (k0 : z_Ex d M (tgt) lv (st) S o) : z_Ex d M pc lv (.ref x :: st) S o := fun X hX => hX.2.2.2.2.2.2.2.2.2.2.2.2.2.2.2.2.2.2.2.2.2.2.2.2.2.2.2.2.2.2.2.2.2.2.2.2.2.2.2.2.2.2.2.2.2.2.2.2.2.2.2.2.2.2.2.2.2.2.2.2.2.2.2.2.2.2.1 d M pc lv st S o x off tgt hd h0 (k0 X hX)
theorem zr_ifnonnullN {d : Nat} {M : zM} {pc : Nat} {lv : zL} {st : List Value} {S : zS} {o : zO} {off : Int} (hd : decode M.2.1 pc = .ok (.ifnonnull off, 3))  (k0 : z_Ex d M (pc + 3) lv (st) S o) : z_Ex d M pc lv (.null :: st) S o := fun X hX => hX.2.2.2.2.2.2.2.2.2.2.2.2.2.2.2.2.2.2.2.2.2.2.2.2.2.2.2.2.2.2.2.2.2.2.2.2.2.2.2.2.2.2.2.2.2.2.2.2.2.2.2.2.2.2.2.2.2.2.2.2.2.2.2.2.2.2.2.1 d M pc lv st S o off hd  (k0 X hX)
theorem zr_lookup {d : Nat} {M : zM} {pc : Nat} {lv : zL} {st : List Value} {S : zS} {o : zO} {x : Int32} {dflt off : Int} {ps : Array (Int × Int)} {len tgt : Nat} (hd : decode M.2.1 pc = .ok (.lookupswitch dflt ps, len)) (h0 : (ps.toList.zip (ps.toList.drop 1)).all (fun (a, next) => a.1 < next.1) = true) (h1 : Op.lookupswitch.offset ps.toList dflt x.toInt = off) (h2 : (pc : Int) + off = (tgt : Int)) (k0 : z_Ex d M (tgt) lv (st) S o) : z_Ex d M pc lv (.int x :: st) S o := fun X hX => hX.2.2.2.2.2.2.2.2.2.2.2.2.2.2.2.2.2.2.2.2.2.2.2.2.2.2.2.2.2.2.2.2.2.2.2.2.2.2.2.2.2.2.2.2.2.2.2.2.2.2.2.2.2.2.2.2.2.2.2.2.2.2.2.2.2.2.2.2.1 d M pc lv st S o x dflt off ps len tgt hd h0 h1 h2 (k0 X hX)
theorem zr_tableIn {d : Nat} {M : zM} {pc : Nat} {lv : zL} {st : List Value} {S : zS} {o : zO} {x : Int32} {dflt lo hi off : Int} {offs : Array Int} {len tgt : Nat} (hd : decode M.2.1 pc = .ok (.tableswitch dflt lo hi offs, len)) (h0 : ¬ x.toInt < lo) (h1 : ¬ hi < x.toInt) (h2 : offs[(x.toInt - lo).toNat]? = some off) (h3 : (pc : Int) + off = (tgt : Int)) (k0 : z_Ex d M (tgt) lv (st) S o) : z_Ex d M pc lv (.int x :: st) S o := fun X hX => hX.2.2.2.2.2.2.2.2.2.2.2.2.2.2.2.2.2.2.2.2.2.2.2.2.2.2.2.2.2.2.2.2.2.2.2.2.2.2.2.2.2.2.2.2.2.2.2.2.2.2.2.2.2.2.2.2.2.2.2.2.2.2.2.2.2.2.2.2.2.1 d M pc lv st S o x dflt lo hi off offs len tgt hd h0 h1 h2 h3 (k0 X hX)
theorem zr_tableOut {d : Nat} {M : zM} {pc : Nat} {lv : zL} {st : List Value} {S : zS} {o : zO} {x : Int32} {dflt lo hi : Int} {offs : Array Int} {len tgt : Nat} (hd : decode M.2.1 pc = .ok (.tableswitch dflt lo hi offs, len)) (h0 : x.toInt < lo ∨ hi < x.toInt) (h1 : (pc : Int) + dflt = (tgt : Int)) (k0 : z_Ex d M (tgt) lv (st) S o) : z_Ex d M pc lv (.int x :: st) S o := fun X hX => hX.2.2.2.2.2.2.2.2.2.2.2.2.2.2.2.2.2.2.2.2.2.2.2.2.2.2.2.2.2.2.2.2.2.2.2.2.2.2.2.2.2.2.2.2.2.2.2.2.2.2.2.2.2.2.2.2.2.2.2.2.2.2.2.2.2.2.2.2.2.2.1 d M pc lv st S o x dflt lo hi offs len tgt hd h0 h1 (k0 X hX)
theorem zr_getf {d : Nat} {M : zM} {pc : Nat} {lv : zL} {st : List Value} {S : zS} {o : zO} {idx i ci j : Nat} {ty : FieldType} {fin : Bool} {fs : List Value} {v : Value} (hd : decode M.2.1 pc = .ok (.getfield idx, 3)) (h0 : z_fOK M.1.cls idx ci j ty fin) (h1 : S.2.2 i = .inr (ci, fs)) (h2 : fs[j]? = some v) (k0 : z_Ex d M (pc + 3) lv (v :: st) S o) : z_Ex d M pc lv (.ref i :: st) S o := fun X hX => hX.2.2.2.2.2.2.2.2.2.2.2.2.2.2.2.2.2.2.2.2.2.2.2.2.2.2.2.2.2.2.2.2.2.2.2.2.2.2.2.2.2.2.2.2.2.2.2.2.2.2.2.2.2.2.2.2.2.2.2.2.2.2.2.2.2.2.2.2.2.2.2.1 d M pc lv st S o idx i ci j ty fin fs v hd h0 h1 h2 (k0 X hX)
theorem zr_putf {d : Nat} {M : zM} {pc : Nat} {lv : zL} {st : List Value} {S : zS} {o : zO} {idx i ci j : Nat} {ty : FieldType} {fs : List Value} {v : Value} (hd : decode M.2.1 pc = .ok (.putfield idx, 3)) (h0 : z_fOK M.1.cls idx ci j ty false) (h1 : S.2.2 i = .inr (ci, fs)) (h2 : j < fs.length) (h3 : narrow ty v = v ∧ fits ty v = true) (k0 : z_Ex d M (pc + 3) lv (st) (z_put S i (.inr (ci, fs.set j v))) o) : z_Ex d M pc lv (v :: .ref i :: st) S o := fun X hX => hX.2.2.2.2.2.2.2.2.2.2.2.2.2.2.2.2.2.2.2.2.2.2.2.2.2.2.2.2.2.2.2.2.2.2.2.2.2.2.2.2.2.2.2.2.2.2.2.2.2.2.2.2.2.2.2.2.2.2.2.2.2.2.2.2.2.2.2.2.2.2.2.2.1 d M pc lv st S o idx i ci j ty fs v hd h0 h1 h2 h3 (k0 X hX)
theorem zr_putF {d : Nat} {M : zM} {pc : Nat} {lv : zL} {st : List Value} {S : zS} {o : zO} {idx i ci j : Nat} {ty : FieldType} {fs : List Value} {v : Value} (hd : decode M.2.1 pc = .ok (.putfield idx, 3)) (h0 : z_fO1 M.1.cls idx ci j ty) (h1 : S.2.2 i = .inr (ci, fs)) (h2 : j < fs.length) (h3 : narrow ty v = v ∧ fits ty v = true) (h4 : M.1.name = "<init>") (k0 : z_Ex d M (pc + 3) lv (st) (z_put S i (.inr (ci, fs.set j v))) o) : z_Ex d M pc lv (v :: .ref i :: st) S o := fun X hX => hX.2.2.2.2.2.2.2.2.2.2.2.2.2.2.2.2.2.2.2.2.2.2.2.2.2.2.2.2.2.2.2.2.2.2.2.2.2.2.2.2.2.2.2.2.2.2.2.2.2.2.2.2.2.2.2.2.2.2.2.2.2.2.2.2.2.2.2.2.2.2.2.2.2.1 d M pc lv st S o idx i ci j ty fs v hd h0 h1 h2 h3 h4 (k0 X hX)
theorem zr_bald {d : Nat} {M : zM} {pc : Nat} {lv : zL} {st : List Value} {S : zS} {o : zO} {i n : Nat} {x : Int32} {g : Nat → Int32} (hd : decode M.2.1 pc = .ok (.baload, 1)) (h0 : S.2.2 i = .inl (.byte, n, .inl g)) (h1 : vp_in x n) (k0 : z_Ex d M (pc + 1) lv (.int (g x.toNatClampNeg) :: st) S o) : z_Ex d M pc lv (.int x :: .ref i :: st) S o := fun X hX => hX.2.2.2.2.2.2.2.2.2.2.2.2.2.2.2.2.2.2.2.2.2.2.2.2.2.2.2.2.2.2.2.2.2.2.2.2.2.2.2.2.2.2.2.2.2.2.2.2.2.2.2.2.2.2.2.2.2.2.2.2.2.2.2.2.2.2.2.2.2.2.2.2.2.2.1 d M pc lv st S o i n x g hd h0 h1 (k0 X hX)
theorem zr_zald {d : Nat} {M : zM} {pc : Nat} {lv : zL} {st : List Value} {S : zS} {o : zO} {i n : Nat} {x : Int32} {g : Nat → Int32} (hd : decode M.2.1 pc = .ok (.baload, 1)) (h0 : S.2.2 i = .inl (.boolean, n, .inl g)) (h1 : vp_in x n) (k0 : z_Ex d M (pc + 1) lv (.int (g x.toNatClampNeg) :: st) S o) : z_Ex d M pc lv (.int x :: .ref i :: st) S o := fun X hX => hX.2.2.2.2.2.2.2.2.2.2.2.2.2.2.2.2.2.2.2.2.2.2.2.2.2.2.2.2.2.2.2.2.2.2.2.2.2.2.2.2.2.2.2.2.2.2.2.2.2.2.2.2.2.2.2.2.2.2.2.2.2.2.2.2.2.2.2.2.2.2.2.2.2.2.2.1 d M pc lv st S o i n x g hd h0 h1 (k0 X hX)
theorem zr_iald {d : Nat} {M : zM} {pc : Nat} {lv : zL} {st : List Value} {S : zS} {o : zO} {i n : Nat} {x : Int32} {g : Nat → Int32} (hd : decode M.2.1 pc = .ok (.iaload, 1)) (h0 : S.2.2 i = .inl (.int, n, .inl g)) (h1 : vp_in x n) (k0 : z_Ex d M (pc + 1) lv (.int (g x.toNatClampNeg) :: st) S o) : z_Ex d M pc lv (.int x :: .ref i :: st) S o := fun X hX => hX.2.2.2.2.2.2.2.2.2.2.2.2.2.2.2.2.2.2.2.2.2.2.2.2.2.2.2.2.2.2.2.2.2.2.2.2.2.2.2.2.2.2.2.2.2.2.2.2.2.2.2.2.2.2.2.2.2.2.2.2.2.2.2.2.2.2.2.2.2.2.2.2.2.2.2.2.1 d M pc lv st S o i n x g hd h0 h1 (k0 X hX)
theorem zr_lald {d : Nat} {M : zM} {pc : Nat} {lv : zL} {st : List Value} {S : zS} {o : zO} {i n : Nat} {x : Int32} {g : Nat → Int64} (hd : decode M.2.1 pc = .ok (.laload, 1)) (h0 : S.2.2 i = .inl (.long, n, .inr (.inl g))) (h1 : vp_in x n) (k0 : z_Ex d M (pc + 1) lv (.long (g x.toNatClampNeg) :: st) S o) : z_Ex d M pc lv (.int x :: .ref i :: st) S o := fun X hX => hX.2.2.2.2.2.2.2.2.2.2.2.2.2.2.2.2.2.2.2.2.2.2.2.2.2.2.2.2.2.2.2.2.2.2.2.2.2.2.2.2.2.2.2.2.2.2.2.2.2.2.2.2.2.2.2.2.2.2.2.2.2.2.2.2.2.2.2.2.2.2.2.2.2.2.2.2.2.1 d M pc lv st S o i n x g hd h0 h1 (k0 X hX)
theorem zr_aald {d : Nat} {M : zM} {pc : Nat} {lv : zL} {st : List Value} {S : zS} {o : zO} {i n : Nat} {x : Int32} {ty : FieldType} {g : Nat → Option Nat} (hd : decode M.2.1 pc = .ok (.aaload, 1)) (h0 : S.2.2 i = .inl (ty, n, .inr (.inr (.inr (.inr g))))) (h1 : vp_in x n) (h2 : ty.isReference = true) (k0 : z_Ex d M (pc + 1) lv (va_rf (g x.toNatClampNeg) :: st) S o) : z_Ex d M pc lv (.int x :: .ref i :: st) S o := fun X hX => hX.2.2.2.2.2.2.2.2.2.2.2.2.2.2.2.2.2.2.2.2.2.2.2.2.2.2.2.2.2.2.2.2.2.2.2.2.2.2.2.2.2.2.2.2.2.2.2.2.2.2.2.2.2.2.2.2.2.2.2.2.2.2.2.2.2.2.2.2.2.2.2.2.2.2.2.2.2.2.1 d M pc lv st S o i n x ty g hd h0 h1 h2 (k0 X hX)
theorem zr_bast {d : Nat} {M : zM} {pc : Nat} {lv : zL} {st : List Value} {S : zS} {o : zO} {i n : Nat} {x : Int32} {g : Nat → Int32} {y : Int32} (hd : decode M.2.1 pc = .ok (.bastore, 1)) (h0 : S.2.2 i = .inl (.byte, n, .inl g)) (h1 : vp_in x n) (k0 : z_Ex d M (pc + 1) lv (st) (z_put S i (.inl (.byte, n, .inl (upd g x.toNatClampNeg (vp_nar .byte y))))) o) : z_Ex d M pc lv (.int y :: .int x :: .ref i :: st) S o := fun X hX => hX.2.2.2.2.2.2.2.2.2.2.2.2.2.2.2.2.2.2.2.2.2.2.2.2.2.2.2.2.2.2.2.2.2.2.2.2.2.2.2.2.2.2.2.2.2.2.2.2.2.2.2.2.2.2.2.2.2.2.2.2.2.2.2.2.2.2.2.2.2.2.2.2.2.2.2.2.2.2.2.1 d M pc lv st S o i n x g y hd h0 h1 (k0 X hX)
theorem zr_zast {d : Nat} {M : zM} {pc : Nat} {lv : zL} {st : List Value} {S : zS} {o : zO} {i n : Nat} {x : Int32} {g : Nat → Int32} {y : Int32} (hd : decode M.2.1 pc = .ok (.bastore, 1)) (h0 : S.2.2 i = .inl (.boolean, n, .inl g)) (h1 : vp_in x n) (k0 : z_Ex d M (pc + 1) lv (st) (z_put S i (.inl (.boolean, n, .inl (upd g x.toNatClampNeg (vp_nar .boolean y))))) o) : z_Ex d M pc lv (.int y :: .int x :: .ref i :: st) S o := fun X hX => hX.2.2.2.2.2.2.2.2.2.2.2.2.2.2.2.2.2.2.2.2.2.2.2.2.2.2.2.2.2.2.2.2.2.2.2.2.2.2.2.2.2.2.2.2.2.2.2.2.2.2.2.2.2.2.2.2.2.2.2.2.2.2.2.2.2.2.2.2.2.2.2.2.2.2.2.2.2.2.2.2.1 d M pc lv st S o i n x g y hd h0 h1 (k0 X hX)
theorem zr_iast {d : Nat} {M : zM} {pc : Nat} {lv : zL} {st : List Value} {S : zS} {o : zO} {i n : Nat} {x : Int32} {g : Nat → Int32} {y : Int32} (hd : decode M.2.1 pc = .ok (.iastore, 1)) (h0 : S.2.2 i = .inl (.int, n, .inl g)) (h1 : vp_in x n) (k0 : z_Ex d M (pc + 1) lv (st) (z_put S i (.inl (.int, n, .inl (upd g x.toNatClampNeg y)))) o) : z_Ex d M pc lv (.int y :: .int x :: .ref i :: st) S o := fun X hX => hX.2.2.2.2.2.2.2.2.2.2.2.2.2.2.2.2.2.2.2.2.2.2.2.2.2.2.2.2.2.2.2.2.2.2.2.2.2.2.2.2.2.2.2.2.2.2.2.2.2.2.2.2.2.2.2.2.2.2.2.2.2.2.2.2.2.2.2.2.2.2.2.2.2.2.2.2.2.2.2.2.2.1 d M pc lv st S o i n x g y hd h0 h1 (k0 X hX)
theorem zr_last {d : Nat} {M : zM} {pc : Nat} {lv : zL} {st : List Value} {S : zS} {o : zO} {i n : Nat} {x : Int32} {g : Nat → Int64} {y : Int64} (hd : decode M.2.1 pc = .ok (.lastore, 1)) (h0 : S.2.2 i = .inl (.long, n, .inr (.inl g))) (h1 : vp_in x n) (k0 : z_Ex d M (pc + 1) lv (st) (z_put S i (.inl (.long, n, .inr (.inl (vp_updL g x.toNatClampNeg y))))) o) : z_Ex d M pc lv (.long y :: .int x :: .ref i :: st) S o := fun X hX => hX.2.2.2.2.2.2.2.2.2.2.2.2.2.2.2.2.2.2.2.2.2.2.2.2.2.2.2.2.2.2.2.2.2.2.2.2.2.2.2.2.2.2.2.2.2.2.2.2.2.2.2.2.2.2.2.2.2.2.2.2.2.2.2.2.2.2.2.2.2.2.2.2.2.2.2.2.2.2.2.2.2.2.1 d M pc lv st S o i n x g y hd h0 h1 (k0 X hX)
theorem zr_aast {d : Nat} {M : zM} {pc : Nat} {lv : zL} {st : List Value} {S : zS} {o : zO} {i n j ci : Nat} {x : Int32} {r : vw_C} {g : Nat → Option Nat} {vs : List Value} (hd : decode M.2.1 pc = .ok (.aastore, 1)) (h0 : S.2.2 i = .inl (.object r.1, n, .inr (.inr (.inr (.inr g))))) (h1 : vp_in x n) (h2 : S.2.2 j = .inr (ci, vs)) (h3 : vwCl[ci]? = some r) (k0 : z_Ex d M (pc + 1) lv (st) (z_put S i (.inl (.object r.1, n, .inr (.inr (.inr (.inr (va_up g x.toNatClampNeg (some j)))))))) o) : z_Ex d M pc lv (.ref j :: .int x :: .ref i :: st) S o := fun X hX => hX.2.2.2.2.2.2.2.2.2.2.2.2.2.2.2.2.2.2.2.2.2.2.2.2.2.2.2.2.2.2.2.2.2.2.2.2.2.2.2.2.2.2.2.2.2.2.2.2.2.2.2.2.2.2.2.2.2.2.2.2.2.2.2.2.2.2.2.2.2.2.2.2.2.2.2.2.2.2.2.2.2.2.2.1 d M pc lv st S o i n j ci x r g vs hd h0 h1 h2 h3 (k0 X hX)
theorem zr_alen {d : Nat} {M : zM} {pc : Nat} {lv : zL} {st : List Value} {S : zS} {o : zO} {i : Nat} {ty : FieldType} {a : vp_A} (hd : decode M.2.1 pc = .ok (.arraylength, 1)) (h0 : S.2.2 i = .inl (ty, a)) (k0 : z_Ex d M (pc + 1) lv (.int (Int32.ofNat a.1) :: st) S o) : z_Ex d M pc lv (.ref i :: st) S o := fun X hX => hX.2.2.2.2.2.2.2.2.2.2.2.2.2.2.2.2.2.2.2.2.2.2.2.2.2.2.2.2.2.2.2.2.2.2.2.2.2.2.2.2.2.2.2.2.2.2.2.2.2.2.2.2.2.2.2.2.2.2.2.2.2.2.2.2.2.2.2.2.2.2.2.2.2.2.2.2.2.2.2.2.2.2.2.2.1 d M pc lv st S o i ty a hd h0 (k0 X hX)
theorem zr_new {d : Nat} {M : zM} {pc : Nat} {lv : zL} {st : List Value} {S : zS} {o : zO} {idx ci n : Nat} {fs : List Value} (hd : decode M.2.1 pc = .ok (.new idx, 3)) (h0 : z_nOK M.1.cls idx ci n fs) (k0 : z_Ex d M (pc + 3) lv (.ref S.1 :: st) (z_new S (.inr (ci, fs)) n) o) : z_Ex d M pc lv (st) S o := fun X hX => hX.2.2.2.2.2.2.2.2.2.2.2.2.2.2.2.2.2.2.2.2.2.2.2.2.2.2.2.2.2.2.2.2.2.2.2.2.2.2.2.2.2.2.2.2.2.2.2.2.2.2.2.2.2.2.2.2.2.2.2.2.2.2.2.2.2.2.2.2.2.2.2.2.2.2.2.2.2.2.2.2.2.2.2.2.2.1 d M pc lv st S o idx ci n fs hd h0 (k0 X hX)
theorem zr_newi {d : Nat} {M : zM} {pc : Nat} {lv : zL} {st : List Value} {S : zS} {o : zO} {n : Int32} {N : Nat} (hd : decode M.2.1 pc = .ok (.newarray .int, 2)) (h0 : ¬ n < 0) (h1 : n.toNatClampNeg = N) (h2 : N * componentBytes .int ≤ 536870912) (h3 : Cond.arrayClass .int ∈ z_tb) (k0 : z_Ex d M (pc + 2) lv (.ref S.1 :: st) (z_new S (.inl (.int, N, .inl (fun _ => 0))) N) o) : z_Ex d M pc lv (.int n :: st) S o := fun X hX => hX.2.2.2.2.2.2.2.2.2.2.2.2.2.2.2.2.2.2.2.2.2.2.2.2.2.2.2.2.2.2.2.2.2.2.2.2.2.2.2.2.2.2.2.2.2.2.2.2.2.2.2.2.2.2.2.2.2.2.2.2.2.2.2.2.2.2.2.2.2.2.2.2.2.2.2.2.2.2.2.2.2.2.2.2.2.2.1 d M pc lv st S o n N hd h0 h1 h2 h3 (k0 X hX)
theorem zr_newb {d : Nat} {M : zM} {pc : Nat} {lv : zL} {st : List Value} {S : zS} {o : zO} {n : Int32} {N : Nat} (hd : decode M.2.1 pc = .ok (.newarray .byte, 2)) (h0 : ¬ n < 0) (h1 : n.toNatClampNeg = N) (h2 : N * componentBytes .byte ≤ 536870912) (h3 : Cond.arrayClass .byte ∈ z_tb) (k0 : z_Ex d M (pc + 2) lv (.ref S.1 :: st) (z_new S (.inl (.byte, N, .inl (fun _ => 0))) N) o) : z_Ex d M pc lv (.int n :: st) S o := fun X hX => hX.2.2.2.2.2.2.2.2.2.2.2.2.2.2.2.2.2.2.2.2.2.2.2.2.2.2.2.2.2.2.2.2.2.2.2.2.2.2.2.2.2.2.2.2.2.2.2.2.2.2.2.2.2.2.2.2.2.2.2.2.2.2.2.2.2.2.2.2.2.2.2.2.2.2.2.2.2.2.2.2.2.2.2.2.2.2.2.1 d M pc lv st S o n N hd h0 h1 h2 h3 (k0 X hX)
theorem zr_newz {d : Nat} {M : zM} {pc : Nat} {lv : zL} {st : List Value} {S : zS} {o : zO} {n : Int32} {N : Nat} (hd : decode M.2.1 pc = .ok (.newarray .boolean, 2)) (h0 : ¬ n < 0) (h1 : n.toNatClampNeg = N) (h2 : N * componentBytes .boolean ≤ 536870912) (h3 : Cond.arrayClass .boolean ∈ z_tb) (k0 : z_Ex d M (pc + 2) lv (.ref S.1 :: st) (z_new S (.inl (.boolean, N, .inl (fun _ => 0))) N) o) : z_Ex d M pc lv (.int n :: st) S o := fun X hX => hX.2.2.2.2.2.2.2.2.2.2.2.2.2.2.2.2.2.2.2.2.2.2.2.2.2.2.2.2.2.2.2.2.2.2.2.2.2.2.2.2.2.2.2.2.2.2.2.2.2.2.2.2.2.2.2.2.2.2.2.2.2.2.2.2.2.2.2.2.2.2.2.2.2.2.2.2.2.2.2.2.2.2.2.2.2.2.2.2.1 d M pc lv st S o n N hd h0 h1 h2 h3 (k0 X hX)
theorem zr_newl {d : Nat} {M : zM} {pc : Nat} {lv : zL} {st : List Value} {S : zS} {o : zO} {n : Int32} {N : Nat} (hd : decode M.2.1 pc = .ok (.newarray .long, 2)) (h0 : ¬ n < 0) (h1 : n.toNatClampNeg = N) (h2 : N * componentBytes .long ≤ 536870912) (h3 : Cond.arrayClass .long ∈ z_tb) (k0 : z_Ex d M (pc + 2) lv (.ref S.1 :: st) (z_new S (.inl (.long, N, .inr (.inl (fun _ => 0)))) N) o) : z_Ex d M pc lv (.int n :: st) S o := fun X hX => hX.2.2.2.2.2.2.2.2.2.2.2.2.2.2.2.2.2.2.2.2.2.2.2.2.2.2.2.2.2.2.2.2.2.2.2.2.2.2.2.2.2.2.2.2.2.2.2.2.2.2.2.2.2.2.2.2.2.2.2.2.2.2.2.2.2.2.2.2.2.2.2.2.2.2.2.2.2.2.2.2.2.2.2.2.2.2.2.2.2.1 d M pc lv st S o n N hd h0 h1 h2 h3 (k0 X hX)
theorem zr_ldc {d : Nat} {M : zM} {pc : Nat} {lv : zL} {st : List Value} {S : zS} {o : zO} {idx : Nat} {v : Int32} (hd : decode M.2.1 pc = .ok (.ldc idx, 2)) (h0 : Cond.constant M.1.cls idx v ∈ z_tb) (k0 : z_Ex d M (pc + 2) lv (.int v :: st) S o) : z_Ex d M pc lv (st) S o := fun X hX => hX.2.2.2.2.2.2.2.2.2.2.2.2.2.2.2.2.2.2.2.2.2.2.2.2.2.2.2.2.2.2.2.2.2.2.2.2.2.2.2.2.2.2.2.2.2.2.2.2.2.2.2.2.2.2.2.2.2.2.2.2.2.2.2.2.2.2.2.2.2.2.2.2.2.2.2.2.2.2.2.2.2.2.2.2.2.2.2.2.2.2.1 d M pc lv st S o idx v hd h0 (k0 X hX)
theorem zr_ldcw {d : Nat} {M : zM} {pc : Nat} {lv : zL} {st : List Value} {S : zS} {o : zO} {idx : Nat} {v : Int32} (hd : decode M.2.1 pc = .ok (.ldc_w idx, 3)) (h0 : Cond.constant M.1.cls idx v ∈ z_tb) (k0 : z_Ex d M (pc + 3) lv (.int v :: st) S o) : z_Ex d M pc lv (st) S o := fun X hX => hX.2.2.2.2.2.2.2.2.2.2.2.2.2.2.2.2.2.2.2.2.2.2.2.2.2.2.2.2.2.2.2.2.2.2.2.2.2.2.2.2.2.2.2.2.2.2.2.2.2.2.2.2.2.2.2.2.2.2.2.2.2.2.2.2.2.2.2.2.2.2.2.2.2.2.2.2.2.2.2.2.2.2.2.2.2.2.2.2.2.2.2.1 d M pc lv st S o idx v hd h0 (k0 X hX)
theorem zr_ldc2 {d : Nat} {M : zM} {pc : Nat} {lv : zL} {st : List Value} {S : zS} {o : zO} {idx : Nat} {v : Int64} (hd : decode M.2.1 pc = .ok (.ldc2_w idx, 3)) (h0 : Cond.constantLong M.1.cls idx v ∈ z_tb) (k0 : z_Ex d M (pc + 3) lv (.long v :: st) S o) : z_Ex d M pc lv (st) S o := fun X hX => hX.2.2.2.2.2.2.2.2.2.2.2.2.2.2.2.2.2.2.2.2.2.2.2.2.2.2.2.2.2.2.2.2.2.2.2.2.2.2.2.2.2.2.2.2.2.2.2.2.2.2.2.2.2.2.2.2.2.2.2.2.2.2.2.2.2.2.2.2.2.2.2.2.2.2.2.2.2.2.2.2.2.2.2.2.2.2.2.2.2.2.2.2.1 d M pc lv st S o idx v hd h0 (k0 X hX)
theorem zr_lcmp {d : Nat} {M : zM} {pc : Nat} {lv : zL} {st : List Value} {S : zS} {o : zO} {x y : Int64} (hd : decode M.2.1 pc = .ok (.lcmp, 1))  (k0 : z_Ex d M (pc + 1) lv (.int (lg_cmp x y) :: st) S o) : z_Ex d M pc lv (.long y :: .long x :: st) S o := fun X hX => hX.2.2.2.2.2.2.2.2.2.2.2.2.2.2.2.2.2.2.2.2.2.2.2.2.2.2.2.2.2.2.2.2.2.2.2.2.2.2.2.2.2.2.2.2.2.2.2.2.2.2.2.2.2.2.2.2.2.2.2.2.2.2.2.2.2.2.2.2.2.2.2.2.2.2.2.2.2.2.2.2.2.2.2.2.2.2.2.2.2.2.2.2.2.1 d M pc lv st S o x y hd  (k0 X hX)
theorem zr_callS {d : Nat} {M : zM} {pc : Nat} {lv : zL} {st : List Value} {S : zS} {o : zO} {idx n : Nat} {M1 : zM} {as st1 : List Value} {lv1 : zL} {S1 : zS} {pc1 : Nat} {r : Option Value} (hd : decode M.2.1 pc = .ok (.invokestatic idx, 3)) (h0 : z_mOK M.1.cls idx 2 n M1) (h1 : as.length = n) (h2 : (lg_sl as).length ≤ M1.2.2.1) (h3 : (st.map Value.category).sum ≤ 8) (h4 : z_rt M1 pc1 st1 r) (k0 : z_Ex d M1 0 (lv_args 0 as) [] S (pc1, lv1, st1, S1)) (k1 : z_Ex (d + 1) M (pc + 3) lv (r.toList ++ st) S1 o) : z_Ex (d + 1) M pc lv (as.reverse ++ st) S o := fun X hX => hX.2.2.2.2.2.2.2.2.2.2.2.2.2.2.2.2.2.2.2.2.2.2.2.2.2.2.2.2.2.2.2.2.2.2.2.2.2.2.2.2.2.2.2.2.2.2.2.2.2.2.2.2.2.2.2.2.2.2.2.2.2.2.2.2.2.2.2.2.2.2.2.2.2.2.2.2.2.2.2.2.2.2.2.2.2.2.2.2.2.2.2.2.2.2.1 d M pc lv st S o idx n M1 as st1 lv1 S1 pc1 r hd h0 h1 h2 h3 h4 (k0 X hX) (k1 X hX)
theorem zr_callSN {d : Nat} {M : zM} {pc : Nat} {lv : zL} {st : List Value} {S : zS} {o : zO} {idx n : Nat} {M1 : zM} {as st1 : List Value} {lv1 : zL} {S1 : zS} {pc1 : Nat} {r : Option Value} (hd : decode M.2.1 pc = .ok (.invokestatic idx, 3)) (h0 : z_mOK M.1.cls idx 3 n M1) (h1 : as.length = n) (h2 : (lg_sl as).length ≤ M1.2.2.1) (h3 : (st.map Value.category).sum ≤ 8) (h4 : z_rt M1 pc1 st1 r) (k0 : z_Ex d M1 0 (lv_args 0 as) [] S (pc1, lv1, st1, S1)) (k1 : z_Ex (d + 1) M (pc + 3) lv (r.toList ++ st) S1 o) : z_Ex (d + 1) M pc lv (as.reverse ++ st) S o := fun X hX => hX.2.2.2.2.2.2.2.2.2.2.2.2.2.2.2.2.2.2.2.2.2.2.2.2.2.2.2.2.2.2.2.2.2.2.2.2.2.2.2.2.2.2.2.2.2.2.2.2.2.2.2.2.2.2.2.2.2.2.2.2.2.2.2.2.2.2.2.2.2.2.2.2.2.2.2.2.2.2.2.2.2.2.2.2.2.2.2.2.2.2.2.2.2.2.2.1 d M pc lv st S o idx n M1 as st1 lv1 S1 pc1 r hd h0 h1 h2 h3 h4 (k0 X hX) (k1 X hX)
theorem zr_callV {d : Nat} {M : zM} {pc : Nat} {lv : zL} {st : List Value} {S : zS} {o : zO} {idx n : Nat} {M1 : zM} {as st1 : List Value} {lv1 : zL} {S1 : zS} {pc1 : Nat} {r : Option Value} {b ci : Nat} {fs : List Value} (hd : decode M.2.1 pc = .ok (.invokevirtual idx, 3)) (h0 : z_mOK M.1.cls idx 0 n M1) (h1 : as.length = n) (h2 : (lg_sl (.ref b :: as)).length ≤ M1.2.2.1) (h3 : (st.map Value.category).sum ≤ 8) (h4 : z_rt M1 pc1 st1 r) (h5 : S.2.2 b = .inr (ci, fs)) (h6 : (vwCl[ci]?).map (fun q => q.1) = some M1.1.cls) (k0 : z_Ex d M1 0 (lv_args 0 (.ref b :: as)) [] S (pc1, lv1, st1, S1)) (k1 : z_Ex (d + 1) M (pc + 3) lv (r.toList ++ st) S1 o) : z_Ex (d + 1) M pc lv (as.reverse ++ .ref b :: st) S o := fun X hX => hX.2.2.2.2.2.2.2.2.2.2.2.2.2.2.2.2.2.2.2.2.2.2.2.2.2.2.2.2.2.2.2.2.2.2.2.2.2.2.2.2.2.2.2.2.2.2.2.2.2.2.2.2.2.2.2.2.2.2.2.2.2.2.2.2.2.2.2.2.2.2.2.2.2.2.2.2.2.2.2.2.2.2.2.2.2.2.2.2.2.2.2.2.2.2.2.2.1 d M pc lv st S o idx n M1 as st1 lv1 S1 pc1 r b ci fs hd h0 h1 h2 h3 h4 h5 h6 (k0 X hX) (k1 X hX)
theorem zr_callI {d : Nat} {M : zM} {pc : Nat} {lv : zL} {st : List Value} {S : zS} {o : zO} {idx n : Nat} {M1 : zM} {as st1 : List Value} {lv1 : zL} {S1 : zS} {pc1 : Nat} {r : Option Value} {b : Nat} (hd : decode M.2.1 pc = .ok (.invokespecial idx, 3)) (h0 : z_mOK M.1.cls idx 4 n M1) (h1 : as.length = n) (h2 : (lg_sl (.ref b :: as)).length ≤ M1.2.2.1) (h3 : (st.map Value.category).sum ≤ 8) (h4 : z_rt M1 pc1 st1 r) (k0 : z_Ex d M1 0 (lv_args 0 (.ref b :: as)) [] S (pc1, lv1, st1, S1)) (k1 : z_Ex (d + 1) M (pc + 3) lv (r.toList ++ st) S1 o) : z_Ex (d + 1) M pc lv (as.reverse ++ .ref b :: st) S o := fun X hX => hX.2.2.2.2.2.2.2.2.2.2.2.2.2.2.2.2.2.2.2.2.2.2.2.2.2.2.2.2.2.2.2.2.2.2.2.2.2.2.2.2.2.2.2.2.2.2.2.2.2.2.2.2.2.2.2.2.2.2.2.2.2.2.2.2.2.2.2.2.2.2.2.2.2.2.2.2.2.2.2.2.2.2.2.2.2.2.2.2.2.2.2.2.2.2.2.2.2.1 d M pc lv st S o idx n M1 as st1 lv1 S1 pc1 r b hd h0 h1 h2 h3 h4 (k0 X hX) (k1 X hX)
theorem zr_callIN {d : Nat} {M : zM} {pc : Nat} {lv : zL} {st : List Value} {S : zS} {o : zO} {idx n : Nat} {M1 : zM} {as st1 : List Value} {lv1 : zL} {S1 : zS} {pc1 : Nat} {r : Option Value} {b : Nat} (hd : decode M.2.1 pc = .ok (.invokespecial idx, 3)) (h0 : z_mOK M.1.cls idx 5 n M1) (h1 : as.length = n) (h2 : (lg_sl (.ref b :: as)).length ≤ M1.2.2.1) (h3 : (st.map Value.category).sum ≤ 8) (h4 : z_rt M1 pc1 st1 r) (k0 : z_Ex d M1 0 (lv_args 0 (.ref b :: as)) [] S (pc1, lv1, st1, S1)) (k1 : z_Ex (d + 1) M (pc + 3) lv (r.toList ++ st) S1 o) : z_Ex (d + 1) M pc lv (as.reverse ++ .ref b :: st) S o := fun X hX => hX.2.2.2.2.2.2.2.2.2.2.2.2.2.2.2.2.2.2.2.2.2.2.2.2.2.2.2.2.2.2.2.2.2.2.2.2.2.2.2.2.2.2.2.2.2.2.2.2.2.2.2.2.2.2.2.2.2.2.2.2.2.2.2.2.2.2.2.2.2.2.2.2.2.2.2.2.2.2.2.2.2.2.2.2.2.2.2.2.2.2.2.2.2.2.2.2.2.2 d M pc lv st S o idx n M1 as st1 lv1 S1 pc1 r b hd h0 h1 h2 h3 h4 (k0 X hX) (k1 X hX)
theorem zs_iconst (l : Launch) (D : va_G) : zk_iconst (z_Sem l D) := by
  intro d M pc lv st S o n hd  k
  exact z_loc k (fun n hl h => by simp only [List.forall_mem_cons, z_ok_int, z_ok_long, z_ok_null, true_and] at h ⊢; first | exact h | exact h.2 | exact h.2.2 | simp_all) (fun C hl hc hs w => lv_iconst C.1 C.2.1 hd rfl w)
theorem zs_bipush (l : Launch) (D : va_G) : zk_bipush (z_Sem l D) := by
  intro d M pc lv st S o n hd  k
  exact z_loc k (fun n hl h => by simp only [List.forall_mem_cons, z_ok_int, z_ok_long, z_ok_null, true_and] at h ⊢; first | exact h | exact h.2 | exact h.2.2 | simp_all) (fun C hl hc hs w => lv_bipush C.1 C.2.1 hd rfl w)
theorem zs_sipush (l : Launch) (D : va_G) : zk_sipush (z_Sem l D) := by
  intro d M pc lv st S o n hd  k
  exact z_loc k (fun n hl h => by simp only [List.forall_mem_cons, z_ok_int, z_ok_long, z_ok_null, true_and] at h ⊢; first | exact h | exact h.2 | exact h.2.2 | simp_all) (fun C hl hc hs w => lv_sipush C.1 C.2.1 hd rfl w)
theorem zs_lconst (l : Launch) (D : va_G) : zk_lconst (z_Sem l D) := by
  intro d M pc lv st S o n hd  k
  exact z_loc k (fun n hl h => by simp only [List.forall_mem_cons, z_ok_int, z_ok_long, z_ok_null, true_and] at h ⊢; first | exact h | exact h.2 | exact h.2.2 | simp_all) (fun C hl hc hs w => lv_lconst C.1 C.2.1 hd rfl w)
theorem zs_aconst (l : Launch) (D : va_G) : zk_aconst (z_Sem l D) := by
  intro d M pc lv st S o  hd  k
  exact z_loc k (fun n hl h => by simp only [List.forall_mem_cons, z_ok_int, z_ok_long, z_ok_null, true_and] at h ⊢; first | exact h | exact h.2 | exact h.2.2 | simp_all) (fun C hl hc hs w => lv_null C.1 C.2.1 hd w)
theorem zs_iload_n (l : Launch) (D : va_G) : zk_iload_n (z_Sem l D) := by
  intro d M pc lv st S o j x hd hm k
  exact z_loc k (fun n hl h => by simp only [List.forall_mem_cons]; exact ⟨hl _ hm, h⟩) (fun C hl hc hs w => lv_iload_n C.1 C.2.1 hd rfl (z_ld hl hm) w)
theorem zs_iload (l : Launch) (D : va_G) : zk_iload (z_Sem l D) := by
  intro d M pc lv st S o i x hd hm k
  exact z_loc k (fun n hl h => by simp only [List.forall_mem_cons]; exact ⟨hl _ hm, h⟩) (fun C hl hc hs w => lv_iload C.1 C.2.1 hd (z_ld hl hm) w)
theorem zs_lload_n (l : Launch) (D : va_G) : zk_lload_n (z_Sem l D) := by
  intro d M pc lv st S o j x hd hm k
  exact z_loc k (fun n hl h => by simp only [List.forall_mem_cons]; exact ⟨hl _ hm, h⟩) (fun C hl hc hs w => lv_lload_n C.1 C.2.1 hd rfl (z_ld hl hm) w)
theorem zs_lload (l : Launch) (D : va_G) : zk_lload (z_Sem l D) := by
  intro d M pc lv st S o i x hd hm k
  exact z_loc k (fun n hl h => by simp only [List.forall_mem_cons]; exact ⟨hl _ hm, h⟩) (fun C hl hc hs w => lv_lload C.1 C.2.1 hd (z_ld hl hm) w)
theorem zs_aload_n (l : Launch) (D : va_G) : zk_aload_n (z_Sem l D) := by
  intro d M pc lv st S o j x hd hm k
  exact z_loc k (fun n hl h => by simp only [List.forall_mem_cons]; exact ⟨hl _ hm, h⟩) (fun C hl hc hs w => lv_aload_n C.1 C.2.1 hd rfl (z_ld hl hm) w)
theorem zs_aload (l : Launch) (D : va_G) : zk_aload (z_Sem l D) := by
  intro d M pc lv st S o i x hd hm k
  exact z_loc k (fun n hl h => by simp only [List.forall_mem_cons]; exact ⟨hl _ hm, h⟩) (fun C hl hc hs w => lv_aload C.1 C.2.1 hd (z_ld hl hm) w)
theorem zs_aload_nN (l : Launch) (D : va_G) : zk_aload_nN (z_Sem l D) := by
  intro d M pc lv st S o j hd hm k
  exact z_loc k (fun n hl h => by simp only [List.forall_mem_cons]; exact ⟨hl _ hm, h⟩) (fun C hl hc hs w => lv_aload_nN C.1 C.2.1 hd rfl (z_ld hl hm) w)
theorem zs_aloadN (l : Launch) (D : va_G) : zk_aloadN (z_Sem l D) := by
  intro d M pc lv st S o i hd hm k
  exact z_loc k (fun n hl h => by simp only [List.forall_mem_cons]; exact ⟨hl _ hm, h⟩) (fun C hl hc hs w => lv_aloadN C.1 C.2.1 hd (z_ld hl hm) w)
theorem zs_istore_n (l : Launch) (D : va_G) : zk_istore_n (z_Sem l D) := by
  intro d M pc lv st S o j x hd hm k
  exact z_sto k (fun n hl h => by simp only [List.forall_mem_cons] at h ⊢; exact ⟨⟨h.1, z_k1_ok hl⟩, h.2⟩) (fun {p e R s m args below meth c cA A ad H locs ls cells slots Q} C hl w => lv_istore_n C.1 C.2.1 hd rfl hl hm (by rw [z_k1_lt]; rfl) w)
theorem zs_istore (l : Launch) (D : va_G) : zk_istore (z_Sem l D) := by
  intro d M pc lv st S o i x hd hm k
  exact z_sto k (fun n hl h => by simp only [List.forall_mem_cons] at h ⊢; exact ⟨⟨h.1, z_k1_ok hl⟩, h.2⟩) (fun {p e R s m args below meth c cA A ad H locs ls cells slots Q} C hl w => lv_istore C.1 C.2.1 hd hl hm (by rw [z_k1_lt]; rfl) w)
theorem zs_lstore_n (l : Launch) (D : va_G) : zk_lstore_n (z_Sem l D) := by
  intro d M pc lv st S o j x hd hm k
  exact z_sto k (fun n hl h => by simp only [List.forall_mem_cons] at h ⊢; exact ⟨⟨h.1, z_k2_ok hl⟩, h.2⟩) (fun {p e R s m args below meth c cA A ad H locs ls cells slots Q} C hl w => lv_lstore_n C.1 C.2.1 hd rfl hl hm (by rw [z_k2_lt]; rfl) w)
theorem zs_lstore (l : Launch) (D : va_G) : zk_lstore (z_Sem l D) := by
  intro d M pc lv st S o i x hd hm k
  exact z_sto k (fun n hl h => by simp only [List.forall_mem_cons] at h ⊢; exact ⟨⟨h.1, z_k2_ok hl⟩, h.2⟩) (fun {p e R s m args below meth c cA A ad H locs ls cells slots Q} C hl w => lv_lstore C.1 C.2.1 hd hl hm (by rw [z_k2_lt]; rfl) w)
theorem zs_astore_n (l : Launch) (D : va_G) : zk_astore_n (z_Sem l D) := by
  intro d M pc lv st S o j x hd hm k
  exact z_sto k (fun n hl h => by simp only [List.forall_mem_cons] at h ⊢; exact ⟨⟨h.1, z_k1_ok hl⟩, h.2⟩) (fun {p e R s m args below meth c cA A ad H locs ls cells slots Q} C hl w => lv_astore_n C.1 C.2.1 hd rfl hl hm (by rw [z_k1_lt]; rfl) w)
theorem zs_astore (l : Launch) (D : va_G) : zk_astore (z_Sem l D) := by
  intro d M pc lv st S o i x hd hm k
  exact z_sto k (fun n hl h => by simp only [List.forall_mem_cons] at h ⊢; exact ⟨⟨h.1, z_k1_ok hl⟩, h.2⟩) (fun {p e R s m args below meth c cA A ad H locs ls cells slots Q} C hl w => lv_astore C.1 C.2.1 hd hl hm (by rw [z_k1_lt]; rfl) w)
theorem zs_astore_nN (l : Launch) (D : va_G) : zk_astore_nN (z_Sem l D) := by
  intro d M pc lv st S o j hd hm k
  exact z_sto k (fun n hl h => by simp only [List.forall_mem_cons] at h ⊢; exact ⟨⟨h.1, z_k1_ok hl⟩, h.2⟩) (fun {p e R s m args below meth c cA A ad H locs ls cells slots Q} C hl w => lv_astore_nN C.1 C.2.1 hd rfl hl hm (by rw [z_k1_lt]; rfl) w)
theorem zs_astoreN (l : Launch) (D : va_G) : zk_astoreN (z_Sem l D) := by
  intro d M pc lv st S o i hd hm k
  exact z_sto k (fun n hl h => by simp only [List.forall_mem_cons] at h ⊢; exact ⟨⟨h.1, z_k1_ok hl⟩, h.2⟩) (fun {p e R s m args below meth c cA A ad H locs ls cells slots Q} C hl w => lv_astoreN C.1 C.2.1 hd hl hm (by rw [z_k1_lt]; rfl) w)
theorem zs_iinc (l : Launch) (D : va_G) : zk_iinc (z_Sem l D) := by
  intro d M pc lv st S o i n x hd hm hm1 k
  obtain ⟨q, hq⟩ := List.getElem?_of_mem hm
  exact z_sto k (fun n hl h => by simp only [List.forall_mem_cons]; exact ⟨⟨trivial, z_k1_ok hl⟩, h⟩) (fun {p e R s m args below meth c cA A ad H locs ls cells slots Q} C hl w => lv_iinc (k := q) (x := x) C.1 C.2.1 hd hl (by unfold z_lt; rw [List.getElem?_map, hq]; rfl) rfl hm1 (by rw [z_k1_lt]; rfl) w)
theorem zs_iadd (l : Launch) (D : va_G) : zk_iadd (z_Sem l D) := by
  intro d M pc lv st S o x y hd  k
  exact z_loc k (fun n hl h => by simp only [List.forall_mem_cons, z_ok_int, z_ok_long, z_ok_null, true_and] at h ⊢; first | exact h | exact h.2 | exact h.2.2 | simp_all) (fun C hl hc hs w => lv_iadd C.1 C.2.1 hd w)
theorem zs_isub (l : Launch) (D : va_G) : zk_isub (z_Sem l D) := by
  intro d M pc lv st S o x y hd  k
  exact z_loc k (fun n hl h => by simp only [List.forall_mem_cons, z_ok_int, z_ok_long, z_ok_null, true_and] at h ⊢; first | exact h | exact h.2 | exact h.2.2 | simp_all) (fun C hl hc hs w => lv_isub C.1 C.2.1 hd w)
theorem zs_imul (l : Launch) (D : va_G) : zk_imul (z_Sem l D) := by
  intro d M pc lv st S o x y hd  k
  exact z_loc k (fun n hl h => by simp only [List.forall_mem_cons, z_ok_int, z_ok_long, z_ok_null, true_and] at h ⊢; first | exact h | exact h.2 | exact h.2.2 | simp_all) (fun C hl hc hs w => lv_imul C.1 C.2.1 hd w)
theorem zs_iand (l : Launch) (D : va_G) : zk_iand (z_Sem l D) := by
  intro d M pc lv st S o x y hd  k
  exact z_loc k (fun n hl h => by simp only [List.forall_mem_cons, z_ok_int, z_ok_long, z_ok_null, true_and] at h ⊢; first | exact h | exact h.2 | exact h.2.2 | simp_all) (fun C hl hc hs w => lv_iand C.1 C.2.1 hd w)
theorem zs_ior (l : Launch) (D : va_G) : zk_ior (z_Sem l D) := by
  intro d M pc lv st S o x y hd  k
  exact z_loc k (fun n hl h => by simp only [List.forall_mem_cons, z_ok_int, z_ok_long, z_ok_null, true_and] at h ⊢; first | exact h | exact h.2 | exact h.2.2 | simp_all) (fun C hl hc hs w => lv_ior C.1 C.2.1 hd w)
theorem zs_ixor (l : Launch) (D : va_G) : zk_ixor (z_Sem l D) := by
  intro d M pc lv st S o x y hd  k
  exact z_loc k (fun n hl h => by simp only [List.forall_mem_cons, z_ok_int, z_ok_long, z_ok_null, true_and] at h ⊢; first | exact h | exact h.2 | exact h.2.2 | simp_all) (fun C hl hc hs w => lv_ixor C.1 C.2.1 hd w)
theorem zs_ishl (l : Launch) (D : va_G) : zk_ishl (z_Sem l D) := by
  intro d M pc lv st S o x y hd  k
  exact z_loc k (fun n hl h => by simp only [List.forall_mem_cons, z_ok_int, z_ok_long, z_ok_null, true_and] at h ⊢; first | exact h | exact h.2 | exact h.2.2 | simp_all) (fun C hl hc hs w => lv_ishl C.1 C.2.1 hd w)
theorem zs_ishr (l : Launch) (D : va_G) : zk_ishr (z_Sem l D) := by
  intro d M pc lv st S o x y hd  k
  exact z_loc k (fun n hl h => by simp only [List.forall_mem_cons, z_ok_int, z_ok_long, z_ok_null, true_and] at h ⊢; first | exact h | exact h.2 | exact h.2.2 | simp_all) (fun C hl hc hs w => lv_ishr C.1 C.2.1 hd w)
theorem zs_idiv (l : Launch) (D : va_G) : zk_idiv (z_Sem l D) := by
  intro d M pc lv st S o x y hd hm k
  exact z_loc k (fun n hl h => by simp only [List.forall_mem_cons, z_ok_int, z_ok_long, z_ok_null, true_and] at h ⊢; first | exact h | exact h.2 | exact h.2.2 | simp_all) (fun C hl hc hs w => lv_idiv C.1 C.2.1 hd hm w)
theorem zs_irem (l : Launch) (D : va_G) : zk_irem (z_Sem l D) := by
  intro d M pc lv st S o x y hd hm k
  exact z_loc k (fun n hl h => by simp only [List.forall_mem_cons, z_ok_int, z_ok_long, z_ok_null, true_and] at h ⊢; first | exact h | exact h.2 | exact h.2.2 | simp_all) (fun C hl hc hs w => lv_irem C.1 C.2.1 hd hm w)
theorem zs_ladd (l : Launch) (D : va_G) : zk_ladd (z_Sem l D) := by
  intro d M pc lv st S o x y hd  k
  exact z_loc k (fun n hl h => by simp only [List.forall_mem_cons, z_ok_int, z_ok_long, z_ok_null, true_and] at h ⊢; first | exact h | exact h.2 | exact h.2.2 | simp_all) (fun C hl hc hs w => lv_ladd C.1 C.2.1 hd w)
theorem zs_lsub (l : Launch) (D : va_G) : zk_lsub (z_Sem l D) := by
  intro d M pc lv st S o x y hd  k
  exact z_loc k (fun n hl h => by simp only [List.forall_mem_cons, z_ok_int, z_ok_long, z_ok_null, true_and] at h ⊢; first | exact h | exact h.2 | exact h.2.2 | simp_all) (fun C hl hc hs w => lv_lsub C.1 C.2.1 hd w)
theorem zs_lmul (l : Launch) (D : va_G) : zk_lmul (z_Sem l D) := by
  intro d M pc lv st S o x y hd  k
  exact z_loc k (fun n hl h => by simp only [List.forall_mem_cons, z_ok_int, z_ok_long, z_ok_null, true_and] at h ⊢; first | exact h | exact h.2 | exact h.2.2 | simp_all) (fun C hl hc hs w => lv_lmul C.1 C.2.1 hd w)
theorem zs_land (l : Launch) (D : va_G) : zk_land (z_Sem l D) := by
  intro d M pc lv st S o x y hd  k
  exact z_loc k (fun n hl h => by simp only [List.forall_mem_cons, z_ok_int, z_ok_long, z_ok_null, true_and] at h ⊢; first | exact h | exact h.2 | exact h.2.2 | simp_all) (fun C hl hc hs w => lv_land C.1 C.2.1 hd w)
theorem zs_lor (l : Launch) (D : va_G) : zk_lor (z_Sem l D) := by
  intro d M pc lv st S o x y hd  k
  exact z_loc k (fun n hl h => by simp only [List.forall_mem_cons, z_ok_int, z_ok_long, z_ok_null, true_and] at h ⊢; first | exact h | exact h.2 | exact h.2.2 | simp_all) (fun C hl hc hs w => lv_lor C.1 C.2.1 hd w)
theorem zs_lxor (l : Launch) (D : va_G) : zk_lxor (z_Sem l D) := by
  intro d M pc lv st S o x y hd  k
  exact z_loc k (fun n hl h => by simp only [List.forall_mem_cons, z_ok_int, z_ok_long, z_ok_null, true_and] at h ⊢; first | exact h | exact h.2 | exact h.2.2 | simp_all) (fun C hl hc hs w => lv_lxor C.1 C.2.1 hd w)
theorem zs_ineg (l : Launch) (D : va_G) : zk_ineg (z_Sem l D) := by
  intro d M pc lv st S o x hd  k
  exact z_loc k (fun n hl h => by simp only [List.forall_mem_cons, z_ok_int, z_ok_long, z_ok_null, true_and] at h ⊢; first | exact h | exact h.2 | exact h.2.2 | simp_all) (fun C hl hc hs w => lv_ineg C.1 C.2.1 hd w)
theorem zs_iushr (l : Launch) (D : va_G) : zk_iushr (z_Sem l D) := by
  intro d M pc lv st S o x y hd  k
  exact z_loc k (fun n hl h => by simp only [List.forall_mem_cons, z_ok_int, z_ok_long, z_ok_null, true_and] at h ⊢; first | exact h | exact h.2 | exact h.2.2 | simp_all) (fun C hl hc hs w => lv_iushr C.1 C.2.1 hd rfl w)
theorem zs_lushr (l : Launch) (D : va_G) : zk_lushr (z_Sem l D) := by
  intro d M pc lv st S o x y hd  k
  exact z_loc k (fun n hl h => by simp only [List.forall_mem_cons, z_ok_int, z_ok_long, z_ok_null, true_and] at h ⊢; first | exact h | exact h.2 | exact h.2.2 | simp_all) (fun C hl hc hs w => lv_lushr C.1 C.2.1 hd rfl w)
theorem zs_lshl (l : Launch) (D : va_G) : zk_lshl (z_Sem l D) := by
  intro d M pc lv st S o x y hd  k
  exact z_loc k (fun n hl h => by simp only [List.forall_mem_cons, z_ok_int, z_ok_long, z_ok_null, true_and] at h ⊢; first | exact h | exact h.2 | exact h.2.2 | simp_all) (fun C hl hc hs w => lv_lshl C.1 C.2.1 hd rfl w)
theorem zs_lshr (l : Launch) (D : va_G) : zk_lshr (z_Sem l D) := by
  intro d M pc lv st S o x y hd  k
  exact z_loc k (fun n hl h => by simp only [List.forall_mem_cons, z_ok_int, z_ok_long, z_ok_null, true_and] at h ⊢; first | exact h | exact h.2 | exact h.2.2 | simp_all) (fun C hl hc hs w => lv_lshr C.1 C.2.1 hd rfl w)
theorem zs_i2l (l : Launch) (D : va_G) : zk_i2l (z_Sem l D) := by
  intro d M pc lv st S o x hd  k
  exact z_loc k (fun n hl h => by simp only [List.forall_mem_cons, z_ok_int, z_ok_long, z_ok_null, true_and] at h ⊢; first | exact h | exact h.2 | exact h.2.2 | simp_all) (fun C hl hc hs w => lv_i2l C.1 C.2.1 hd rfl w)
theorem zs_l2i (l : Launch) (D : va_G) : zk_l2i (z_Sem l D) := by
  intro d M pc lv st S o x hd  k
  exact z_loc k (fun n hl h => by simp only [List.forall_mem_cons, z_ok_int, z_ok_long, z_ok_null, true_and] at h ⊢; first | exact h | exact h.2 | exact h.2.2 | simp_all) (fun C hl hc hs w => lv_l2i C.1 C.2.1 hd rfl w)
theorem zs_i2b (l : Launch) (D : va_G) : zk_i2b (z_Sem l D) := by
  intro d M pc lv st S o x hd  k
  exact z_loc k (fun n hl h => by simp only [List.forall_mem_cons, z_ok_int, z_ok_long, z_ok_null, true_and] at h ⊢; first | exact h | exact h.2 | exact h.2.2 | simp_all) (fun C hl hc hs w => lv_i2b C.1 C.2.1 hd rfl w)
theorem zs_i2c (l : Launch) (D : va_G) : zk_i2c (z_Sem l D) := by
  intro d M pc lv st S o x hd  k
  exact z_loc k (fun n hl h => by simp only [List.forall_mem_cons, z_ok_int, z_ok_long, z_ok_null, true_and] at h ⊢; first | exact h | exact h.2 | exact h.2.2 | simp_all) (fun C hl hc hs w => lv_i2c C.1 C.2.1 hd rfl w)
theorem zs_dup (l : Launch) (D : va_G) : zk_dup (z_Sem l D) := by
  intro d M pc lv st S o v hd hm k
  exact z_loc k (fun n hl h => by simp only [List.forall_mem_cons] at h ⊢; first | exact h.2 | exact ⟨h.1, h⟩ | exact ⟨h.1, h.2.1, h⟩) (fun C hl hc hs w => lv_dup C.1 C.2.1 hd ((z_cat v).trans hm) w)
theorem zs_pop (l : Launch) (D : va_G) : zk_pop (z_Sem l D) := by
  intro d M pc lv st S o v hd hm k
  exact z_loc k (fun n hl h => by simp only [List.forall_mem_cons] at h ⊢; first | exact h.2 | exact ⟨h.1, h⟩ | exact ⟨h.1, h.2.1, h⟩) (fun C hl hc hs w => lv_pop C.1 C.2.1 hd ((z_cat v).trans hm) w)
theorem zs_dup2 (l : Launch) (D : va_G) : zk_dup2 (z_Sem l D) := by
  intro d M pc lv st S o v u hd hm hm1 k
  exact z_loc k (fun n hl h => by simp only [List.forall_mem_cons] at h ⊢; first | exact h.2 | exact ⟨h.1, h⟩ | exact ⟨h.1, h.2.1, h⟩) (fun C hl hc hs w => lv_dup2_11 C.1 C.2.1 hd ((z_cat v).trans hm) ((z_cat u).trans hm1) w)
theorem zs_if_eq (l : Launch) (D : va_G) : zk_if_eq (z_Sem l D) := by
  intro d M pc lv st S o x off tgt hd hm k k2
  exact z_br k k2 (fun n h => by simp only [List.forall_mem_cons, z_ok_int, z_ok_long, z_ok_null, true_and] at h ⊢; first | exact h | exact h.2 | exact h.2.2 | simp_all) (fun C w1 w2 => lv_if_eq C.1 C.2.1 hd hm w1 w2)
theorem zs_icmp_eq (l : Launch) (D : va_G) : zk_icmp_eq (z_Sem l D) := by
  intro d M pc lv st S o x y off tgt hd hm k k2
  exact z_br k k2 (fun n h => by simp only [List.forall_mem_cons, z_ok_int, z_ok_long, z_ok_null, true_and] at h ⊢; first | exact h | exact h.2 | exact h.2.2 | simp_all) (fun C w1 w2 => lv_icmp_eq C.1 C.2.1 hd hm w1 w2)
theorem zs_if_ne (l : Launch) (D : va_G) : zk_if_ne (z_Sem l D) := by
  intro d M pc lv st S o x off tgt hd hm k k2
  exact z_br k2 k (fun n h => by simp only [List.forall_mem_cons, z_ok_int, z_ok_long, z_ok_null, true_and] at h ⊢; first | exact h | exact h.2 | exact h.2.2 | simp_all) (fun C w1 w2 => lv_if_ne C.1 C.2.1 hd hm w2 w1)
theorem zs_icmp_ne (l : Launch) (D : va_G) : zk_icmp_ne (z_Sem l D) := by
  intro d M pc lv st S o x y off tgt hd hm k k2
  exact z_br k2 k (fun n h => by simp only [List.forall_mem_cons, z_ok_int, z_ok_long, z_ok_null, true_and] at h ⊢; first | exact h | exact h.2 | exact h.2.2 | simp_all) (fun C w1 w2 => lv_icmp_ne C.1 C.2.1 hd hm w2 w1)
theorem zs_if_lt (l : Launch) (D : va_G) : zk_if_lt (z_Sem l D) := by
  intro d M pc lv st S o x off tgt hd hm k k2
  exact z_br k k2 (fun n h => by simp only [List.forall_mem_cons, z_ok_int, z_ok_long, z_ok_null, true_and] at h ⊢; first | exact h | exact h.2 | exact h.2.2 | simp_all) (fun C w1 w2 => lv_if_lt C.1 C.2.1 hd hm w1 w2)
theorem zs_icmp_lt (l : Launch) (D : va_G) : zk_icmp_lt (z_Sem l D) := by
  intro d M pc lv st S o x y off tgt hd hm k k2
  exact z_br k k2 (fun n h => by simp only [List.forall_mem_cons, z_ok_int, z_ok_long, z_ok_null, true_and] at h ⊢; first | exact h | exact h.2 | exact h.2.2 | simp_all) (fun C w1 w2 => lv_icmp_lt C.1 C.2.1 hd hm w1 w2)
theorem zs_if_ge (l : Launch) (D : va_G) : zk_if_ge (z_Sem l D) := by
  intro d M pc lv st S o x off tgt hd hm k k2
  exact z_br k k2 (fun n h => by simp only [List.forall_mem_cons, z_ok_int, z_ok_long, z_ok_null, true_and] at h ⊢; first | exact h | exact h.2 | exact h.2.2 | simp_all) (fun C w1 w2 => lv_if_ge C.1 C.2.1 hd hm w1 w2)
theorem zs_icmp_ge (l : Launch) (D : va_G) : zk_icmp_ge (z_Sem l D) := by
  intro d M pc lv st S o x y off tgt hd hm k k2
  exact z_br k k2 (fun n h => by simp only [List.forall_mem_cons, z_ok_int, z_ok_long, z_ok_null, true_and] at h ⊢; first | exact h | exact h.2 | exact h.2.2 | simp_all) (fun C w1 w2 => lv_icmp_ge C.1 C.2.1 hd hm w1 w2)
theorem zs_if_gt (l : Launch) (D : va_G) : zk_if_gt (z_Sem l D) := by
  intro d M pc lv st S o x off tgt hd hm k k2
  exact z_br k k2 (fun n h => by simp only [List.forall_mem_cons, z_ok_int, z_ok_long, z_ok_null, true_and] at h ⊢; first | exact h | exact h.2 | exact h.2.2 | simp_all) (fun C w1 w2 => lv_if_gt C.1 C.2.1 hd hm w1 w2)
theorem zs_icmp_gt (l : Launch) (D : va_G) : zk_icmp_gt (z_Sem l D) := by
  intro d M pc lv st S o x y off tgt hd hm k k2
  exact z_br k k2 (fun n h => by simp only [List.forall_mem_cons, z_ok_int, z_ok_long, z_ok_null, true_and] at h ⊢; first | exact h | exact h.2 | exact h.2.2 | simp_all) (fun C w1 w2 => lv_icmp_gt C.1 C.2.1 hd hm w1 w2)
theorem zs_if_le (l : Launch) (D : va_G) : zk_if_le (z_Sem l D) := by
  intro d M pc lv st S o x off tgt hd hm k k2
  exact z_br k k2 (fun n h => by simp only [List.forall_mem_cons, z_ok_int, z_ok_long, z_ok_null, true_and] at h ⊢; first | exact h | exact h.2 | exact h.2.2 | simp_all) (fun C w1 w2 => lv_if_le C.1 C.2.1 hd hm w1 w2)
theorem zs_icmp_le (l : Launch) (D : va_G) : zk_icmp_le (z_Sem l D) := by
  intro d M pc lv st S o x y off tgt hd hm k k2
  exact z_br k k2 (fun n h => by simp only [List.forall_mem_cons, z_ok_int, z_ok_long, z_ok_null, true_and] at h ⊢; first | exact h | exact h.2 | exact h.2.2 | simp_all) (fun C w1 w2 => lv_icmp_le C.1 C.2.1 hd hm w1 w2)
theorem zs_goto (l : Launch) (D : va_G) : zk_goto (z_Sem l D) := by
  intro d M pc lv st S o off tgt hd hm k
  exact z_loc k (fun n hl h => h) (fun C hl hc hs w => lv_goto C.1 C.2.1 hd hm w)
theorem zs_ifnull (l : Launch) (D : va_G) : zk_ifnull (z_Sem l D) := by
  intro d M pc lv st S o x off hd  k
  exact z_loc k (fun n hl h => by simp only [List.forall_mem_cons, z_ok_int, z_ok_long, z_ok_null, true_and] at h ⊢; first | exact h | exact h.2 | exact h.2.2 | simp_all) (fun C hl hc hs w => lv_ifnull C.1 C.2.1 hd w)
theorem zs_ifnullN (l : Launch) (D : va_G) : zk_ifnullN (z_Sem l D) := by
  intro d M pc lv st S o off tgt hd hm k
  exact z_loc k (fun n hl h => by simp only [List.forall_mem_cons, z_ok_int, z_ok_long, z_ok_null, true_and] at h ⊢; first | exact h | exact h.2 | exact h.2.2 | simp_all) (fun C hl hc hs w => lv_ifnullN C.1 C.2.1 hd hm w)
theorem zs_ifnonnull (l : Launch) (D : va_G) : zk_ifnonnull (z_Sem l D) := by
  intro d M pc lv st S o x off tgt hd hm k
  exact z_loc k (fun n hl h => by simp only [List.forall_mem_cons, z_ok_int, z_ok_long, z_ok_null, true_and] at h ⊢; first | exact h | exact h.2 | exact h.2.2 | simp_all) (fun C hl hc hs w => lv_ifnonnull C.1 C.2.1 hd hm w)
theorem zs_ifnonnullN (l : Launch) (D : va_G) : zk_ifnonnullN (z_Sem l D) := by
  intro d M pc lv st S o off hd  k
  exact z_loc k (fun n hl h => by simp only [List.forall_mem_cons, z_ok_int, z_ok_long, z_ok_null, true_and] at h ⊢; first | exact h | exact h.2 | exact h.2.2 | simp_all) (fun C hl hc hs w => lv_ifnonnullN C.1 C.2.1 hd w)
theorem zs_lookup (l : Launch) (D : va_G) : zk_lookup (z_Sem l D) := by
  intro d M pc lv st S o x dflt off ps len tgt hd hm hm1 hm2 k
  exact z_loc k (fun n hl h => by simp only [List.forall_mem_cons, z_ok_int, z_ok_long, z_ok_null, true_and] at h ⊢; first | exact h | exact h.2 | exact h.2.2 | simp_all) (fun C hl hc hs w => lv_lookup C.1 C.2.1 hd hm hm1 hm2 w)
theorem zs_tableIn (l : Launch) (D : va_G) : zk_tableIn (z_Sem l D) := by
  intro d M pc lv st S o x dflt lo hi off offs len tgt hd hm hm1 hm2 hm3 k
  exact z_loc k (fun n hl h => by simp only [List.forall_mem_cons, z_ok_int, z_ok_long, z_ok_null, true_and] at h ⊢; first | exact h | exact h.2 | exact h.2.2 | simp_all) (fun C hl hc hs w => lv_tableIn C.1 C.2.1 hd hm hm1 hm2 hm3 w)
theorem zs_tableOut (l : Launch) (D : va_G) : zk_tableOut (z_Sem l D) := by
  intro d M pc lv st S o x dflt lo hi offs len tgt hd hm hm1 k
  exact z_loc k (fun n hl h => by simp only [List.forall_mem_cons, z_ok_int, z_ok_long, z_ok_null, true_and] at h ⊢; first | exact h | exact h.2 | exact h.2.2 | simp_all) (fun C hl hc hs w => lv_tableOut C.1 C.2.1 hd hm hm1 w)
theorem zs_getf (l : Launch) (D : va_G) : zk_getf (z_Sem l D) := by
  intro d M pc lv st S o idx i ci j ty fin fs v hd hm hm1 hm2 k
  refine ⟨k.1, fun p e R s m args below meth c cA A ad H locs ls cells slots Q C I F hc hs K => ?_⟩
  have hi : i < S.1 := F.2.2.2 (.ref i) List.mem_cons_self
  have he := z_ws_get (ad := ad) (cA := cA) hi
  rw [hm1] at he
  have he : (z_ws ad cA S)[i]? = some (ad i, .inr (ci, fs.map (z_tr ad))) := he
  obtain ⟨r, hr, hk, hcl, hpd, hfin, hlk⟩ := hm
  have hov : z_ok S.1 v := by have h8 := I.2.2.1 i hi; rw [hm1] at h8; exact h8 v (List.mem_of_getElem? hm2)
  have w := k.2 p e R s m args below meth c cA A ad H locs ls cells slots Q C I ⟨F.1, F.2.1, F.2.2.1, by have h9 := F.2.2.2; simp only [List.forall_mem_cons] at h9 ⊢; exact ⟨hov, h9.2⟩⟩ hc hs K
  rcases hlk with hlk | hlk
  · exact va_get (C := r.1) (T := r.2.1) (N := r.2.2) (ref := r.1) (v := z_tr ad v) C.1 C.2.1 C.2.2.2.2.2.1 (z_cls_in hr) C.2.2.2.2.1 (z_K C) I.1 i he hr j hk (C.2.2.2.2.2.1 _ hlk) (by rw [hcl]; exact fun _ h => h) (by rw [List.getElem?_map, hm2]; rfl) hd w
  · exact va_getN (C := r.1) (T := r.2.1) (N := r.2.2) (ref := r.1) (v := z_tr ad v) C.1 C.2.1 C.2.2.2.2.2.1 (z_cls_in hr) C.2.2.2.2.1 (z_K C) I.1 i he hr j hk (va_Nw.use rfl (C.2.2.2.2.2.2.1 _ hlk)) (by rw [hcl]; exact fun _ h => h) (by rw [List.getElem?_map, hm2]; rfl) hd w
theorem zs_putf (l : Launch) (D : va_G) : zk_putf (z_Sem l D) := by
  intro d M pc lv st S o idx i ci j ty fs v hd hm hm1 hm2 hm3 k
  refine z_stp k (fun n h => by simp only [List.forall_mem_cons] at h ⊢; exact h.2.2) (fun {p e R s m args below meth c cA A ad H locs ls cells slots Q} C I F w => ?_)
  have hi : i < S.1 := F.2.2.2 (.ref i) (List.mem_cons_of_mem _ List.mem_cons_self)
  have hov : z_ok S.1 v := F.2.2.2 v List.mem_cons_self
  have he := z_ws_get (ad := ad) (cA := cA) hi
  rw [hm1] at he
  have he : (z_ws ad cA S)[i]? = some (ad i, .inr (ci, fs.map (z_tr ad))) := he
  obtain ⟨r, hr, hk, hcl, hpd, hfin, hlk⟩ := hm
  have hoc : z_okC S.1 (.inr (ci, fs.set j v)) := by
    intro u hu
    rcases List.mem_or_eq_of_mem_set hu with h | h
    · have h8 := I.2.2.1 i hi; rw [hm1] at h8; exact h8 u h
    · rw [h]; exact hov
  have ew : z_trC ad cA (.inr (ci, fs.set j v)) = .inr (ci, (fs.map (z_tr ad)).set j (z_tr ad v)) := by
    show (Sum.inr (ci, (fs.set j v).map (z_tr ad)) : va_E) = _
    rw [List.map_set]
  rcases hlk with hlk | hlk
  · exact va_put (C := r.1) (T := r.2.1) (N := r.2.2) (ref := r.1) (v := z_tr ad v) (ty := ty) C.1 C.2.1 C.2.2.2.2.2.1 (z_cls_in hr) (z_ft r) (z_cls_ty hr) (z_cls_nm hr) C.2.2.2.2.1 (z_K C) I.1 I.2.1 F.1 i he hr j hk (C.2.2.2.2.2.1 _ hlk) (by rw [hcl]; exact fun _ h => h) hfin hpd (z_narrow hm3.1) (z_fits hm3.2) (by rw [List.length_map]; exact hm2) hd (fun H1 locs1 hP hD hS => w H1 locs1 (z_In_put I (by rw [ew]; exact hP) (by rw [ew]; exact hD) hoc (fun _ _ h => by cases h)) hS)
  · exact va_putN (C := r.1) (T := r.2.1) (N := r.2.2) (ref := r.1) (v := z_tr ad v) (ty := ty) C.1 C.2.1 C.2.2.2.2.2.1 (z_cls_in hr) (z_ft r) (z_cls_ty hr) (z_cls_nm hr) C.2.2.2.2.1 (z_K C) I.1 I.2.1 F.1 i he hr j hk (va_Nw.use rfl (C.2.2.2.2.2.2.1 _ hlk)) (by rw [hcl]; exact fun _ h => h) hfin hpd (z_narrow hm3.1) (z_fits hm3.2) (by rw [List.length_map]; exact hm2) hd (fun H1 locs1 hP hD hS => w H1 locs1 (z_In_put I (by rw [ew]; exact hP) (by rw [ew]; exact hD) hoc (fun _ _ h => by cases h)) hS)
theorem zs_putF (l : Launch) (D : va_G) : zk_putF (z_Sem l D) := by
  intro d M pc lv st S o idx i ci j ty fs v hd hm hm1 hm2 hm3 hm4 k
  refine z_stp k (fun n h => by simp only [List.forall_mem_cons] at h ⊢; exact h.2.2) (fun {p e R s m args below meth c cA A ad H locs ls cells slots Q} C I F w => ?_)
  have hi : i < S.1 := F.2.2.2 (.ref i) (List.mem_cons_of_mem _ List.mem_cons_self)
  have hov : z_ok S.1 v := F.2.2.2 v List.mem_cons_self
  have he := z_ws_get (ad := ad) (cA := cA) hi
  rw [hm1] at he
  have he : (z_ws ad cA S)[i]? = some (ad i, .inr (ci, fs.map (z_tr ad))) := he
  obtain ⟨r, hr, hk, hcl, hown9, hpd, hfin, hlk⟩ := hm
  have hoc : z_okC S.1 (.inr (ci, fs.set j v)) := by
    intro u hu
    rcases List.mem_or_eq_of_mem_set hu with h | h
    · have h8 := I.2.2.1 i hi; rw [hm1] at h8; exact h8 u h
    · rw [h]; exact hov
  have ew : z_trC ad cA (.inr (ci, fs.set j v)) = .inr (ci, (fs.map (z_tr ad)).set j (z_tr ad v)) := by
    show (Sum.inr (ci, (fs.set j v).map (z_tr ad)) : va_E) = _
    rw [List.map_set]
  exact va_putF (C := r.1) (T := r.2.1) (N := r.2.2) (ref := r.1) (v := z_tr ad v) (ty := ty) C.1 C.2.1 C.2.2.2.2.2.1 (z_cls_in hr) (z_ft r) (z_cls_ty hr) (z_cls_nm hr) C.2.2.2.2.1 (z_K C) I.1 I.2.1 F.1 i he hr j hk (C.2.2.2.2.2.1 _ hlk) (by rw [hcl]; exact fun _ h => h) hfin (C.2.2.2.2.2.2.2.2.1 hm4) (hcl.trans hown9) hpd (z_narrow hm3.1) (z_fits hm3.2) (by rw [List.length_map]; exact hm2) hd (fun H1 locs1 hP hD hS => w H1 locs1 (z_In_put I (by rw [ew]; exact hP) (by rw [ew]; exact hD) hoc (fun _ _ h => by cases h)) hS)
theorem zs_bald (l : Launch) (D : va_G) : zk_bald (z_Sem l D) := by
  intro d M pc lv st S o i n x g hd hm hm1 k
  refine ⟨k.1, fun p e R s m args below meth c cA A ad H locs ls cells slots Q C I F hc hs K => ?_⟩
  have hi : i < S.1 := F.2.2.2 (.ref i) (List.mem_cons_of_mem _ List.mem_cons_self)
  have he := z_ws_get (ad := ad) (cA := cA) hi
  rw [hm] at he
  have he : (z_ws ad cA S)[i]? = some (ad i, .inl (cA (.byte), n, .inl g)) := he
  have w := k.2 p e R s m args below meth c cA A ad H locs ls cells slots Q C I ⟨F.1, F.2.1, F.2.2.1, by have h9 := F.2.2.2; simp only [List.forall_mem_cons, z_ok_int, z_ok_long, true_and] at h9 ⊢; exact h9.2⟩ hc hs K
  exact va_bald C.1 C.2.1 (z_K1 C (I.2.2.2 i hi _ _ hm)) I.1 i 0 he rfl hm1 hd w
theorem zs_zald (l : Launch) (D : va_G) : zk_zald (z_Sem l D) := by
  intro d M pc lv st S o i n x g hd hm hm1 k
  refine ⟨k.1, fun p e R s m args below meth c cA A ad H locs ls cells slots Q C I F hc hs K => ?_⟩
  have hi : i < S.1 := F.2.2.2 (.ref i) (List.mem_cons_of_mem _ List.mem_cons_self)
  have he := z_ws_get (ad := ad) (cA := cA) hi
  rw [hm] at he
  have he : (z_ws ad cA S)[i]? = some (ad i, .inl (cA (.boolean), n, .inl g)) := he
  have w := k.2 p e R s m args below meth c cA A ad H locs ls cells slots Q C I ⟨F.1, F.2.1, F.2.2.1, by have h9 := F.2.2.2; simp only [List.forall_mem_cons, z_ok_int, z_ok_long, true_and] at h9 ⊢; exact h9.2⟩ hc hs K
  exact va_zald C.1 C.2.1 (z_K1 C (I.2.2.2 i hi _ _ hm)) I.1 i 0 he rfl hm1 hd w
theorem zs_iald (l : Launch) (D : va_G) : zk_iald (z_Sem l D) := by
  intro d M pc lv st S o i n x g hd hm hm1 k
  refine ⟨k.1, fun p e R s m args below meth c cA A ad H locs ls cells slots Q C I F hc hs K => ?_⟩
  have hi : i < S.1 := F.2.2.2 (.ref i) (List.mem_cons_of_mem _ List.mem_cons_self)
  have he := z_ws_get (ad := ad) (cA := cA) hi
  rw [hm] at he
  have he : (z_ws ad cA S)[i]? = some (ad i, .inl (cA (.int), n, .inl g)) := he
  have w := k.2 p e R s m args below meth c cA A ad H locs ls cells slots Q C I ⟨F.1, F.2.1, F.2.2.1, by have h9 := F.2.2.2; simp only [List.forall_mem_cons, z_ok_int, z_ok_long, true_and] at h9 ⊢; exact h9.2⟩ hc hs K
  exact va_iald C.1 C.2.1 (z_K1 C (I.2.2.2 i hi _ _ hm)) I.1 i 0 he rfl hm1 hd w
theorem zs_lald (l : Launch) (D : va_G) : zk_lald (z_Sem l D) := by
  intro d M pc lv st S o i n x g hd hm hm1 k
  refine ⟨k.1, fun p e R s m args below meth c cA A ad H locs ls cells slots Q C I F hc hs K => ?_⟩
  have hi : i < S.1 := F.2.2.2 (.ref i) (List.mem_cons_of_mem _ List.mem_cons_self)
  have he := z_ws_get (ad := ad) (cA := cA) hi
  rw [hm] at he
  have he : (z_ws ad cA S)[i]? = some (ad i, .inl (cA (.long), n, .inr (.inl g))) := he
  have w := k.2 p e R s m args below meth c cA A ad H locs ls cells slots Q C I ⟨F.1, F.2.1, F.2.2.1, by have h9 := F.2.2.2; simp only [List.forall_mem_cons, z_ok_int, z_ok_long, true_and] at h9 ⊢; exact h9.2⟩ hc hs K
  exact va_lald C.1 C.2.1 (z_K1 C (I.2.2.2 i hi _ _ hm)) I.1 i 0 he rfl hm1 hd w
theorem zs_aald (l : Launch) (D : va_G) : zk_aald (z_Sem l D) := by
  intro d M pc lv st S o i n x ty g hd hm hm1 hm2 k
  refine ⟨k.1, fun p e R s m args below meth c cA A ad H locs ls cells slots Q C I F hc hs K => ?_⟩
  have hi : i < S.1 := F.2.2.2 (.ref i) (List.mem_cons_of_mem _ List.mem_cons_self)
  have he := z_ws_get (ad := ad) (cA := cA) hi
  rw [hm] at he
  have he : (z_ws ad cA S)[i]? = some (ad i, .inl (cA ty, n, .inr (.inr (.inr (.inr (fun k => (g k).map ad)))))) := he
  have hov : z_ok S.1 (va_rf (g x.toNatClampNeg)) := by
    have h8 := I.2.2.1 i hi
    rw [hm] at h8
    cases hg : g x.toNatClampNeg with
    | none => trivial
    | some j => exact h8 _ j hg
  have w := k.2 p e R s m args below meth c cA A ad H locs ls cells slots Q C I ⟨F.1, F.2.1, F.2.2.1, by have h9 := F.2.2.2; simp only [List.forall_mem_cons, z_ok_int, z_ok_long, true_and] at h9 ⊢; exact ⟨hov, h9.2⟩⟩ hc hs K
  have hlt : x.toNatClampNeg < n := Nat.not_le.mp fun q => hm1 (Or.inr q)
  have w : W p l e R s m args below meth c H locs cells slots Q (F0 m (pc + 1) ls (z_tr ad (va_rf (g x.toNatClampNeg)) :: st.map (z_tr ad))) := w
  rw [z_rf] at w
  exact W.aald (v := va_rf ((g x.toNatClampNeg).map ad)) (ty := ty) C.1 C.2.1 (I.1 i _ he) ((I.2.2.2 i hi _ _ hm).1 n (fun j => va_rf ((g j).map ad))) hm2 (fun q => by cases q) (by show ¬ (x < 0 ∨ (arrV _ _ _).slots.size ≤ _); rw [arrV_size]; exact hm1) (by show (arrV _ _ _).slots[_]? = _; rw [arrV_read _ _ hlt]) rfl rfl hd w
theorem zs_bast (l : Launch) (D : va_G) : zk_bast (z_Sem l D) := by
  intro d M pc lv st S o i n x g y hd hm hm1 k
  refine z_stp k (fun n h => by simp only [List.forall_mem_cons] at h ⊢; exact h.2.2.2) (fun {p e R s m args below meth c cA A ad H locs ls cells slots Q} C I F w => ?_)
  have hi : i < S.1 := F.2.2.2 (.ref i) (List.mem_cons_of_mem _ (List.mem_cons_of_mem _ List.mem_cons_self))
  have he := z_ws_get (ad := ad) (cA := cA) hi
  rw [hm] at he
  have he : (z_ws ad cA S)[i]? = some (ad i, .inl (cA (.byte), n, .inl g)) := he
  exact va_bast C.1 C.2.1 (z_K1 C (I.2.2.2 i hi _ _ hm)) I.1 I.2.1 F.1 i 0 he rfl hm1 hd (fun H1 locs1 hP hD hS => w H1 locs1 (z_In_put I hP hD trivial (fun ty a h => by cases h; exact I.2.2.2 i hi _ _ hm)) hS)
theorem zs_zast (l : Launch) (D : va_G) : zk_zast (z_Sem l D) := by
  intro d M pc lv st S o i n x g y hd hm hm1 k
  refine z_stp k (fun n h => by simp only [List.forall_mem_cons] at h ⊢; exact h.2.2.2) (fun {p e R s m args below meth c cA A ad H locs ls cells slots Q} C I F w => ?_)
  have hi : i < S.1 := F.2.2.2 (.ref i) (List.mem_cons_of_mem _ (List.mem_cons_of_mem _ List.mem_cons_self))
  have he := z_ws_get (ad := ad) (cA := cA) hi
  rw [hm] at he
  have he : (z_ws ad cA S)[i]? = some (ad i, .inl (cA (.boolean), n, .inl g)) := he
  exact va_zast C.1 C.2.1 (z_K1 C (I.2.2.2 i hi _ _ hm)) I.1 I.2.1 F.1 i 0 he rfl hm1 hd (fun H1 locs1 hP hD hS => w H1 locs1 (z_In_put I hP hD trivial (fun ty a h => by cases h; exact I.2.2.2 i hi _ _ hm)) hS)
theorem zs_iast (l : Launch) (D : va_G) : zk_iast (z_Sem l D) := by
  intro d M pc lv st S o i n x g y hd hm hm1 k
  refine z_stp k (fun n h => by simp only [List.forall_mem_cons] at h ⊢; exact h.2.2.2) (fun {p e R s m args below meth c cA A ad H locs ls cells slots Q} C I F w => ?_)
  have hi : i < S.1 := F.2.2.2 (.ref i) (List.mem_cons_of_mem _ (List.mem_cons_of_mem _ List.mem_cons_self))
  have he := z_ws_get (ad := ad) (cA := cA) hi
  rw [hm] at he
  have he : (z_ws ad cA S)[i]? = some (ad i, .inl (cA (.int), n, .inl g)) := he
  exact va_iast C.1 C.2.1 (z_K1 C (I.2.2.2 i hi _ _ hm)) I.1 I.2.1 F.1 i 0 he rfl hm1 hd (fun H1 locs1 hP hD hS => w H1 locs1 (z_In_put I hP hD trivial (fun ty a h => by cases h; exact I.2.2.2 i hi _ _ hm)) hS)
theorem zs_last (l : Launch) (D : va_G) : zk_last (z_Sem l D) := by
  intro d M pc lv st S o i n x g y hd hm hm1 k
  refine z_stp k (fun n h => by simp only [List.forall_mem_cons] at h ⊢; exact h.2.2.2) (fun {p e R s m args below meth c cA A ad H locs ls cells slots Q} C I F w => ?_)
  have hi : i < S.1 := F.2.2.2 (.ref i) (List.mem_cons_of_mem _ (List.mem_cons_of_mem _ List.mem_cons_self))
  have he := z_ws_get (ad := ad) (cA := cA) hi
  rw [hm] at he
  have he : (z_ws ad cA S)[i]? = some (ad i, .inl (cA (.long), n, .inr (.inl g))) := he
  exact va_last C.1 C.2.1 (z_K1 C (I.2.2.2 i hi _ _ hm)) I.1 I.2.1 F.1 i 0 he rfl hm1 hd (fun H1 locs1 hP hD hS => w H1 locs1 (z_In_put I hP hD trivial (fun ty a h => by cases h; exact I.2.2.2 i hi _ _ hm)) hS)
theorem zs_aast (l : Launch) (D : va_G) : zk_aast (z_Sem l D) := by
  intro d M pc lv st S o i n j ci x r g vs hd hm hm1 hm2 hm3 k
  refine z_stp k (fun n h => by simp only [List.forall_mem_cons] at h ⊢; exact h.2.2.2) (fun {p e R s m args below meth c cA A ad H locs ls cells slots Q} C I F w => ?_)
  have hj : j < S.1 := F.2.2.2 (.ref j) List.mem_cons_self
  have hi : i < S.1 := F.2.2.2 (.ref i) (List.mem_cons_of_mem _ (List.mem_cons_of_mem _ List.mem_cons_self))
  have he := z_ws_get (ad := ad) (cA := cA) hi
  rw [hm] at he
  have he : (z_ws ad cA S)[i]? = some (ad i, .inl (cA (.object r.1), n, .inr (.inr (.inr (.inr (fun k => (g k).map ad)))))) := he
  have hf := z_ws_get (ad := ad) (cA := cA) hj
  rw [hm2] at hf
  have hf : (z_ws ad cA S)[j]? = some (ad j, .inr (ci, vs.map (z_tr ad))) := hf
  have ew : z_trC ad cA (.inl (.object r.1, n, .inr (.inr (.inr (.inr (va_up g x.toNatClampNeg (some j))))))) = .inl (cA (.object r.1), n, .inr (.inr (.inr (.inr (va_up (fun k => (g k).map ad) x.toNatClampNeg (some (ad j))))))) := by
    show (Sum.inl (cA (.object r.1), n, .inr (.inr (.inr (.inr (fun k => (va_up g x.toNatClampNeg (some j) k).map ad))))) : va_E) = _
    congr 7
    funext k
    unfold va_up
    split <;> rfl
  have hoc : z_okC S.1 (.inl (.object r.1, n, .inr (.inr (.inr (.inr (va_up g x.toNatClampNeg (some j))))))) := by
    intro k i9 h9
    have h8 := I.2.2.1 i hi
    rw [hm] at h8
    unfold va_up at h9
    split at h9
    · cases h9; exact hj
    · exact h8 k i9 h9
  exact va_astq C.1 C.2.1 (z_K1 C (I.2.2.2 i hi _ _ hm)) I.1 I.2.1 F.1 i 0 j ci he rfl hf hm3 hm1 hd (fun H1 locs1 hP hD hS => w H1 locs1 (z_In_put I (by rw [ew]; exact hP) (by rw [ew]; exact hD) hoc (fun ty a h => by cases h; exact I.2.2.2 i hi _ _ hm)) hS)
theorem zs_alen (l : Launch) (D : va_G) : zk_alen (z_Sem l D) := by
  intro d M pc lv st S o i ty a hd hm k
  refine ⟨k.1, fun p e R s m args below meth c cA A ad H locs ls cells slots Q C I F hc hs K => ?_⟩
  have hi : i < S.1 := F.2.2.2 (.ref i) List.mem_cons_self
  have he := z_ws_get (ad := ad) (cA := cA) hi
  rw [hm] at he
  have he : (z_ws ad cA S)[i]? = some (ad i, .inl (cA ty, z_trA ad a)) := he
  have w := k.2 p e R s m args below meth c cA A ad H locs ls cells slots Q C I ⟨F.1, F.2.1, F.2.2.1, by have h9 := F.2.2.2; simp only [List.forall_mem_cons, z_ok_int, z_ok_long, true_and] at h9 ⊢; exact h9.2⟩ hc hs K
  exact va_alen C.1 C.2.1 (z_K1 C (I.2.2.2 i hi _ _ hm)) I.1 i 0 he rfl (by rcases a with ⟨n, g | g | g | g | g⟩ <;> rfl) hd w
theorem zs_new (l : Launch) (D : va_G) : zk_new (z_Sem l D) := by
  intro d M pc lv st S o idx ci n fs hd hm k
  refine z_stn k (fun h => by simp only [List.forall_mem_cons]; exact ⟨Nat.lt_succ_self _, fun v hv => z_ok_mono (Nat.le_succ _) (h v hv)⟩) (fun {p e R s m args below meth c cA A ad H locs ls cells slots Q} C I F hc hs w => ?_)
  obtain ⟨r, hr, hn, hcl, hins, hini, hdf, hno⟩ := hm
  subst hn
  have hmap : ∀ ad : Nat → Nat, fs.map (z_tr ad) = fs := fun ad => by
    conv => rhs; rw [← List.map_id fs]
    apply List.map_congr_left
    intro v hv
    rcases hno v hv with h | h | h <;> subst h <;> rfl
  have hoc : z_okC (S.1 + 1) (.inr (ci, fs)) := fun v hv => by rcases hno v hv with h | h | h <;> subst h <;> trivial
  have ew : ∀ q, z_trC (va_up ad S.1 q) cA (.inr (ci, fs)) = .inr (ci, fs) := fun q => by
    show (Sum.inr (ci, fs.map (z_tr (va_up ad S.1 q))) : va_E) = _
    rw [hmap]
  exact va_new (c0 := c) (C := r.1) (T := r.2.1) (N := r.2.2) (fs := fs) C.1 C.2.1 C.2.2.2.2.2.1 (z_cls_in hr) (z_ft r) (z_cls_ty hr) C.2.2.2.2.1 (C.2.2.2.2.2.1 _ hcl) (C.2.2.2.2.2.1 _ hins) (C.2.2.2.2.2.1 _ hini) (z_K C) I.1 I.2.1 F.1 C.2.2.2.2.2.2.2.2.2.2.2.2.2 hr (fun j hj => by have h9 := hdf j hj; rw [z_cls_ty hr j hj] at h9; exact Option.some.inj h9) hc hs hd (fun q H1 hP hD hS => by
    have w9 := w q H1 (z_In_new (k := r.2.2) I (by rw [ew]; exact hP) (by rw [ew]; exact hD) hoc (fun _ _ h => by cases h)) hS
    have e9 : (Value.ref S.1 :: st).map (z_tr (va_up ad S.1 q)) = .ref q :: st.map (z_tr ad) := by
      show Value.ref (va_up ad S.1 q S.1) :: st.map (z_tr (va_up ad S.1 q)) = _
      rw [va_up_self, z_trs_new z_up_lt F.2.2.2]
    rw [e9] at w9
    exact w9)
theorem zs_newi (l : Launch) (D : va_G) : zk_newi (z_Sem l D) := by
  intro d M pc lv st S o n N hd hm hm1 hm2 hm3 k
  refine z_stn k (fun h => by simp only [List.forall_mem_cons] at h ⊢; exact ⟨Nat.lt_succ_self _, fun v hv => z_ok_mono (Nat.le_succ _) (h.2 v hv)⟩) (fun {p e R s m args below meth c cA A ad H locs ls cells slots Q} C I F hc hs w => ?_)
  refine va_newa (atype := .int) (ty := .int) (a0 := (N, .inl (fun _ => 0))) C.1 C.2.1 (C.2.2.2.2.2.1 _ hm3) rfl (z_K C) I.1 I.2.1 F.1 C.2.2.2.2.2.2.2.2.2.2.2.2.2 (fun cA => rfl) hm hm1 hm2 hc hs hd (fun q cA9 H1 hK hP hD hS => ?_)
  have hA9 := hK.2 0 (cA9, .int) rfl
  have ec : cA .int = cA9 := C.2.2.2.2.2.2.2.2.2.2.2.2.1 _ _ hA9.2
  rw [← ec] at hA9 hP hD
  have w9 := w q H1 (z_In_new (k := N) I hP hD trivial (fun ty a h => by cases h; exact hA9)) hS
  have e9 : (Value.ref S.1 :: st).map (z_tr (va_up ad S.1 q)) = .ref q :: st.map (z_tr ad) := by
    show Value.ref (va_up ad S.1 q S.1) :: st.map (z_tr (va_up ad S.1 q)) = _
    rw [va_up_self, z_trs_new z_up_lt (fun v hv => F.2.2.2 v (List.mem_cons_of_mem _ hv))]
  rw [e9] at w9
  exact w9
theorem zs_newb (l : Launch) (D : va_G) : zk_newb (z_Sem l D) := by
  intro d M pc lv st S o n N hd hm hm1 hm2 hm3 k
  refine z_stn k (fun h => by simp only [List.forall_mem_cons] at h ⊢; exact ⟨Nat.lt_succ_self _, fun v hv => z_ok_mono (Nat.le_succ _) (h.2 v hv)⟩) (fun {p e R s m args below meth c cA A ad H locs ls cells slots Q} C I F hc hs w => ?_)
  refine va_newa (atype := .byte) (ty := .byte) (a0 := (N, .inl (fun _ => 0))) C.1 C.2.1 (C.2.2.2.2.2.1 _ hm3) rfl (z_K C) I.1 I.2.1 F.1 C.2.2.2.2.2.2.2.2.2.2.2.2.2 (fun cA => rfl) hm hm1 hm2 hc hs hd (fun q cA9 H1 hK hP hD hS => ?_)
  have hA9 := hK.2 0 (cA9, .byte) rfl
  have ec : cA .byte = cA9 := C.2.2.2.2.2.2.2.2.2.2.2.2.1 _ _ hA9.2
  rw [← ec] at hA9 hP hD
  have w9 := w q H1 (z_In_new (k := N) I hP hD trivial (fun ty a h => by cases h; exact hA9)) hS
  have e9 : (Value.ref S.1 :: st).map (z_tr (va_up ad S.1 q)) = .ref q :: st.map (z_tr ad) := by
    show Value.ref (va_up ad S.1 q S.1) :: st.map (z_tr (va_up ad S.1 q)) = _
    rw [va_up_self, z_trs_new z_up_lt (fun v hv => F.2.2.2 v (List.mem_cons_of_mem _ hv))]
  rw [e9] at w9
  exact w9
theorem zs_newz (l : Launch) (D : va_G) : zk_newz (z_Sem l D) := by
  intro d M pc lv st S o n N hd hm hm1 hm2 hm3 k
  refine z_stn k (fun h => by simp only [List.forall_mem_cons] at h ⊢; exact ⟨Nat.lt_succ_self _, fun v hv => z_ok_mono (Nat.le_succ _) (h.2 v hv)⟩) (fun {p e R s m args below meth c cA A ad H locs ls cells slots Q} C I F hc hs w => ?_)
  refine va_newa (atype := .boolean) (ty := .boolean) (a0 := (N, .inl (fun _ => 0))) C.1 C.2.1 (C.2.2.2.2.2.1 _ hm3) rfl (z_K C) I.1 I.2.1 F.1 C.2.2.2.2.2.2.2.2.2.2.2.2.2 (fun cA => rfl) hm hm1 hm2 hc hs hd (fun q cA9 H1 hK hP hD hS => ?_)
  have hA9 := hK.2 0 (cA9, .boolean) rfl
  have ec : cA .boolean = cA9 := C.2.2.2.2.2.2.2.2.2.2.2.2.1 _ _ hA9.2
  rw [← ec] at hA9 hP hD
  have w9 := w q H1 (z_In_new (k := N) I hP hD trivial (fun ty a h => by cases h; exact hA9)) hS
  have e9 : (Value.ref S.1 :: st).map (z_tr (va_up ad S.1 q)) = .ref q :: st.map (z_tr ad) := by
    show Value.ref (va_up ad S.1 q S.1) :: st.map (z_tr (va_up ad S.1 q)) = _
    rw [va_up_self, z_trs_new z_up_lt (fun v hv => F.2.2.2 v (List.mem_cons_of_mem _ hv))]
  rw [e9] at w9
  exact w9
theorem zs_newl (l : Launch) (D : va_G) : zk_newl (z_Sem l D) := by
  intro d M pc lv st S o n N hd hm hm1 hm2 hm3 k
  refine z_stn k (fun h => by simp only [List.forall_mem_cons] at h ⊢; exact ⟨Nat.lt_succ_self _, fun v hv => z_ok_mono (Nat.le_succ _) (h.2 v hv)⟩) (fun {p e R s m args below meth c cA A ad H locs ls cells slots Q} C I F hc hs w => ?_)
  refine va_newa (atype := .long) (ty := .long) (a0 := (N, .inr (.inl (fun _ => 0)))) C.1 C.2.1 (C.2.2.2.2.2.1 _ hm3) rfl (z_K C) I.1 I.2.1 F.1 C.2.2.2.2.2.2.2.2.2.2.2.2.2 (fun cA => rfl) hm hm1 hm2 hc hs hd (fun q cA9 H1 hK hP hD hS => ?_)
  have hA9 := hK.2 0 (cA9, .long) rfl
  have ec : cA .long = cA9 := C.2.2.2.2.2.2.2.2.2.2.2.2.1 _ _ hA9.2
  rw [← ec] at hA9 hP hD
  have w9 := w q H1 (z_In_new (k := N) I hP hD trivial (fun ty a h => by cases h; exact hA9)) hS
  have e9 : (Value.ref S.1 :: st).map (z_tr (va_up ad S.1 q)) = .ref q :: st.map (z_tr ad) := by
    show Value.ref (va_up ad S.1 q S.1) :: st.map (z_tr (va_up ad S.1 q)) = _
    rw [va_up_self, z_trs_new z_up_lt (fun v hv => F.2.2.2 v (List.mem_cons_of_mem _ hv))]
  rw [e9] at w9
  exact w9
theorem zs_ldc (l : Launch) (D : va_G) : zk_ldc (z_Sem l D) := by
  intro d M pc lv st S o idx v hd hm k
  exact z_loc k (fun n hl h => by simp only [List.forall_mem_cons, z_ok_int, z_ok_long, z_ok_null, true_and] at h ⊢; first | exact h | exact h.2 | exact h.2.2 | simp_all) (fun C hl hc hs w => lv_ldc C.1 C.2.1 C.2.2.2.2.1 (C.2.2.2.2.2.1 _ hm) hd w)
theorem zs_ldcw (l : Launch) (D : va_G) : zk_ldcw (z_Sem l D) := by
  intro d M pc lv st S o idx v hd hm k
  exact z_loc k (fun n hl h => by simp only [List.forall_mem_cons, z_ok_int, z_ok_long, z_ok_null, true_and] at h ⊢; first | exact h | exact h.2 | exact h.2.2 | simp_all) (fun C hl hc hs w => lv_ldcw C.1 C.2.1 C.2.2.2.2.1 (C.2.2.2.2.2.1 _ hm) hd w)
theorem zs_ldc2 (l : Launch) (D : va_G) : zk_ldc2 (z_Sem l D) := by
  intro d M pc lv st S o idx v hd hm k
  exact z_loc k (fun n hl h => by simp only [List.forall_mem_cons, z_ok_int, z_ok_long, z_ok_null, true_and] at h ⊢; first | exact h | exact h.2 | exact h.2.2 | simp_all) (fun C hl hc hs w => lv_ldc2 C.1 C.2.1 C.2.2.2.2.1 (C.2.2.2.2.2.1 _ hm) hd w)
theorem zs_lcmp (l : Launch) (D : va_G) : zk_lcmp (z_Sem l D) := by
  intro d M pc lv st S o x y hd  k
  exact z_loc k (fun n hl h => by simp only [List.forall_mem_cons, z_ok_int, z_ok_long, z_ok_null, true_and] at h ⊢; first | exact h | exact h.2 | exact h.2.2 | simp_all) (fun C hl hc hs w => W.lcmp C.1 C.2.1 hd w)
theorem zs_callS (l : Launch) (D : va_G) : zk_callS (z_Sem l D) := by
  intro d M pc lv st S o idx n M1 as st1 lv1 S1 pc1 r hd h0 h1 h2 h3 h4 k0 k1
  have hg0 : S.1 ≤ S1.1 ∧ S.2.1 ≤ S1.2.1 := k0.1
  have hg1 : S1.1 ≤ o.2.2.2.1 ∧ S1.2.1 ≤ o.2.2.2.2.1 := k1.1
  refine ⟨⟨Nat.le_trans hg0.1 hg1.1, Nat.le_trans hg0.2 hg1.2⟩, fun p e R s m args below meth c cA A ad H locs ls cells slots Q C I F hc hs K => ?_⟩
  obtain ⟨hcode, hini, hdsc, hmx, hpl, hkd⟩ := h0
  have hst : ∀ v ∈ st, z_ok S.1 v := (fun v hv => F.2.2.2 v (List.mem_append_right _ hv))
  have hM := z_met (cA := cA) (ad := ad) (sz := H.size) k0 h4 (fun v hv => F.2.2.2 v (List.mem_append_left _ (List.mem_reverse.mpr hv))) h2 hpl
  have hT := C.2.2.2.2.2.1
  have hcat : ((st.map (z_tr ad)).map fun v => v.category).sum ≤ 8 := by
    rw [List.map_map]
    have e9 : ((fun v : Value => v.category) ∘ z_tr ad) = Value.category := by funext v; exact z_cat v
    rw [e9]
    exact h3
  have estk : (as.reverse ++ st).map (z_tr ad) = ((as.map (z_tr ad)).reverse ++ st.map (z_tr ad)) := by simp [z_tr]
  rw [estk]
  refine z_ret (g := F0 m pc ls ((as.map (z_tr ad)).reverse ++ st.map (z_tr ad))) (a9 := (as.map (z_tr ad)).toArray) rfl C I F.1 F.2.1 F.2.2.1 hst hg0 ?_ k1 hc hs K
  exact va_runS (As := as.map (z_tr ad)) (rest := st.map (z_tr ad)) ⟨C.1, C.2.1, C.2.2.2.1, C.2.2.2.2.1, hT⟩ hM ⟨callB_of n hT (z_good hcode) rfl rfl rfl (hT _ hini) (hT _ hkd.1) hdsc ⟨by rw [C.2.2.2.2.2.2.2.2.2.1]; exact Nat.le_refl _, by rw [C.2.2.2.2.2.2.2.2.2.2.1]; show 8 + (M1.2.2.1 + 11) + 40 * d ≤ 40 * (d + 1); omega⟩, hT _ hkd.2⟩ ⟨z_blind, fun U hU hW => ⟨rfl, z_wd C I U hU hW⟩⟩ rfl (by rw [List.length_map]; exact h1) F.2.1.1 rfl (lv_room hcat) hd ⟨by show cells + (S1.1 - S.1) ≤ _; omega, by show slots + (S1.2.1 - S.2.1) ≤ _; omega⟩

theorem zs_callSN (l : Launch) (D : va_G) : zk_callSN (z_Sem l D) := by
  intro d M pc lv st S o idx n M1 as st1 lv1 S1 pc1 r hd h0 h1 h2 h3 h4 k0 k1
  have hg0 : S.1 ≤ S1.1 ∧ S.2.1 ≤ S1.2.1 := k0.1
  have hg1 : S1.1 ≤ o.2.2.2.1 ∧ S1.2.1 ≤ o.2.2.2.2.1 := k1.1
  refine ⟨⟨Nat.le_trans hg0.1 hg1.1, Nat.le_trans hg0.2 hg1.2⟩, fun p e R s m args below meth c cA A ad H locs ls cells slots Q C I F hc hs K => ?_⟩
  obtain ⟨hcode, hini, hdsc, hmx, hpl, hkd⟩ := h0
  have hst : ∀ v ∈ st, z_ok S.1 v := (fun v hv => F.2.2.2 v (List.mem_append_right _ hv))
  have hM := z_met (cA := cA) (ad := ad) (sz := H.size) k0 h4 (fun v hv => F.2.2.2 v (List.mem_append_left _ (List.mem_reverse.mpr hv))) h2 hpl
  have hT := C.2.2.2.2.2.1
  have hcat : ((st.map (z_tr ad)).map fun v => v.category).sum ≤ 8 := by
    rw [List.map_map]
    have e9 : ((fun v : Value => v.category) ∘ z_tr ad) = Value.category := by funext v; exact z_cat v
    rw [e9]
    exact h3
  have estk : (as.reverse ++ st).map (z_tr ad) = ((as.map (z_tr ad)).reverse ++ st.map (z_tr ad)) := by simp [z_tr]
  rw [estk]
  refine z_ret (g := F0 m pc ls ((as.map (z_tr ad)).reverse ++ st.map (z_tr ad))) (a9 := (as.map (z_tr ad)).toArray) rfl C I F.1 F.2.1 F.2.2.1 hst hg0 ?_ k1 hc hs K
  exact va_runSN (As := as.map (z_tr ad)) (rest := st.map (z_tr ad)) ⟨C.1, C.2.1, C.2.2.2.1, C.2.2.2.2.1, hT⟩ hM ⟨va_cnB n hT (z_good hcode) rfl rfl rfl (C.2.2.2.2.2.2.1 _ hkd.1) (hT _ hini) hdsc ⟨by rw [C.2.2.2.2.2.2.2.2.2.1]; exact Nat.le_refl _, by rw [C.2.2.2.2.2.2.2.2.2.2.1]; show 8 + (M1.2.2.1 + 11) + 40 * d ≤ 40 * (d + 1); omega⟩, hT _ hkd.2, trivial⟩ ⟨z_blind, fun U hU hW => ⟨rfl, z_wd C I U hU hW⟩⟩ rfl (by rw [List.length_map]; exact h1) F.2.1.1 rfl (lv_room hcat) hd ⟨by show cells + (S1.1 - S.1) ≤ _; omega, by show slots + (S1.2.1 - S.2.1) ≤ _; omega⟩

theorem zs_callV (l : Launch) (D : va_G) : zk_callV (z_Sem l D) := by
  intro d M pc lv st S o idx n M1 as st1 lv1 S1 pc1 r b ci fs hd h0 h1 h2 h3 h4 h5 h6 k0 k1
  have hg0 : S.1 ≤ S1.1 ∧ S.2.1 ≤ S1.2.1 := k0.1
  have hg1 : S1.1 ≤ o.2.2.2.1 ∧ S1.2.1 ≤ o.2.2.2.2.1 := k1.1
  refine ⟨⟨Nat.le_trans hg0.1 hg1.1, Nat.le_trans hg0.2 hg1.2⟩, fun p e R s m args below meth c cA A ad H locs ls cells slots Q C I F hc hs K => ?_⟩
  obtain ⟨hcode, hini, hdsc, hmx, hpl, hkd⟩ := h0
  have hst : ∀ v ∈ st, z_ok S.1 v := (fun v hv => F.2.2.2 v (List.mem_append_right _ (List.mem_cons_of_mem _ hv)))
  have hM := z_met (cA := cA) (ad := ad) (sz := H.size) k0 h4 (fun v hv => by rcases List.mem_cons.mp hv with rfl | hv; exact F.2.2.2 (.ref b) (List.mem_append_right _ List.mem_cons_self); exact F.2.2.2 v (List.mem_append_left _ (List.mem_reverse.mpr hv))) h2 hpl
  have hT := C.2.2.2.2.2.1
  have hcat : ((st.map (z_tr ad)).map fun v => v.category).sum ≤ 8 := by
    rw [List.map_map]
    have e9 : ((fun v : Value => v.category) ∘ z_tr ad) = Value.category := by funext v; exact z_cat v
    rw [e9]
    exact h3
  have estk : (as.reverse ++ .ref b :: st).map (z_tr ad) = ((as.map (z_tr ad)).reverse ++ .ref (ad b) :: st.map (z_tr ad)) := by simp [z_tr]
  rw [estk]
  refine z_ret (g := F0 m pc ls ((as.map (z_tr ad)).reverse ++ .ref (ad b) :: st.map (z_tr ad))) (a9 := (Value.ref (ad b) :: as.map (z_tr ad)).toArray) rfl C I F.1 F.2.1 F.2.2.1 hst hg0 ?_ k1 hc hs K
  have hbi : b < S.1 := F.2.2.2 (.ref b) (List.mem_append_right _ List.mem_cons_self)
  have he := z_ws_get (ad := ad) (cA := cA) hbi
  rw [h5] at he
  have he : (z_ws ad cA S)[b]? = some (ad b, .inr (ci, fs.map (z_tr ad))) := he
  obtain ⟨rc, hrc, hrn⟩ : ∃ rc, vwCl[ci]? = some rc ∧ rc.1 = M1.1.cls := by
    cases hv9 : vwCl[ci]? with
    | none => rw [hv9] at h6; cases h6
    | some rc => rw [hv9] at h6; exact ⟨rc, rfl, Option.some.inj h6⟩
  have hrec := va_recv (z_K C) I.1 hrc he
  rw [hrn] at hrec
  exact va_runV (C := M1.1.cls) (b := ad b) (As := as.map (z_tr ad)) (rest := st.map (z_tr ad)) ⟨C.1, C.2.1, C.2.2.2.1, C.2.2.2.2.1, hT⟩ hM ⟨callB_of n hT (z_good hcode) rfl rfl rfl (hT _ hini) (hT _ hkd.1) hdsc ⟨by rw [C.2.2.2.2.2.2.2.2.2.1]; exact Nat.le_refl _, by rw [C.2.2.2.2.2.2.2.2.2.2.1]; show 8 + (M1.2.2.1 + 11) + 40 * d ≤ 40 * (d + 1); omega⟩, hT _ hkd.2.1, hT _ hkd.2.2⟩ ⟨z_blind, hrec, fun U hU hW => ⟨rfl, z_wd C I U hU hW⟩⟩ rfl (by rw [List.length_map]; exact h1) F.2.1.1 rfl (lv_room hcat) hd ⟨by show cells + (S1.1 - S.1) ≤ _; omega, by show slots + (S1.2.1 - S.2.1) ≤ _; omega⟩

theorem zs_callI (l : Launch) (D : va_G) : zk_callI (z_Sem l D) := by
  intro d M pc lv st S o idx n M1 as st1 lv1 S1 pc1 r b hd h0 h1 h2 h3 h4 k0 k1
  have hg0 : S.1 ≤ S1.1 ∧ S.2.1 ≤ S1.2.1 := k0.1
  have hg1 : S1.1 ≤ o.2.2.2.1 ∧ S1.2.1 ≤ o.2.2.2.2.1 := k1.1
  refine ⟨⟨Nat.le_trans hg0.1 hg1.1, Nat.le_trans hg0.2 hg1.2⟩, fun p e R s m args below meth c cA A ad H locs ls cells slots Q C I F hc hs K => ?_⟩
  obtain ⟨hcode, hini, hdsc, hmx, hpl, hkd⟩ := h0
  have hst : ∀ v ∈ st, z_ok S.1 v := (fun v hv => F.2.2.2 v (List.mem_append_right _ (List.mem_cons_of_mem _ hv)))
  have hM := z_met (cA := cA) (ad := ad) (sz := H.size) k0 h4 (fun v hv => by rcases List.mem_cons.mp hv with rfl | hv; exact F.2.2.2 (.ref b) (List.mem_append_right _ List.mem_cons_self); exact F.2.2.2 v (List.mem_append_left _ (List.mem_reverse.mpr hv))) h2 hpl
  have hT := C.2.2.2.2.2.1
  have hcat : ((st.map (z_tr ad)).map fun v => v.category).sum ≤ 8 := by
    rw [List.map_map]
    have e9 : ((fun v : Value => v.category) ∘ z_tr ad) = Value.category := by funext v; exact z_cat v
    rw [e9]
    exact h3
  have estk : (as.reverse ++ .ref b :: st).map (z_tr ad) = ((as.map (z_tr ad)).reverse ++ .ref (ad b) :: st.map (z_tr ad)) := by simp [z_tr]
  rw [estk]
  refine z_ret (g := F0 m pc ls ((as.map (z_tr ad)).reverse ++ .ref (ad b) :: st.map (z_tr ad))) (a9 := (Value.ref (ad b) :: as.map (z_tr ad)).toArray) rfl C I F.1 F.2.1 F.2.2.1 hst hg0 ?_ k1 hc hs K
  have hn9 : M1.2.2.2 = none := hkd.2.2.2
  exact va_runI (b := ad b) (As := as.map (z_tr ad)) (rest := st.map (z_tr ad)) ⟨C.1, C.2.1, C.2.2.2.1, C.2.2.2.2.1, hT⟩ hM ⟨by rw [← hn9]; exact callB_of n hT (z_good hcode) rfl rfl rfl (hT _ hini) (hT _ hkd.1) hdsc ⟨by rw [C.2.2.2.2.2.2.2.2.2.1]; exact Nat.le_refl _, by rw [C.2.2.2.2.2.2.2.2.2.2.1]; show 8 + (M1.2.2.1 + 11) + 40 * d ≤ 40 * (d + 1); omega⟩, hkd.2.2.1, hT _ hkd.2.1⟩ ⟨z_blind, fun U hU hW => ⟨rfl, z_wd C I U hU hW⟩⟩ rfl (by rw [List.length_map]; exact h1) F.2.1.1 rfl (lv_room hcat) hd ⟨by show cells + (S1.1 - S.1) ≤ _; omega, by show slots + (S1.2.1 - S.2.1) ≤ _; omega⟩

theorem zs_callIN (l : Launch) (D : va_G) : zk_callIN (z_Sem l D) := by
  intro d M pc lv st S o idx n M1 as st1 lv1 S1 pc1 r b hd h0 h1 h2 h3 h4 k0 k1
  have hg0 : S.1 ≤ S1.1 ∧ S.2.1 ≤ S1.2.1 := k0.1
  have hg1 : S1.1 ≤ o.2.2.2.1 ∧ S1.2.1 ≤ o.2.2.2.2.1 := k1.1
  refine ⟨⟨Nat.le_trans hg0.1 hg1.1, Nat.le_trans hg0.2 hg1.2⟩, fun p e R s m args below meth c cA A ad H locs ls cells slots Q C I F hc hs K => ?_⟩
  obtain ⟨hcode, hini, hdsc, hmx, hpl, hkd⟩ := h0
  have hst : ∀ v ∈ st, z_ok S.1 v := (fun v hv => F.2.2.2 v (List.mem_append_right _ (List.mem_cons_of_mem _ hv)))
  have hM := z_met (cA := cA) (ad := ad) (sz := H.size) k0 h4 (fun v hv => by rcases List.mem_cons.mp hv with rfl | hv; exact F.2.2.2 (.ref b) (List.mem_append_right _ List.mem_cons_self); exact F.2.2.2 v (List.mem_append_left _ (List.mem_reverse.mpr hv))) h2 hpl
  have hT := C.2.2.2.2.2.1
  have hcat : ((st.map (z_tr ad)).map fun v => v.category).sum ≤ 8 := by
    rw [List.map_map]
    have e9 : ((fun v : Value => v.category) ∘ z_tr ad) = Value.category := by funext v; exact z_cat v
    rw [e9]
    exact h3
  have estk : (as.reverse ++ .ref b :: st).map (z_tr ad) = ((as.map (z_tr ad)).reverse ++ .ref (ad b) :: st.map (z_tr ad)) := by simp [z_tr]
  rw [estk]
  refine z_ret (g := F0 m pc ls ((as.map (z_tr ad)).reverse ++ .ref (ad b) :: st.map (z_tr ad))) (a9 := (Value.ref (ad b) :: as.map (z_tr ad)).toArray) rfl C I F.1 F.2.1 F.2.2.1 hst hg0 ?_ k1 hc hs K
  have hn9 : M1.2.2.2 = none := hkd.2.2.2
  exact va_runIN (b := ad b) (As := as.map (z_tr ad)) (rest := st.map (z_tr ad)) ⟨C.1, C.2.1, C.2.2.2.1, C.2.2.2.2.1, hT⟩ hM ⟨by rw [← hn9]; exact va_cnB n hT (z_good hcode) rfl rfl rfl (C.2.2.2.2.2.2.1 _ hkd.1) (hT _ hini) hdsc ⟨by rw [C.2.2.2.2.2.2.2.2.2.1]; exact Nat.le_refl _, by rw [C.2.2.2.2.2.2.2.2.2.2.1]; show 8 + (M1.2.2.1 + 11) + 40 * d ≤ 40 * (d + 1); omega⟩, hkd.2.2.1, hT _ hkd.2.1⟩ ⟨z_blind, fun U hU hW => ⟨rfl, z_wd C I U hU hW⟩⟩ rfl (by rw [List.length_map]; exact h1) F.2.1.1 rfl (lv_room hcat) hd ⟨by show cells + (S1.1 - S.1) ≤ _; omega, by show slots + (S1.2.1 - S.2.1) ≤ _; omega⟩

theorem zs_refl (l : Launch) (D : va_G) (d : Nat) (M : zM) (pc : Nat) (lv : zL) (st : List Value) (S : zS) : z_Sem l D d M pc lv st S (pc, lv, st, S) :=
  ⟨⟨Nat.le_refl _, Nat.le_refl _⟩, fun p e R s m args below meth c cA A ad H locs ls cells slots Q C I F hc hs k => by
    have h := k ad H locs ls (fun _ _ => rfl) I F
    simp only [Nat.sub_self, Nat.add_zero] at h
    exact h⟩
theorem z_sound (l : Launch) (D : va_G) : z_Cl (z_Sem l D) := ⟨zs_refl l D, zs_iconst l D, zs_bipush l D, zs_sipush l D, zs_lconst l D, zs_aconst l D, zs_iload_n l D, zs_iload l D, zs_lload_n l D, zs_lload l D, zs_aload_n l D, zs_aload l D, zs_aload_nN l D, zs_aloadN l D, zs_istore_n l D, zs_istore l D, zs_lstore_n l D, zs_lstore l D, zs_astore_n l D, zs_astore l D, zs_astore_nN l D, zs_astoreN l D, zs_iinc l D, zs_iadd l D, zs_isub l D, zs_imul l D, zs_iand l D, zs_ior l D, zs_ixor l D, zs_ishl l D, zs_ishr l D, zs_idiv l D, zs_irem l D, zs_ladd l D, zs_lsub l D, zs_lmul l D, zs_land l D, zs_lor l D, zs_lxor l D, zs_ineg l D, zs_iushr l D, zs_lushr l D, zs_lshl l D, zs_lshr l D, zs_i2l l D, zs_l2i l D, zs_i2b l D, zs_i2c l D, zs_dup l D, zs_pop l D, zs_dup2 l D, zs_if_eq l D, zs_icmp_eq l D, zs_if_ne l D, zs_icmp_ne l D, zs_if_lt l D, zs_icmp_lt l D, zs_if_ge l D, zs_icmp_ge l D, zs_if_gt l D, zs_icmp_gt l D, zs_if_le l D, zs_icmp_le l D, zs_goto l D, zs_ifnull l D, zs_ifnullN l D, zs_ifnonnull l D, zs_ifnonnullN l D, zs_lookup l D, zs_tableIn l D, zs_tableOut l D, zs_getf l D, zs_putf l D, zs_putF l D, zs_bald l D, zs_zald l D, zs_iald l D, zs_lald l D, zs_aald l D, zs_bast l D, zs_zast l D, zs_iast l D, zs_last l D, zs_aast l D, zs_alen l D, zs_new l D, zs_newi l D, zs_newb l D, zs_newz l D, zs_newl l D, zs_ldc l D, zs_ldcw l D, zs_ldc2 l D, zs_lcmp l D, zs_callS l D, zs_callSN l D, zs_callV l D, zs_callI l D, zs_callIN l D⟩
end
