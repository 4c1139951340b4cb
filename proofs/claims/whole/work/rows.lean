section
-- ===== PART A: goes FIRST, ahead of the names: the tables' words, and 'selects' of the private methods out of them =====
/-- a private method of a class that the tables say can be made, by its rows of tables_1 -/
def lw_okq (q : MethodName × Nat) : Prop := (q.1.cls ≠ "java/lang/invoke/MethodHandle" ∧ q.1.cls ≠ "java/lang/invoke/VarHandle") ∧ Cond.instantiable q.1.cls q.2 ∈ tables_1 ∧ Cond.privateMethod q.1 ∈ tables_1 ∧ Cond.instanceMethod q.1 ∈ tables_1
theorem lw_p0 : lw_okq (⟨"PatternLanguages", "takePattern", "()Z"⟩, 9) := ⟨⟨by decide +kernel, by decide +kernel⟩, List.mem_of_getElem? (i := 16) (by decide +kernel), List.mem_of_getElem? (i := 219) (by decide +kernel), List.mem_of_getElem? (i := 220) (by decide +kernel)⟩
theorem lw_p1 : lw_okq (⟨"PatternLanguages", "readPattern", "(LPatternLanguages$Row;)Z"⟩, 9) := ⟨⟨by decide +kernel, by decide +kernel⟩, List.mem_of_getElem? (i := 16) (by decide +kernel), List.mem_of_getElem? (i := 223) (by decide +kernel), List.mem_of_getElem? (i := 224) (by decide +kernel)⟩
theorem lw_p2 : lw_okq (⟨"PatternLanguages", "readSymbols", "(LPatternLanguages$Row;)Z"⟩, 9) := ⟨⟨by decide +kernel, by decide +kernel⟩, List.mem_of_getElem? (i := 16) (by decide +kernel), List.mem_of_getElem? (i := 227) (by decide +kernel), List.mem_of_getElem? (i := 228) (by decide +kernel)⟩
theorem lw_p3 : lw_okq (⟨"PatternLanguages", "codeOf", "(I)I"⟩, 9) := ⟨⟨by decide +kernel, by decide +kernel⟩, List.mem_of_getElem? (i := 16) (by decide +kernel), List.mem_of_getElem? (i := 235) (by decide +kernel), List.mem_of_getElem? (i := 236) (by decide +kernel)⟩
theorem lw_p4 : lw_okq (⟨"PatternLanguages", "store", "(ILPatternLanguages$Row;)I"⟩, 9) := ⟨⟨by decide +kernel, by decide +kernel⟩, List.mem_of_getElem? (i := 16) (by decide +kernel), List.mem_of_getElem? (i := 259) (by decide +kernel), List.mem_of_getElem? (i := 260) (by decide +kernel)⟩
theorem lw_p5 : lw_okq (⟨"PatternLanguages", "hasVariable", "(II)Z"⟩, 9) := ⟨⟨by decide +kernel, by decide +kernel⟩, List.mem_of_getElem? (i := 16) (by decide +kernel), List.mem_of_getElem? (i := 294) (by decide +kernel), List.mem_of_getElem? (i := 295) (by decide +kernel)⟩
theorem lw_p6 : lw_okq (⟨"PatternLanguages", "putForVariable", "(III)I"⟩, 9) := ⟨⟨by decide +kernel, by decide +kernel⟩, List.mem_of_getElem? (i := 16) (by decide +kernel), List.mem_of_getElem? (i := 323) (by decide +kernel), List.mem_of_getElem? (i := 324) (by decide +kernel)⟩
theorem lw_p7 : lw_okq (⟨"PatternLanguages", "changeAsTold", "(I)I"⟩, 9) := ⟨⟨by decide +kernel, by decide +kernel⟩, List.mem_of_getElem? (i := 16) (by decide +kernel), List.mem_of_getElem? (i := 343) (by decide +kernel), List.mem_of_getElem? (i := 344) (by decide +kernel)⟩
theorem lw_p8 : lw_okq (⟨"PatternLanguages", "inputIs", "(Ljava/lang/String;)Z"⟩, 9) := ⟨⟨by decide +kernel, by decide +kernel⟩, List.mem_of_getElem? (i := 16) (by decide +kernel), List.mem_of_getElem? (i := 348) (by decide +kernel), List.mem_of_getElem? (i := 349) (by decide +kernel)⟩
theorem lw_p9 : lw_okq (⟨"PatternLanguages", "swapLetters", "(LPatternLanguages$Row;)V"⟩, 9) := ⟨⟨by decide +kernel, by decide +kernel⟩, List.mem_of_getElem? (i := 16) (by decide +kernel), List.mem_of_getElem? (i := 405) (by decide +kernel), List.mem_of_getElem? (i := 406) (by decide +kernel)⟩
theorem lw_p10 : lw_okq (⟨"PatternLanguages", "takeWord", "()Z"⟩, 9) := ⟨⟨by decide +kernel, by decide +kernel⟩, List.mem_of_getElem? (i := 16) (by decide +kernel), List.mem_of_getElem? (i := 425) (by decide +kernel), List.mem_of_getElem? (i := 426) (by decide +kernel)⟩
theorem lw_p11 : lw_okq (⟨"PatternLanguages$Matcher", "prepare", "(LPatternLanguages$Row;I)I"⟩, 6) := ⟨⟨by decide +kernel, by decide +kernel⟩, List.mem_of_getElem? (i := 99) (by decide +kernel), List.mem_of_getElem? (i := 443) (by decide +kernel), List.mem_of_getElem? (i := 444) (by decide +kernel)⟩
theorem lw_p12 : lw_okq (⟨"PatternLanguages$Matcher", "canComeOut", "(I)Z"⟩, 6) := ⟨⟨by decide +kernel, by decide +kernel⟩, List.mem_of_getElem? (i := 99) (by decide +kernel), List.mem_of_getElem? (i := 450) (by decide +kernel), List.mem_of_getElem? (i := 451) (by decide +kernel)⟩
theorem lw_p13 : lw_okq (⟨"PatternLanguages$Matcher", "count", "(LPatternLanguages$Row;ILPatternLanguages$Row;III)I"⟩, 6) := ⟨⟨by decide +kernel, by decide +kernel⟩, List.mem_of_getElem? (i := 99) (by decide +kernel), List.mem_of_getElem? (i := 454) (by decide +kernel), List.mem_of_getElem? (i := 455) (by decide +kernel)⟩
theorem lw_p14 : lw_okq (⟨"PatternLanguages$Matcher", "countBindings", "(LPatternLanguages$Row;ILPatternLanguages$Row;III)I"⟩, 6) := ⟨⟨by decide +kernel, by decide +kernel⟩, List.mem_of_getElem? (i := 99) (by decide +kernel), List.mem_of_getElem? (i := 458) (by decide +kernel), List.mem_of_getElem? (i := 459) (by decide +kernel)⟩
theorem lw_p15 : lw_okq (⟨"PatternLanguages", "produce", "(LPatternLanguages$Row;)Z"⟩, 9) := ⟨⟨by decide +kernel, by decide +kernel⟩, List.mem_of_getElem? (i := 16) (by decide +kernel), List.mem_of_getElem? (i := 497) (by decide +kernel), List.mem_of_getElem? (i := 498) (by decide +kernel)⟩
def lw_privs_1 : List (MethodName × Nat) := [(⟨"PatternLanguages", "takePattern", "()Z"⟩, 9), (⟨"PatternLanguages", "readPattern", "(LPatternLanguages$Row;)Z"⟩, 9), (⟨"PatternLanguages", "readSymbols", "(LPatternLanguages$Row;)Z"⟩, 9), (⟨"PatternLanguages", "codeOf", "(I)I"⟩, 9), (⟨"PatternLanguages", "store", "(ILPatternLanguages$Row;)I"⟩, 9), (⟨"PatternLanguages", "hasVariable", "(II)Z"⟩, 9), (⟨"PatternLanguages", "putForVariable", "(III)I"⟩, 9), (⟨"PatternLanguages", "changeAsTold", "(I)I"⟩, 9), (⟨"PatternLanguages", "inputIs", "(Ljava/lang/String;)Z"⟩, 9), (⟨"PatternLanguages", "swapLetters", "(LPatternLanguages$Row;)V"⟩, 9), (⟨"PatternLanguages", "takeWord", "()Z"⟩, 9), (⟨"PatternLanguages$Matcher", "prepare", "(LPatternLanguages$Row;I)I"⟩, 6), (⟨"PatternLanguages$Matcher", "canComeOut", "(I)Z"⟩, 6), (⟨"PatternLanguages$Matcher", "count", "(LPatternLanguages$Row;ILPatternLanguages$Row;III)I"⟩, 6), (⟨"PatternLanguages$Matcher", "countBindings", "(LPatternLanguages$Row;ILPatternLanguages$Row;III)I"⟩, 6), (⟨"PatternLanguages", "produce", "(LPatternLanguages$Row;)Z"⟩, 9)]
theorem lw_r1 : ∀ q ∈ lw_privs_1, lw_okq q := List.forall_mem_cons.mpr ⟨lw_p0, List.forall_mem_cons.mpr ⟨lw_p1, List.forall_mem_cons.mpr ⟨lw_p2, List.forall_mem_cons.mpr ⟨lw_p3, List.forall_mem_cons.mpr ⟨lw_p4, List.forall_mem_cons.mpr ⟨lw_p5, List.forall_mem_cons.mpr ⟨lw_p6, List.forall_mem_cons.mpr ⟨lw_p7, List.forall_mem_cons.mpr ⟨lw_p8, List.forall_mem_cons.mpr ⟨lw_p9, List.forall_mem_cons.mpr ⟨lw_p10, List.forall_mem_cons.mpr ⟨lw_p11, List.forall_mem_cons.mpr ⟨lw_p12, List.forall_mem_cons.mpr ⟨lw_p13, List.forall_mem_cons.mpr ⟨lw_p14, List.forall_mem_cons.mpr ⟨lw_p15, fun _ h => absurd h List.not_mem_nil⟩⟩⟩⟩⟩⟩⟩⟩⟩⟩⟩⟩⟩⟩⟩⟩
theorem lw_p16 : lw_okq (⟨"PatternLanguages", "addToSample", "()I"⟩, 9) := ⟨⟨by decide +kernel, by decide +kernel⟩, List.mem_of_getElem? (i := 16) (by decide +kernel), List.mem_of_getElem? (i := 505) (by decide +kernel), List.mem_of_getElem? (i := 506) (by decide +kernel)⟩
theorem lw_p17 : lw_okq (⟨"PatternLanguages", "isSampleIndex", "(I)Z"⟩, 9) := ⟨⟨by decide +kernel, by decide +kernel⟩, List.mem_of_getElem? (i := 16) (by decide +kernel), List.mem_of_getElem? (i := 517) (by decide +kernel), List.mem_of_getElem? (i := 518) (by decide +kernel)⟩
theorem lw_p18 : lw_okq (⟨"PatternLanguages", "isAsGeneral", "(III)Z"⟩, 9) := ⟨⟨by decide +kernel, by decide +kernel⟩, List.mem_of_getElem? (i := 16) (by decide +kernel), List.mem_of_getElem? (i := 543) (by decide +kernel), List.mem_of_getElem? (i := 544) (by decide +kernel)⟩
theorem lw_p19 : lw_okq (⟨"PatternLanguages$Search", "complete", "(III)Z"⟩, 6) := ⟨⟨by decide +kernel, by decide +kernel⟩, List.mem_of_getElem? (i := 124) (by decide +kernel), List.mem_of_getElem? (i := 561) (by decide +kernel), List.mem_of_getElem? (i := 562) (by decide +kernel)⟩
theorem lw_p20 : lw_okq (⟨"PatternLanguages$Search", "canBegin", "(II)Z"⟩, 6) := ⟨⟨by decide +kernel, by decide +kernel⟩, List.mem_of_getElem? (i := 124) (by decide +kernel), List.mem_of_getElem? (i := 565) (by decide +kernel), List.mem_of_getElem? (i := 566) (by decide +kernel)⟩
theorem lw_p21 : lw_okq (⟨"PatternLanguages$Search", "completeWithVariable", "(III)Z"⟩, 6) := ⟨⟨by decide +kernel, by decide +kernel⟩, List.mem_of_getElem? (i := 124) (by decide +kernel), List.mem_of_getElem? (i := 572) (by decide +kernel), List.mem_of_getElem? (i := 573) (by decide +kernel)⟩
theorem lw_p22 : lw_okq (⟨"PatternLanguages$Search", "canStretch", "(II)Z"⟩, 6) := ⟨⟨by decide +kernel, by decide +kernel⟩, List.mem_of_getElem? (i := 124) (by decide +kernel), List.mem_of_getElem? (i := 585) (by decide +kernel), List.mem_of_getElem? (i := 586) (by decide +kernel)⟩
theorem lw_p23 : lw_okq (⟨"PatternLanguages", "wordsOfLength", "(I)I"⟩, 9) := ⟨⟨by decide +kernel, by decide +kernel⟩, List.mem_of_getElem? (i := 16) (by decide +kernel), List.mem_of_getElem? (i := 593) (by decide +kernel), List.mem_of_getElem? (i := 594) (by decide +kernel)⟩
theorem lw_p24 : lw_okq (⟨"PatternLanguages", "findDifference", "(LPatternLanguages$Row;LPatternLanguages$Row;II)Z"⟩, 9) := ⟨⟨by decide +kernel, by decide +kernel⟩, List.mem_of_getElem? (i := 16) (by decide +kernel), List.mem_of_getElem? (i := 606) (by decide +kernel), List.mem_of_getElem? (i := 607) (by decide +kernel)⟩
theorem lw_p25 : lw_okq (⟨"PatternLanguagesModel", "clear", "()V"⟩, 42) := ⟨⟨by decide +kernel, by decide +kernel⟩, List.mem_of_getElem? (i := 665) (by decide +kernel), List.mem_of_getElem? (i := 671) (by decide +kernel), List.mem_of_getElem? (i := 672) (by decide +kernel)⟩
theorem lw_p26 : lw_okq (⟨"PatternLanguagesModel", "takeInput", "(Z)Z"⟩, 42) := ⟨⟨by decide +kernel, by decide +kernel⟩, List.mem_of_getElem? (i := 665) (by decide +kernel), List.mem_of_getElem? (i := 826) (by decide +kernel), List.mem_of_getElem? (i := 827) (by decide +kernel)⟩
theorem lw_p27 : lw_okq (⟨"PatternLanguagesModel", "codeOf", "(I)I"⟩, 42) := ⟨⟨by decide +kernel, by decide +kernel⟩, List.mem_of_getElem? (i := 665) (by decide +kernel), List.mem_of_getElem? (i := 830) (by decide +kernel), List.mem_of_getElem? (i := 831) (by decide +kernel)⟩
theorem lw_p28 : lw_okq (⟨"PatternLanguagesModel", "store", "(I)I"⟩, 42) := ⟨⟨by decide +kernel, by decide +kernel⟩, List.mem_of_getElem? (i := 665) (by decide +kernel), List.mem_of_getElem? (i := 837) (by decide +kernel), List.mem_of_getElem? (i := 838) (by decide +kernel)⟩
theorem lw_p29 : lw_okq (⟨"PatternLanguagesModel", "normalize", "(I)V"⟩, 42) := ⟨⟨by decide +kernel, by decide +kernel⟩, List.mem_of_getElem? (i := 665) (by decide +kernel), List.mem_of_getElem? (i := 842) (by decide +kernel), List.mem_of_getElem? (i := 843) (by decide +kernel)⟩
theorem lw_p30 : lw_okq (⟨"PatternLanguagesModel", "variables", "(I)I"⟩, 42) := ⟨⟨by decide +kernel, by decide +kernel⟩, List.mem_of_getElem? (i := 665) (by decide +kernel), List.mem_of_getElem? (i := 862) (by decide +kernel), List.mem_of_getElem? (i := 863) (by decide +kernel)⟩
theorem lw_p31 : lw_okq (⟨"PatternLanguagesModel", "occurs", "(II)I"⟩, 42) := ⟨⟨by decide +kernel, by decide +kernel⟩, List.mem_of_getElem? (i := 665) (by decide +kernel), List.mem_of_getElem? (i := 876) (by decide +kernel), List.mem_of_getElem? (i := 877) (by decide +kernel)⟩
def lw_privs_2 : List (MethodName × Nat) := [(⟨"PatternLanguages", "addToSample", "()I"⟩, 9), (⟨"PatternLanguages", "isSampleIndex", "(I)Z"⟩, 9), (⟨"PatternLanguages", "isAsGeneral", "(III)Z"⟩, 9), (⟨"PatternLanguages$Search", "complete", "(III)Z"⟩, 6), (⟨"PatternLanguages$Search", "canBegin", "(II)Z"⟩, 6), (⟨"PatternLanguages$Search", "completeWithVariable", "(III)Z"⟩, 6), (⟨"PatternLanguages$Search", "canStretch", "(II)Z"⟩, 6), (⟨"PatternLanguages", "wordsOfLength", "(I)I"⟩, 9), (⟨"PatternLanguages", "findDifference", "(LPatternLanguages$Row;LPatternLanguages$Row;II)Z"⟩, 9), (⟨"PatternLanguagesModel", "clear", "()V"⟩, 42), (⟨"PatternLanguagesModel", "takeInput", "(Z)Z"⟩, 42), (⟨"PatternLanguagesModel", "codeOf", "(I)I"⟩, 42), (⟨"PatternLanguagesModel", "store", "(I)I"⟩, 42), (⟨"PatternLanguagesModel", "normalize", "(I)V"⟩, 42), (⟨"PatternLanguagesModel", "variables", "(I)I"⟩, 42), (⟨"PatternLanguagesModel", "occurs", "(II)I"⟩, 42)]
theorem lw_r2 : ∀ q ∈ lw_privs_2, lw_okq q := List.forall_mem_cons.mpr ⟨lw_p16, List.forall_mem_cons.mpr ⟨lw_p17, List.forall_mem_cons.mpr ⟨lw_p18, List.forall_mem_cons.mpr ⟨lw_p19, List.forall_mem_cons.mpr ⟨lw_p20, List.forall_mem_cons.mpr ⟨lw_p21, List.forall_mem_cons.mpr ⟨lw_p22, List.forall_mem_cons.mpr ⟨lw_p23, List.forall_mem_cons.mpr ⟨lw_p24, List.forall_mem_cons.mpr ⟨lw_p25, List.forall_mem_cons.mpr ⟨lw_p26, List.forall_mem_cons.mpr ⟨lw_p27, List.forall_mem_cons.mpr ⟨lw_p28, List.forall_mem_cons.mpr ⟨lw_p29, List.forall_mem_cons.mpr ⟨lw_p30, List.forall_mem_cons.mpr ⟨lw_p31, fun _ h => absurd h List.not_mem_nil⟩⟩⟩⟩⟩⟩⟩⟩⟩⟩⟩⟩⟩⟩⟩⟩
theorem lw_p32 : lw_okq (⟨"PatternLanguagesModel", "exchange", "(III)I"⟩, 42) := ⟨⟨by decide +kernel, by decide +kernel⟩, List.mem_of_getElem? (i := 665) (by decide +kernel), List.mem_of_getElem? (i := 894) (by decide +kernel), List.mem_of_getElem? (i := 895) (by decide +kernel)⟩
theorem lw_p33 : lw_okq (⟨"PatternLanguagesModel", "inputIs", "(Ljava/lang/String;)Z"⟩, 42) := ⟨⟨by decide +kernel, by decide +kernel⟩, List.mem_of_getElem? (i := 665) (by decide +kernel), List.mem_of_getElem? (i := 911) (by decide +kernel), List.mem_of_getElem? (i := 912) (by decide +kernel)⟩
theorem lw_p34 : lw_okq (⟨"PatternLanguagesModel", "takeWord", "(II)I"⟩, 42) := ⟨⟨by decide +kernel, by decide +kernel⟩, List.mem_of_getElem? (i := 665) (by decide +kernel), List.mem_of_getElem? (i := 925) (by decide +kernel), List.mem_of_getElem? (i := 926) (by decide +kernel)⟩
theorem lw_p35 : lw_okq (⟨"PatternLanguagesModel", "matchesOf", "(III)I"⟩, 42) := ⟨⟨by decide +kernel, by decide +kernel⟩, List.mem_of_getElem? (i := 665) (by decide +kernel), List.mem_of_getElem? (i := 932) (by decide +kernel), List.mem_of_getElem? (i := 933) (by decide +kernel)⟩
theorem lw_p36 : lw_okq (⟨"PatternLanguagesModel", "match", "([III[IIIII)I"⟩, 42) := ⟨⟨by decide +kernel, by decide +kernel⟩, List.mem_of_getElem? (i := 665) (by decide +kernel), List.mem_of_getElem? (i := 936) (by decide +kernel), List.mem_of_getElem? (i := 937) (by decide +kernel)⟩
theorem lw_p37 : lw_okq (⟨"PatternLanguagesModel", "choose", "(II)V"⟩, 42) := ⟨⟨by decide +kernel, by decide +kernel⟩, List.mem_of_getElem? (i := 665) (by decide +kernel), List.mem_of_getElem? (i := 940) (by decide +kernel), List.mem_of_getElem? (i := 941) (by decide +kernel)⟩
theorem lw_p38 : lw_okq (⟨"PatternLanguagesModel", "produces", "()Z"⟩, 42) := ⟨⟨by decide +kernel, by decide +kernel⟩, List.mem_of_getElem? (i := 665) (by decide +kernel), List.mem_of_getElem? (i := 944) (by decide +kernel), List.mem_of_getElem? (i := 945) (by decide +kernel)⟩
theorem lw_p39 : lw_okq (⟨"PatternLanguagesModel", "addToSample", "()I"⟩, 42) := ⟨⟨by decide +kernel, by decide +kernel⟩, List.mem_of_getElem? (i := 665) (by decide +kernel), List.mem_of_getElem? (i := 969) (by decide +kernel), List.mem_of_getElem? (i := 970) (by decide +kernel)⟩
theorem lw_p40 : lw_okq (⟨"PatternLanguagesModel", "isInSample", "(I)Z"⟩, 42) := ⟨⟨by decide +kernel, by decide +kernel⟩, List.mem_of_getElem? (i := 665) (by decide +kernel), List.mem_of_getElem? (i := 981) (by decide +kernel), List.mem_of_getElem? (i := 982) (by decide +kernel)⟩
theorem lw_p41 : lw_okq (⟨"PatternLanguagesModel", "misfit", "([IIII)I"⟩, 42) := ⟨⟨by decide +kernel, by decide +kernel⟩, List.mem_of_getElem? (i := 665) (by decide +kernel), List.mem_of_getElem? (i := 1002) (by decide +kernel), List.mem_of_getElem? (i := 1003) (by decide +kernel)⟩
theorem lw_p42 : lw_okq (⟨"PatternLanguagesModel", "covers", "(III)Z"⟩, 42) := ⟨⟨by decide +kernel, by decide +kernel⟩, List.mem_of_getElem? (i := 665) (by decide +kernel), List.mem_of_getElem? (i := 1010) (by decide +kernel), List.mem_of_getElem? (i := 1011) (by decide +kernel)⟩
theorem lw_p43 : lw_okq (⟨"PatternLanguagesModel", "search", "(IIIII)V"⟩, 42) := ⟨⟨by decide +kernel, by decide +kernel⟩, List.mem_of_getElem? (i := 665) (by decide +kernel), List.mem_of_getElem? (i := 1022) (by decide +kernel), List.mem_of_getElem? (i := 1023) (by decide +kernel)⟩
theorem lw_p44 : lw_okq (⟨"PatternLanguagesModel", "storeBest", "(II)V"⟩, 42) := ⟨⟨by decide +kernel, by decide +kernel⟩, List.mem_of_getElem? (i := 665) (by decide +kernel), List.mem_of_getElem? (i := 1026) (by decide +kernel), List.mem_of_getElem? (i := 1027) (by decide +kernel)⟩
theorem lw_p45 : lw_okq (⟨"PatternLanguagesModel", "firstWord", "()V"⟩, 42) := ⟨⟨by decide +kernel, by decide +kernel⟩, List.mem_of_getElem? (i := 665) (by decide +kernel), List.mem_of_getElem? (i := 1038) (by decide +kernel), List.mem_of_getElem? (i := 1039) (by decide +kernel)⟩
theorem lw_p46 : lw_okq (⟨"PatternLanguagesModel", "generates", "(III)Z"⟩, 42) := ⟨⟨by decide +kernel, by decide +kernel⟩, List.mem_of_getElem? (i := 665) (by decide +kernel), List.mem_of_getElem? (i := 1042) (by decide +kernel), List.mem_of_getElem? (i := 1043) (by decide +kernel)⟩
theorem lw_p47 : lw_okq (⟨"PatternLanguagesModel", "nextWord", "(I)Z"⟩, 42) := ⟨⟨by decide +kernel, by decide +kernel⟩, List.mem_of_getElem? (i := 665) (by decide +kernel), List.mem_of_getElem? (i := 1046) (by decide +kernel), List.mem_of_getElem? (i := 1047) (by decide +kernel)⟩
def lw_privs_3 : List (MethodName × Nat) := [(⟨"PatternLanguagesModel", "exchange", "(III)I"⟩, 42), (⟨"PatternLanguagesModel", "inputIs", "(Ljava/lang/String;)Z"⟩, 42), (⟨"PatternLanguagesModel", "takeWord", "(II)I"⟩, 42), (⟨"PatternLanguagesModel", "matchesOf", "(III)I"⟩, 42), (⟨"PatternLanguagesModel", "match", "([III[IIIII)I"⟩, 42), (⟨"PatternLanguagesModel", "choose", "(II)V"⟩, 42), (⟨"PatternLanguagesModel", "produces", "()Z"⟩, 42), (⟨"PatternLanguagesModel", "addToSample", "()I"⟩, 42), (⟨"PatternLanguagesModel", "isInSample", "(I)Z"⟩, 42), (⟨"PatternLanguagesModel", "misfit", "([IIII)I"⟩, 42), (⟨"PatternLanguagesModel", "covers", "(III)Z"⟩, 42), (⟨"PatternLanguagesModel", "search", "(IIIII)V"⟩, 42), (⟨"PatternLanguagesModel", "storeBest", "(II)V"⟩, 42), (⟨"PatternLanguagesModel", "firstWord", "()V"⟩, 42), (⟨"PatternLanguagesModel", "generates", "(III)Z"⟩, 42), (⟨"PatternLanguagesModel", "nextWord", "(I)Z"⟩, 42)]
theorem lw_r3 : ∀ q ∈ lw_privs_3, lw_okq q := List.forall_mem_cons.mpr ⟨lw_p32, List.forall_mem_cons.mpr ⟨lw_p33, List.forall_mem_cons.mpr ⟨lw_p34, List.forall_mem_cons.mpr ⟨lw_p35, List.forall_mem_cons.mpr ⟨lw_p36, List.forall_mem_cons.mpr ⟨lw_p37, List.forall_mem_cons.mpr ⟨lw_p38, List.forall_mem_cons.mpr ⟨lw_p39, List.forall_mem_cons.mpr ⟨lw_p40, List.forall_mem_cons.mpr ⟨lw_p41, List.forall_mem_cons.mpr ⟨lw_p42, List.forall_mem_cons.mpr ⟨lw_p43, List.forall_mem_cons.mpr ⟨lw_p44, List.forall_mem_cons.mpr ⟨lw_p45, List.forall_mem_cons.mpr ⟨lw_p46, List.forall_mem_cons.mpr ⟨lw_p47, fun _ h => absurd h List.not_mem_nil⟩⟩⟩⟩⟩⟩⟩⟩⟩⟩⟩⟩⟩⟩⟩⟩
theorem lw_p48 : lw_okq (⟨"PatternLanguagesModel", "carryAll", "(Z)V"⟩, 42) := ⟨⟨by decide +kernel, by decide +kernel⟩, List.mem_of_getElem? (i := 665) (by decide +kernel), List.mem_of_getElem? (i := 1088) (by decide +kernel), List.mem_of_getElem? (i := 1089) (by decide +kernel)⟩
def lw_privs_4 : List (MethodName × Nat) := [(⟨"PatternLanguagesModel", "carryAll", "(Z)V"⟩, 42)]
theorem lw_r4 : ∀ q ∈ lw_privs_4, lw_okq q := List.forall_mem_cons.mpr ⟨lw_p48, fun _ h => absurd h List.not_mem_nil⟩
def lw_privs : List (MethodName × Nat) := lw_privs_1 ++ (lw_privs_2 ++ (lw_privs_3 ++ (lw_privs_4)))
def lw_tbl : List Cond := k2_sels lw_privs ++ tables_1
theorem lw_privs_ok : ∀ q ∈ lw_privs, lw_okq q := by
  show ∀ q ∈ lw_privs_1 ++ (lw_privs_2 ++ (lw_privs_3 ++ (lw_privs_4))), lw_okq q
  exact List.forall_mem_append.mpr ⟨lw_r1, List.forall_mem_append.mpr ⟨lw_r2, List.forall_mem_append.mpr ⟨lw_r3, lw_r4⟩⟩⟩
end
section
def RX0 : String := "PatternLanguages$Bench"
def TX0 : u_T := fun k => match k with
  | 0 => ("PatternLanguages$Bench", "letters", "I", false)
  | 1 => ("PatternLanguages$Bench", "registers", "[LPatternLanguages$Row;", true)
  | 2 => ("PatternLanguages$Bench", "images", "[LPatternLanguages$Row;", true)
  | 3 => ("PatternLanguages$Bench", "sample", "[LPatternLanguages$Row;", true)
  | _ => ("PatternLanguages$Bench", "sampleSize", "I", false)
def tyX0 : Nat → FieldType := fun k => match k with
  | 0 => .int
  | 1 => .array (.object "PatternLanguages$Row")
  | 2 => .array (.object "PatternLanguages$Row")
  | 3 => .array (.object "PatternLanguages$Row")
  | _ => .int
abbrev wsX00 : List Cond := u_ws RX0 TX0 5
theorem nmX0 : ∀ a, a < 5 → ∀ b, b < 5 → a ≠ b → (TX0 a).2.1 ≠ (TX0 b).2.1 := by decide +kernel
theorem tyX0_ok : ∀ k, k < 5 → parseFieldDescriptor (TX0 k).2.2.1 = some (tyX0 k) := by decide +kernel
abbrev cX0_init : ByteArray := prog_2_method_1_code
def yX0_init : MethodName := ⟨RX0, "<init>", "()V"⟩
abbrev cX0_makeRows : ByteArray := prog_2_method_2_code
def yX0_makeRows : MethodName := ⟨RX0, "makeRows", "([LPatternLanguages$Row;)V"⟩
abbrev cX0_begin : ByteArray := prog_2_method_3_code
def yX0_begin : MethodName := ⟨RX0, "begin", "(I)V"⟩
abbrev cX0_setTo : ByteArray := prog_2_method_4_code
def yX0_setTo : MethodName := ⟨RX0, "setTo", "(LPatternLanguages$Bench;)V"⟩
abbrev cX0_copyRows : ByteArray := prog_2_method_5_code
def yX0_copyRows : MethodName := ⟨RX0, "copyRows", "([LPatternLanguages$Row;[LPatternLanguages$Row;)V"⟩
def RX1 : String := "PatternLanguages$Matcher"
def TX1 : u_T := fun k => match k with
  | 0 => ("PatternLanguages$Matcher", "starts", "[I", true)
  | 1 => ("PatternLanguages$Matcher", "sizes", "[I", true)
  | 2 => ("PatternLanguages$Matcher", "uses", "[I", true)
  | 3 => ("PatternLanguages$Matcher", "variables", "I", false)
  | 4 => ("PatternLanguages$Matcher", "leastSize", "I", false)
  | _ => ("PatternLanguages$Matcher", "spare", "I", false)
def tyX1 : Nat → FieldType := fun k => match k with
  | 0 => .array .int
  | 1 => .array .int
  | 2 => .array .int
  | 3 => .int
  | 4 => .int
  | _ => .int
abbrev wsX10 : List Cond := u_ws RX1 TX1 6
theorem nmX1 : ∀ a, a < 6 → ∀ b, b < 6 → a ≠ b → (TX1 a).2.1 ≠ (TX1 b).2.1 := by decide +kernel
theorem tyX1_ok : ∀ k, k < 6 → parseFieldDescriptor (TX1 k).2.2.1 = some (tyX1 k) := by decide +kernel
abbrev cX1_init : ByteArray := prog_3_method_1_code
def yX1_init : MethodName := ⟨RX1, "<init>", "()V"⟩
abbrev cX1_isMatch : ByteArray := prog_3_method_2_code
def yX1_isMatch : MethodName := ⟨RX1, "isMatch", "(LPatternLanguages$Row;LPatternLanguages$Row;I)Z"⟩
abbrev cX1_isMatchBefore : ByteArray := prog_3_method_3_code
def yX1_isMatchBefore : MethodName := ⟨RX1, "isMatchBefore", "(LPatternLanguages$Row;LPatternLanguages$Row;III)Z"⟩
abbrev cX1_countAll : ByteArray := prog_3_method_4_code
def yX1_countAll : MethodName := ⟨RX1, "countAll", "(LPatternLanguages$Row;LPatternLanguages$Row;I)I"⟩
abbrev cX1_writeImage : ByteArray := prog_3_method_5_code
def yX1_writeImage : MethodName := ⟨RX1, "writeImage", "(ILPatternLanguages$Row;LPatternLanguages$Row;)V"⟩
abbrev cX1_prepare : ByteArray := prog_3_method_6_code
def yX1_prepare : MethodName := ⟨RX1, "prepare", "(LPatternLanguages$Row;I)I"⟩
abbrev cX1_canComeOut : ByteArray := prog_3_method_7_code
def yX1_canComeOut : MethodName := ⟨RX1, "canComeOut", "(I)Z"⟩
abbrev cX1_count : ByteArray := prog_3_method_8_code
def yX1_count : MethodName := ⟨RX1, "count", "(LPatternLanguages$Row;ILPatternLanguages$Row;III)I"⟩
abbrev cX1_countBindings : ByteArray := prog_3_method_9_code
def yX1_countBindings : MethodName := ⟨RX1, "countBindings", "(LPatternLanguages$Row;ILPatternLanguages$Row;III)I"⟩
abbrev cX1_isSame : ByteArray := prog_3_method_10_code
def yX1_isSame : MethodName := ⟨RX1, "isSame", "(LPatternLanguages$Row;III)Z"⟩
def RX2 : String := "PatternLanguages$Row"
def TX2 : u_T := fun k => match k with
  | 0 => ("PatternLanguages$Row", "items", "[I", true)
  | _ => ("PatternLanguages$Row", "size", "I", false)
def tyX2 : Nat → FieldType := fun k => match k with
  | 0 => .array .int
  | _ => .int
abbrev wsX20 : List Cond := u_ws RX2 TX2 2
theorem nmX2 : ∀ a, a < 2 → ∀ b, b < 2 → a ≠ b → (TX2 a).2.1 ≠ (TX2 b).2.1 := by decide +kernel
theorem tyX2_ok : ∀ k, k < 2 → parseFieldDescriptor (TX2 k).2.2.1 = some (tyX2 k) := by decide +kernel
abbrev cX2_init : ByteArray := prog_4_method_1_code
def yX2_init : MethodName := ⟨RX2, "<init>", "(I)V"⟩
abbrev cX2_hasIndex : ByteArray := prog_4_method_2_code
def yX2_hasIndex : MethodName := ⟨RX2, "hasIndex", "(I)Z"⟩
abbrev cX2_hasRange : ByteArray := prog_4_method_3_code
def yX2_hasRange : MethodName := ⟨RX2, "hasRange", "(II)Z"⟩
abbrev cX2_at : ByteArray := prog_4_method_4_code
def yX2_at : MethodName := ⟨RX2, "at", "(I)I"⟩
abbrev cX2_put : ByteArray := prog_4_method_5_code
def yX2_put : MethodName := ⟨RX2, "put", "(II)V"⟩
abbrev cX2_add : ByteArray := prog_4_method_6_code
def yX2_add : MethodName := ⟨RX2, "add", "(I)Z"⟩
abbrev cX2_addAll : ByteArray := prog_4_method_7_code
def yX2_addAll : MethodName := ⟨RX2, "addAll", "(LPatternLanguages$Row;)Z"⟩
abbrev cX2_removeLast : ByteArray := prog_4_method_8_code
def yX2_removeLast : MethodName := ⟨RX2, "removeLast", "()V"⟩
abbrev cX2_clear : ByteArray := prog_4_method_9_code
def yX2_clear : MethodName := ⟨RX2, "clear", "()V"⟩
abbrev cX2_setTo : ByteArray := prog_4_method_10_code
def yX2_setTo : MethodName := ⟨RX2, "setTo", "(LPatternLanguages$Row;)V"⟩
abbrev cX2_fillWith : ByteArray := prog_4_method_11_code
def yX2_fillWith : MethodName := ⟨RX2, "fillWith", "(II)V"⟩
abbrev cX2_countOf : ByteArray := prog_4_method_12_code
def yX2_countOf : MethodName := ⟨RX2, "countOf", "(I)I"⟩
abbrev cX2_letterCount : ByteArray := prog_4_method_13_code
def yX2_letterCount : MethodName := ⟨RX2, "letterCount", "()I"⟩
abbrev cX2_variablesIn : ByteArray := prog_4_method_14_code
def yX2_variablesIn : MethodName := ⟨RX2, "variablesIn", "()I"⟩
abbrev cX2_putForCodes : ByteArray := prog_4_method_15_code
def yX2_putForCodes : MethodName := ⟨RX2, "putForCodes", "(III)V"⟩
abbrev cX2_exchange : ByteArray := prog_4_method_16_code
def yX2_exchange : MethodName := ⟨RX2, "exchange", "(II)V"⟩
abbrev cX2_turnAround : ByteArray := prog_4_method_17_code
def yX2_turnAround : MethodName := ⟨RX2, "turnAround", "()V"⟩
abbrev cX2_makeCanonical : ByteArray := prog_4_method_18_code
def yX2_makeCanonical : MethodName := ⟨RX2, "makeCanonical", "()V"⟩
abbrev cX2_wordCode : ByteArray := prog_4_method_19_code
def yX2_wordCode : MethodName := ⟨RX2, "wordCode", "()J"⟩
abbrev cX2_advance : ByteArray := prog_4_method_20_code
def yX2_advance : MethodName := ⟨RX2, "advance", "(I)V"⟩
def RX3 : String := "PatternLanguages$Search"
def TX3 : u_T := fun k => match k with
  | 0 => ("PatternLanguages$Search", "bench", "LPatternLanguages$Bench;", true)
  | 1 => ("PatternLanguages$Search", "matcher", "LPatternLanguages$Matcher;", true)
  | 2 => ("PatternLanguages$Search", "candidate", "LPatternLanguages$Row;", true)
  | 3 => ("PatternLanguages$Search", "length", "I", false)
  | 4 => ("PatternLanguages$Search", "variables", "I", false)
  | _ => ("PatternLanguages$Search", "mode", "I", false)
def tyX3 : Nat → FieldType := fun k => match k with
  | 0 => .object "PatternLanguages$Bench"
  | 1 => .object "PatternLanguages$Matcher"
  | 2 => .object "PatternLanguages$Row"
  | 3 => .int
  | 4 => .int
  | _ => .int
abbrev wsX30 : List Cond := u_ws RX3 TX3 6
theorem nmX3 : ∀ a, a < 6 → ∀ b, b < 6 → a ≠ b → (TX3 a).2.1 ≠ (TX3 b).2.1 := by decide +kernel
theorem tyX3_ok : ∀ k, k < 6 → parseFieldDescriptor (TX3 k).2.2.1 = some (tyX3 k) := by decide +kernel
abbrev cX3_init : ByteArray := prog_5_method_1_code
def yX3_init : MethodName := ⟨RX3, "<init>", "(LPatternLanguages$Bench;LPatternLanguages$Matcher;)V"⟩
abbrev cX3_findBest : ByteArray := prog_5_method_2_code
def yX3_findBest : MethodName := ⟨RX3, "findBest", "(II)Z"⟩
abbrev cX3_findLongestOfX : ByteArray := prog_5_method_3_code
def yX3_findLongestOfX : MethodName := ⟨RX3, "findLongestOfX", "()Z"⟩
abbrev cX3_canStretch : ByteArray := prog_5_method_4_code
def yX3_canStretch : MethodName := ⟨RX3, "canStretch", "(II)Z"⟩
abbrev cX3_complete : ByteArray := prog_5_method_5_code
def yX3_complete : MethodName := ⟨RX3, "complete", "(III)Z"⟩
abbrev cX3_completeWithVariable : ByteArray := prog_5_method_6_code
def yX3_completeWithVariable : MethodName := ⟨RX3, "completeWithVariable", "(III)Z"⟩
abbrev cX3_canBegin : ByteArray := prog_5_method_7_code
def yX3_canBegin : MethodName := ⟨RX3, "canBegin", "(II)Z"⟩
def RX4 : String := "PatternLanguages$Slot"
def TX4 : u_T := fun k => match k with
  | 0 => ("PatternLanguages$Slot", "type", "I", false)
  | _ => ("PatternLanguages$Slot", "elements", "LPatternLanguages$Row;", true)
def tyX4 : Nat → FieldType := fun k => match k with
  | 0 => .int
  | _ => .object "PatternLanguages$Row"
abbrev wsX40 : List Cond := u_ws RX4 TX4 2
theorem nmX4 : ∀ a, a < 2 → ∀ b, b < 2 → a ≠ b → (TX4 a).2.1 ≠ (TX4 b).2.1 := by decide +kernel
theorem tyX4_ok : ∀ k, k < 2 → parseFieldDescriptor (TX4 k).2.2.1 = some (tyX4 k) := by decide +kernel
abbrev cX4_init : ByteArray := prog_6_method_1_code
def yX4_init : MethodName := ⟨RX4, "<init>", "()V"⟩
def RX5 : String := "PatternLanguages"
def TX5 : u_T := fun k => match k with
  | 0 => ("PatternLanguages", "bench", "LPatternLanguages$Bench;", true)
  | 1 => ("PatternLanguages", "saved", "LPatternLanguages$Bench;", true)
  | 2 => ("PatternLanguages", "hasSnapshot", "Z", false)
  | 3 => ("PatternLanguages", "input", "LPatternLanguages$Row;", true)
  | 4 => ("PatternLanguages", "slots", "[LPatternLanguages$Slot;", true)
  | 5 => ("PatternLanguages", "matcher", "LPatternLanguages$Matcher;", true)
  | 6 => ("PatternLanguages", "search", "LPatternLanguages$Search;", true)
  | 7 => ("PatternLanguages", "draft", "LPatternLanguages$Row;", true)
  | _ => ("PatternLanguages", "probe", "LPatternLanguages$Row;", true)
def tyX5 : Nat → FieldType := fun k => match k with
  | 0 => .object "PatternLanguages$Bench"
  | 1 => .object "PatternLanguages$Bench"
  | 2 => .boolean
  | 3 => .object "PatternLanguages$Row"
  | 4 => .array (.object "PatternLanguages$Slot")
  | 5 => .object "PatternLanguages$Matcher"
  | 6 => .object "PatternLanguages$Search"
  | 7 => .object "PatternLanguages$Row"
  | _ => .object "PatternLanguages$Row"
abbrev wsX50 : List Cond := u_ws RX5 TX5 9
theorem nmX5 : ∀ a, a < 9 → ∀ b, b < 9 → a ≠ b → (TX5 a).2.1 ≠ (TX5 b).2.1 := by decide +kernel
theorem tyX5_ok : ∀ k, k < 9 → parseFieldDescriptor (TX5 k).2.2.1 = some (tyX5 k) := by decide +kernel
abbrev cX5_init : ByteArray := prog_1_method_1_code
def yX5_init : MethodName := ⟨RX5, "<init>", "()V"⟩
abbrev cX5_reset : ByteArray := prog_1_method_2_code
def yX5_reset : MethodName := ⟨RX5, "reset", "(I)I"⟩
abbrev cX5_letters : ByteArray := prog_1_method_3_code
def yX5_letters : MethodName := ⟨RX5, "letters", "()I"⟩
abbrev cX5_append : ByteArray := prog_1_method_4_code
def yX5_append : MethodName := ⟨RX5, "append", "(II)I"⟩
abbrev cX5_clearInput : ByteArray := prog_1_method_5_code
def yX5_clearInput : MethodName := ⟨RX5, "clearInput", "()I"⟩
abbrev cX5_takePattern : ByteArray := prog_1_method_6_code
def yX5_takePattern : MethodName := ⟨RX5, "takePattern", "()Z"⟩
abbrev cX5_takeWord : ByteArray := prog_1_method_7_code
def yX5_takeWord : MethodName := ⟨RX5, "takeWord", "()Z"⟩
abbrev cX5_readPattern : ByteArray := prog_1_method_8_code
def yX5_readPattern : MethodName := ⟨RX5, "readPattern", "(LPatternLanguages$Row;)Z"⟩
abbrev cX5_readSymbols : ByteArray := prog_1_method_9_code
def yX5_readSymbols : MethodName := ⟨RX5, "readSymbols", "(LPatternLanguages$Row;)Z"⟩
abbrev cX5_codeOf : ByteArray := prog_1_method_10_code
def yX5_codeOf : MethodName := ⟨RX5, "codeOf", "(I)I"⟩
abbrev cX5_inputIs : ByteArray := prog_1_method_11_code
def yX5_inputIs : MethodName := ⟨RX5, "inputIs", "(Ljava/lang/String;)Z"⟩
abbrev cX5_setPattern : ByteArray := prog_1_method_12_code
def yX5_setPattern : MethodName := ⟨RX5, "setPattern", "(I)I"⟩
abbrev cX5_copy : ByteArray := prog_1_method_13_code
def yX5_copy : MethodName := ⟨RX5, "copy", "(II)I"⟩
abbrev cX5_length : ByteArray := prog_1_method_14_code
def yX5_length : MethodName := ⟨RX5, "length", "(I)I"⟩
abbrev cX5_symbol : ByteArray := prog_1_method_15_code
def yX5_symbol : MethodName := ⟨RX5, "symbol", "(II)I"⟩
abbrev cX5_variableCount : ByteArray := prog_1_method_16_code
def yX5_variableCount : MethodName := ⟨RX5, "variableCount", "(I)I"⟩
abbrev cX5_occurrences : ByteArray := prog_1_method_17_code
def yX5_occurrences : MethodName := ⟨RX5, "occurrences", "(II)I"⟩
abbrev cX5_compareQuality : ByteArray := prog_1_method_18_code
def yX5_compareQuality : MethodName := ⟨RX5, "compareQuality", "(II)I"⟩
abbrev cX5_advantage : ByteArray := prog_1_method_19_code
def yX5_advantage : MethodName := ⟨RX5, "advantage", "(LPatternLanguages$Row;LPatternLanguages$Row;)I"⟩
abbrev cX5_store : ByteArray := prog_1_method_20_code
def yX5_store : MethodName := ⟨RX5, "store", "(ILPatternLanguages$Row;)I"⟩
abbrev cX5_isRegister : ByteArray := prog_1_method_21_code
def yX5_isRegister : MethodName := ⟨RX5, "isRegister", "(I)Z"⟩
abbrev cX5_isVariable : ByteArray := prog_1_method_22_code
def yX5_isVariable : MethodName := ⟨RX5, "isVariable", "(I)Z"⟩
abbrev cX5_isMode : ByteArray := prog_1_method_23_code
def yX5_isMode : MethodName := ⟨RX5, "isMode", "(I)Z"⟩
abbrev cX5_hasVariable : ByteArray := prog_1_method_24_code
def yX5_hasVariable : MethodName := ⟨RX5, "hasVariable", "(II)Z"⟩
abbrev cX5_replace : ByteArray := prog_1_method_25_code
def yX5_replace : MethodName := ⟨RX5, "replace", "(III)I"⟩
abbrev cX5_merge : ByteArray := prog_1_method_26_code
def yX5_merge : MethodName := ⟨RX5, "merge", "(III)I"⟩
abbrev cX5_putForVariable : ByteArray := prog_1_method_27_code
def yX5_putForVariable : MethodName := ⟨RX5, "putForVariable", "(III)I"⟩
abbrev cX5_split : ByteArray := prog_1_method_28_code
def yX5_split : MethodName := ⟨RX5, "split", "(II)I"⟩
abbrev cX5_transform : ByteArray := prog_1_method_29_code
def yX5_transform : MethodName := ⟨RX5, "transform", "(I)I"⟩
abbrev cX5_changeAsTold : ByteArray := prog_1_method_30_code
def yX5_changeAsTold : MethodName := ⟨RX5, "changeAsTold", "(I)I"⟩
abbrev cX5_swapLetters : ByteArray := prog_1_method_31_code
def yX5_swapLetters : MethodName := ⟨RX5, "swapLetters", "(LPatternLanguages$Row;)V"⟩
abbrev cX5_dropLast : ByteArray := prog_1_method_32_code
def yX5_dropLast : MethodName := ⟨RX5, "dropLast", "(LPatternLanguages$Row;)V"⟩
abbrev cX5_matches : ByteArray := prog_1_method_33_code
def yX5_matches : MethodName := ⟨RX5, "matches", "(II)I"⟩
abbrev cX5_matchCount : ByteArray := prog_1_method_34_code
def yX5_matchCount : MethodName := ⟨RX5, "matchCount", "(II)I"⟩
abbrev cX5_match : ByteArray := prog_1_method_35_code
def yX5_match : MethodName := ⟨RX5, "match", "(II)I"⟩
abbrev cX5_refusalOfMatching : ByteArray := prog_1_method_36_code
def yX5_refusalOfMatching : MethodName := ⟨RX5, "refusalOfMatching", "(IIZ)I"⟩
abbrev cX5_setImage : ByteArray := prog_1_method_37_code
def yX5_setImage : MethodName := ⟨RX5, "setImage", "(I)I"⟩
abbrev cX5_imageLetter : ByteArray := prog_1_method_38_code
def yX5_imageLetter : MethodName := ⟨RX5, "imageLetter", "(II)I"⟩
abbrev cX5_addProduced : ByteArray := prog_1_method_39_code
def yX5_addProduced : MethodName := ⟨RX5, "addProduced", "(I)I"⟩
abbrev cX5_produce : ByteArray := prog_1_method_40_code
def yX5_produce : MethodName := ⟨RX5, "produce", "(LPatternLanguages$Row;)Z"⟩
abbrev cX5_addWord : ByteArray := prog_1_method_41_code
def yX5_addWord : MethodName := ⟨RX5, "addWord", "()I"⟩
abbrev cX5_addToSample : ByteArray := prog_1_method_42_code
def yX5_addToSample : MethodName := ⟨RX5, "addToSample", "()I"⟩
abbrev cX5_removeWord : ByteArray := prog_1_method_43_code
def yX5_removeWord : MethodName := ⟨RX5, "removeWord", "(I)I"⟩
abbrev cX5_sampleSize : ByteArray := prog_1_method_44_code
def yX5_sampleSize : MethodName := ⟨RX5, "sampleSize", "()I"⟩
abbrev cX5_sampleCode : ByteArray := prog_1_method_45_code
def yX5_sampleCode : MethodName := ⟨RX5, "sampleCode", "(I)J"⟩
abbrev cX5_firstMisfit : ByteArray := prog_1_method_46_code
def yX5_firstMisfit : MethodName := ⟨RX5, "firstMisfit", "(II)I"⟩
abbrev cX5_isSampleIndex : ByteArray := prog_1_method_47_code
def yX5_isSampleIndex : MethodName := ⟨RX5, "isSampleIndex", "(I)Z"⟩
abbrev cX5_isMoreGeneral : ByteArray := prog_1_method_48_code
def yX5_isMoreGeneral : MethodName := ⟨RX5, "isMoreGeneral", "(III)I"⟩
abbrev cX5_chainBreak : ByteArray := prog_1_method_49_code
def yX5_chainBreak : MethodName := ⟨RX5, "chainBreak", "(III)I"⟩
abbrev cX5_isAsGeneral : ByteArray := prog_1_method_50_code
def yX5_isAsGeneral : MethodName := ⟨RX5, "isAsGeneral", "(III)Z"⟩
abbrev cX5_findPattern : ByteArray := prog_1_method_51_code
def yX5_findPattern : MethodName := ⟨RX5, "findPattern", "(III)I"⟩
abbrev cX5_findOneVariable : ByteArray := prog_1_method_52_code
def yX5_findOneVariable : MethodName := ⟨RX5, "findOneVariable", "(I)I"⟩
abbrev cX5_countWords : ByteArray := prog_1_method_53_code
def yX5_countWords : MethodName := ⟨RX5, "countWords", "(III)I"⟩
abbrev cX5_difference : ByteArray := prog_1_method_54_code
def yX5_difference : MethodName := ⟨RX5, "difference", "(IIII)J"⟩
abbrev cX5_findDifference : ByteArray := prog_1_method_55_code
def yX5_findDifference : MethodName := ⟨RX5, "findDifference", "(LPatternLanguages$Row;LPatternLanguages$Row;II)Z"⟩
abbrev cX5_wordsOfLength : ByteArray := prog_1_method_56_code
def yX5_wordsOfLength : MethodName := ⟨RX5, "wordsOfLength", "(I)I"⟩
abbrev cX5_allocate : ByteArray := prog_1_method_57_code
def yX5_allocate : MethodName := ⟨RX5, "allocate", "(III)I"⟩
abbrev cX5_release : ByteArray := prog_1_method_58_code
def yX5_release : MethodName := ⟨RX5, "release", "(I)I"⟩
abbrev cX5_putElement : ByteArray := prog_1_method_59_code
def yX5_putElement : MethodName := ⟨RX5, "putElement", "(IIJ)I"⟩
abbrev cX5_narrowed : ByteArray := prog_1_method_60_code
def yX5_narrowed : MethodName := ⟨RX5, "narrowed", "(JI)I"⟩
abbrev cX5_element : ByteArray := prog_1_method_61_code
def yX5_element : MethodName := ⟨RX5, "element", "(II)J"⟩
abbrev cX5_copyElements : ByteArray := prog_1_method_62_code
def yX5_copyElements : MethodName := ⟨RX5, "copyElements", "(IIIII)I"⟩
abbrev cX5_loadPattern : ByteArray := prog_1_method_63_code
def yX5_loadPattern : MethodName := ⟨RX5, "loadPattern", "(II)I"⟩
abbrev cX5_isSlot : ByteArray := prog_1_method_64_code
def yX5_isSlot : MethodName := ⟨RX5, "isSlot", "(I)Z"⟩
abbrev cX5_snapshot : ByteArray := prog_1_method_65_code
def yX5_snapshot : MethodName := ⟨RX5, "snapshot", "()I"⟩
abbrev cX5_restore : ByteArray := prog_1_method_66_code
def yX5_restore : MethodName := ⟨RX5, "restore", "()I"⟩
def RX6 : String := "PatternLanguagesModel"
def TX6 : u_T := fun k => match k with
  | 0 => ("PatternLanguagesModel", "letters", "I", false)
  | 1 => ("PatternLanguagesModel", "patterns", "[I", true)
  | 2 => ("PatternLanguagesModel", "lengths", "[I", true)
  | 3 => ("PatternLanguagesModel", "sample", "[I", true)
  | 4 => ("PatternLanguagesModel", "sampleLengths", "[I", true)
  | 5 => ("PatternLanguagesModel", "words", "I", false)
  | 6 => ("PatternLanguagesModel", "images", "[I", true)
  | 7 => ("PatternLanguagesModel", "imageLengths", "[I", true)
  | 8 => ("PatternLanguagesModel", "input", "[I", true)
  | 9 => ("PatternLanguagesModel", "inputLength", "I", false)
  | 10 => ("PatternLanguagesModel", "read", "[I", true)
  | 11 => ("PatternLanguagesModel", "readLength", "I", false)
  | 12 => ("PatternLanguagesModel", "renamed", "[I", true)
  | 13 => ("PatternLanguagesModel", "pattern", "[I", false)
  | 14 => ("PatternLanguagesModel", "patternFrom", "I", false)
  | 15 => ("PatternLanguagesModel", "patternLength", "I", false)
  | 16 => ("PatternLanguagesModel", "target", "[I", false)
  | 17 => ("PatternLanguagesModel", "targetFrom", "I", false)
  | 18 => ("PatternLanguagesModel", "occurs", "[I", true)
  | 19 => ("PatternLanguagesModel", "wordLengths", "[I", true)
  | 20 => ("PatternLanguagesModel", "firstLengths", "[I", true)
  | 21 => ("PatternLanguagesModel", "least", "I", false)
  | 22 => ("PatternLanguagesModel", "most", "I", false)
  | 23 => ("PatternLanguagesModel", "found", "I", false)
  | 24 => ("PatternLanguagesModel", "startOf", "[I", true)
  | 25 => ("PatternLanguagesModel", "trying", "[I", true)
  | 26 => ("PatternLanguagesModel", "best", "[I", true)
  | 27 => ("PatternLanguagesModel", "hasBest", "Z", false)
  | 28 => ("PatternLanguagesModel", "word", "[I", true)
  | 29 => ("PatternLanguagesModel", "types", "[I", true)
  | 30 => ("PatternLanguagesModel", "sizes", "[I", true)
  | 31 => ("PatternLanguagesModel", "elements", "[J", true)
  | 32 => ("PatternLanguagesModel", "carried", "[J", true)
  | 33 => ("PatternLanguagesModel", "hasSnapshot", "Z", false)
  | 34 => ("PatternLanguagesModel", "savedLetters", "I", false)
  | 35 => ("PatternLanguagesModel", "savedWords", "I", false)
  | 36 => ("PatternLanguagesModel", "savedPatterns", "[I", true)
  | 37 => ("PatternLanguagesModel", "savedLengths", "[I", true)
  | 38 => ("PatternLanguagesModel", "savedSample", "[I", true)
  | 39 => ("PatternLanguagesModel", "savedSampleLengths", "[I", true)
  | 40 => ("PatternLanguagesModel", "savedImages", "[I", true)
  | _ => ("PatternLanguagesModel", "savedImageLengths", "[I", true)
def tyX6 : Nat → FieldType := fun k => match k with
  | 0 => .int
  | 1 => .array .int
  | 2 => .array .int
  | 3 => .array .int
  | 4 => .array .int
  | 5 => .int
  | 6 => .array .int
  | 7 => .array .int
  | 8 => .array .int
  | 9 => .int
  | 10 => .array .int
  | 11 => .int
  | 12 => .array .int
  | 13 => .array .int
  | 14 => .int
  | 15 => .int
  | 16 => .array .int
  | 17 => .int
  | 18 => .array .int
  | 19 => .array .int
  | 20 => .array .int
  | 21 => .int
  | 22 => .int
  | 23 => .int
  | 24 => .array .int
  | 25 => .array .int
  | 26 => .array .int
  | 27 => .boolean
  | 28 => .array .int
  | 29 => .array .int
  | 30 => .array .int
  | 31 => .array .long
  | 32 => .array .long
  | 33 => .boolean
  | 34 => .int
  | 35 => .int
  | 36 => .array .int
  | 37 => .array .int
  | 38 => .array .int
  | 39 => .array .int
  | 40 => .array .int
  | _ => .array .int
abbrev wsX60 : List Cond := u_ws RX6 TX6 42
theorem nmX6 : ∀ a, a < 42 → ∀ b, b < 42 → a ≠ b → (TX6 a).2.1 ≠ (TX6 b).2.1 := by decide +kernel
theorem tyX6_ok : ∀ k, k < 42 → parseFieldDescriptor (TX6 k).2.2.1 = some (tyX6 k) := by decide +kernel
abbrev cX6_init : ByteArray := prog_8_method_1_code
def yX6_init : MethodName := ⟨RX6, "<init>", "()V"⟩
abbrev cX6_clear : ByteArray := prog_8_method_2_code
def yX6_clear : MethodName := ⟨RX6, "clear", "()V"⟩
abbrev cX6_in : ByteArray := prog_8_method_3_code
def yX6_in : MethodName := ⟨RX6, "in", "(III)Z"⟩
abbrev cX6_isRegister : ByteArray := prog_8_method_4_code
def yX6_isRegister : MethodName := ⟨RX6, "isRegister", "(I)Z"⟩
abbrev cX6_isMode : ByteArray := prog_8_method_5_code
def yX6_isMode : MethodName := ⟨RX6, "isMode", "(I)Z"⟩
abbrev cX6_reset : ByteArray := prog_8_method_6_code
def yX6_reset : MethodName := ⟨RX6, "reset", "(I)I"⟩
abbrev cX6_letters : ByteArray := prog_8_method_7_code
def yX6_letters : MethodName := ⟨RX6, "letters", "()I"⟩
abbrev cX6_append : ByteArray := prog_8_method_8_code
def yX6_append : MethodName := ⟨RX6, "append", "(II)I"⟩
abbrev cX6_clearInput : ByteArray := prog_8_method_9_code
def yX6_clearInput : MethodName := ⟨RX6, "clearInput", "()I"⟩
abbrev cX6_codeOf : ByteArray := prog_8_method_10_code
def yX6_codeOf : MethodName := ⟨RX6, "codeOf", "(I)I"⟩
abbrev cX6_takeInput : ByteArray := prog_8_method_11_code
def yX6_takeInput : MethodName := ⟨RX6, "takeInput", "(Z)Z"⟩
abbrev cX6_inputIs : ByteArray := prog_8_method_12_code
def yX6_inputIs : MethodName := ⟨RX6, "inputIs", "(Ljava/lang/String;)Z"⟩
abbrev cX6_normalize : ByteArray := prog_8_method_13_code
def yX6_normalize : MethodName := ⟨RX6, "normalize", "(I)V"⟩
abbrev cX6_store : ByteArray := prog_8_method_14_code
def yX6_store : MethodName := ⟨RX6, "store", "(I)I"⟩
abbrev cX6_setPattern : ByteArray := prog_8_method_15_code
def yX6_setPattern : MethodName := ⟨RX6, "setPattern", "(I)I"⟩
abbrev cX6_copy : ByteArray := prog_8_method_16_code
def yX6_copy : MethodName := ⟨RX6, "copy", "(II)I"⟩
abbrev cX6_length : ByteArray := prog_8_method_17_code
def yX6_length : MethodName := ⟨RX6, "length", "(I)I"⟩
abbrev cX6_symbol : ByteArray := prog_8_method_18_code
def yX6_symbol : MethodName := ⟨RX6, "symbol", "(II)I"⟩
abbrev cX6_countOf : ByteArray := prog_8_method_19_code
def yX6_countOf : MethodName := ⟨RX6, "countOf", "(I[III)I"⟩
abbrev cX6_variablesIn : ByteArray := prog_8_method_20_code
def yX6_variablesIn : MethodName := ⟨RX6, "variablesIn", "([III)I"⟩
abbrev cX6_lettersIn : ByteArray := prog_8_method_21_code
def yX6_lettersIn : MethodName := ⟨RX6, "lettersIn", "([III)I"⟩
abbrev cX6_variables : ByteArray := prog_8_method_22_code
def yX6_variables : MethodName := ⟨RX6, "variables", "(I)I"⟩
abbrev cX6_variableCount : ByteArray := prog_8_method_23_code
def yX6_variableCount : MethodName := ⟨RX6, "variableCount", "(I)I"⟩
abbrev cX6_occurs : ByteArray := prog_8_method_24_code
def yX6_occurs : MethodName := ⟨RX6, "occurs", "(II)I"⟩
abbrev cX6_occurrences : ByteArray := prog_8_method_25_code
def yX6_occurrences : MethodName := ⟨RX6, "occurrences", "(II)I"⟩
abbrev cX6_better : ByteArray := prog_8_method_26_code
def yX6_better : MethodName := ⟨RX6, "better", "([II[III)I"⟩
abbrev cX6_compareQuality : ByteArray := prog_8_method_27_code
def yX6_compareQuality : MethodName := ⟨RX6, "compareQuality", "(II)I"⟩
abbrev cX6_exchange : ByteArray := prog_8_method_28_code
def yX6_exchange : MethodName := ⟨RX6, "exchange", "(III)I"⟩
abbrev cX6_replace : ByteArray := prog_8_method_29_code
def yX6_replace : MethodName := ⟨RX6, "replace", "(III)I"⟩
abbrev cX6_merge : ByteArray := prog_8_method_30_code
def yX6_merge : MethodName := ⟨RX6, "merge", "(III)I"⟩
abbrev cX6_split : ByteArray := prog_8_method_31_code
def yX6_split : MethodName := ⟨RX6, "split", "(II)I"⟩
abbrev cX6_transform : ByteArray := prog_8_method_32_code
def yX6_transform : MethodName := ⟨RX6, "transform", "(I)I"⟩
abbrev cX6_match : ByteArray := prog_8_method_33_code
def yX6_match : MethodName := ⟨RX6, "match", "([III[IIIII)I"⟩
abbrev cX6_choose : ByteArray := prog_8_method_34_code
def yX6_choose : MethodName := ⟨RX6, "choose", "(II)V"⟩
abbrev cX6_produces : ByteArray := prog_8_method_35_code
def yX6_produces : MethodName := ⟨RX6, "produces", "()Z"⟩
abbrev cX6_matchesOf : ByteArray := prog_8_method_36_code
def yX6_matchesOf : MethodName := ⟨RX6, "matchesOf", "(III)I"⟩
abbrev cX6_takeWord : ByteArray := prog_8_method_37_code
def yX6_takeWord : MethodName := ⟨RX6, "takeWord", "(II)I"⟩
abbrev cX6_matches : ByteArray := prog_8_method_38_code
def yX6_matches : MethodName := ⟨RX6, "matches", "(II)I"⟩
abbrev cX6_matchCount : ByteArray := prog_8_method_39_code
def yX6_matchCount : MethodName := ⟨RX6, "matchCount", "(II)I"⟩
abbrev cX6_match_ : ByteArray := prog_8_method_40_code
def yX6_match_ : MethodName := ⟨RX6, "match", "(II)I"⟩
abbrev cX6_setImage : ByteArray := prog_8_method_41_code
def yX6_setImage : MethodName := ⟨RX6, "setImage", "(I)I"⟩
abbrev cX6_imageLetter : ByteArray := prog_8_method_42_code
def yX6_imageLetter : MethodName := ⟨RX6, "imageLetter", "(II)I"⟩
abbrev cX6_addToSample : ByteArray := prog_8_method_43_code
def yX6_addToSample : MethodName := ⟨RX6, "addToSample", "()I"⟩
abbrev cX6_addProduced : ByteArray := prog_8_method_44_code
def yX6_addProduced : MethodName := ⟨RX6, "addProduced", "(I)I"⟩
abbrev cX6_addWord : ByteArray := prog_8_method_45_code
def yX6_addWord : MethodName := ⟨RX6, "addWord", "()I"⟩
abbrev cX6_isInSample : ByteArray := prog_8_method_46_code
def yX6_isInSample : MethodName := ⟨RX6, "isInSample", "(I)Z"⟩
abbrev cX6_removeWord : ByteArray := prog_8_method_47_code
def yX6_removeWord : MethodName := ⟨RX6, "removeWord", "(I)I"⟩
abbrev cX6_sampleSize : ByteArray := prog_8_method_48_code
def yX6_sampleSize : MethodName := ⟨RX6, "sampleSize", "()I"⟩
abbrev cX6_codeOf_ : ByteArray := prog_8_method_49_code
def yX6_codeOf_ : MethodName := ⟨RX6, "codeOf", "([III)J"⟩
abbrev cX6_sampleCode : ByteArray := prog_8_method_50_code
def yX6_sampleCode : MethodName := ⟨RX6, "sampleCode", "(I)J"⟩
abbrev cX6_misfit : ByteArray := prog_8_method_51_code
def yX6_misfit : MethodName := ⟨RX6, "misfit", "([IIII)I"⟩
abbrev cX6_firstMisfit : ByteArray := prog_8_method_52_code
def yX6_firstMisfit : MethodName := ⟨RX6, "firstMisfit", "(II)I"⟩
abbrev cX6_covers : ByteArray := prog_8_method_53_code
def yX6_covers : MethodName := ⟨RX6, "covers", "(III)Z"⟩
abbrev cX6_isMoreGeneral : ByteArray := prog_8_method_54_code
def yX6_isMoreGeneral : MethodName := ⟨RX6, "isMoreGeneral", "(III)I"⟩
abbrev cX6_chainBreak : ByteArray := prog_8_method_55_code
def yX6_chainBreak : MethodName := ⟨RX6, "chainBreak", "(III)I"⟩
abbrev cX6_search : ByteArray := prog_8_method_56_code
def yX6_search : MethodName := ⟨RX6, "search", "(IIIII)V"⟩
abbrev cX6_storeBest : ByteArray := prog_8_method_57_code
def yX6_storeBest : MethodName := ⟨RX6, "storeBest", "(II)V"⟩
abbrev cX6_findPattern : ByteArray := prog_8_method_58_code
def yX6_findPattern : MethodName := ⟨RX6, "findPattern", "(III)I"⟩
abbrev cX6_findOneVariable : ByteArray := prog_8_method_59_code
def yX6_findOneVariable : MethodName := ⟨RX6, "findOneVariable", "(I)I"⟩
abbrev cX6_nextWord : ByteArray := prog_8_method_60_code
def yX6_nextWord : MethodName := ⟨RX6, "nextWord", "(I)Z"⟩
abbrev cX6_firstWord : ByteArray := prog_8_method_61_code
def yX6_firstWord : MethodName := ⟨RX6, "firstWord", "()V"⟩
abbrev cX6_generates : ByteArray := prog_8_method_62_code
def yX6_generates : MethodName := ⟨RX6, "generates", "(III)Z"⟩
abbrev cX6_countWords : ByteArray := prog_8_method_63_code
def yX6_countWords : MethodName := ⟨RX6, "countWords", "(III)I"⟩
abbrev cX6_difference : ByteArray := prog_8_method_64_code
def yX6_difference : MethodName := ⟨RX6, "difference", "(IIII)J"⟩
abbrev cX6_isSlot : ByteArray := prog_8_method_65_code
def yX6_isSlot : MethodName := ⟨RX6, "isSlot", "(I)Z"⟩
abbrev cX6_allocate : ByteArray := prog_8_method_66_code
def yX6_allocate : MethodName := ⟨RX6, "allocate", "(III)I"⟩
abbrev cX6_release : ByteArray := prog_8_method_67_code
def yX6_release : MethodName := ⟨RX6, "release", "(I)I"⟩
abbrev cX6_narrowed : ByteArray := prog_8_method_68_code
def yX6_narrowed : MethodName := ⟨RX6, "narrowed", "(IJ)J"⟩
abbrev cX6_putElement : ByteArray := prog_8_method_69_code
def yX6_putElement : MethodName := ⟨RX6, "putElement", "(IIJ)I"⟩
abbrev cX6_element : ByteArray := prog_8_method_70_code
def yX6_element : MethodName := ⟨RX6, "element", "(II)J"⟩
abbrev cX6_copyElements : ByteArray := prog_8_method_71_code
def yX6_copyElements : MethodName := ⟨RX6, "copyElements", "(IIIII)I"⟩
abbrev cX6_loadPattern : ByteArray := prog_8_method_72_code
def yX6_loadPattern : MethodName := ⟨RX6, "loadPattern", "(II)I"⟩
abbrev cX6_carry : ByteArray := prog_8_method_73_code
def yX6_carry : MethodName := ⟨RX6, "carry", "([I[IZ)V"⟩
abbrev cX6_carryAll : ByteArray := prog_8_method_74_code
def yX6_carryAll : MethodName := ⟨RX6, "carryAll", "(Z)V"⟩
abbrev cX6_snapshot : ByteArray := prog_8_method_75_code
def yX6_snapshot : MethodName := ⟨RX6, "snapshot", "()I"⟩
abbrev cX6_restore : ByteArray := prog_8_method_76_code
def yX6_restore : MethodName := ⟨RX6, "restore", "()I"⟩
def RJ6 : String := "java/lang/Integer"
def TJ6 : u_T := fun k => match k with
  | _ => ("", "", "", false)
def tyJ6 : Nat → FieldType := fun k => match k with
  | _ => .int
abbrev wsJ60 : List Cond := u_ws RJ6 TJ6 0
theorem nmJ6 : ∀ a, a < 0 → ∀ b, b < 0 → a ≠ b → (TJ6 a).2.1 ≠ (TJ6 b).2.1 := by decide +kernel
theorem tyJ6_ok : ∀ k, k < 0 → parseFieldDescriptor (TJ6 k).2.2.1 = some (tyJ6 k) := by decide +kernel
abbrev cJ6_compare_7cf53 : ByteArray := prog_9_method_40_code
def yJ6_compare_7cf53 : MethodName := ⟨RJ6, "compare", "(II)I"⟩
def RJ9 : String := "java/lang/Math"
def TJ9 : u_T := fun k => match k with
  | _ => ("", "", "", false)
def tyJ9 : Nat → FieldType := fun k => match k with
  | _ => .int
abbrev wsJ90 : List Cond := u_ws RJ9 TJ9 0
theorem nmJ9 : ∀ a, a < 0 → ∀ b, b < 0 → a ≠ b → (TJ9 a).2.1 ≠ (TJ9 b).2.1 := by decide +kernel
theorem tyJ9_ok : ∀ k, k < 0 → parseFieldDescriptor (TJ9 k).2.2.1 = some (tyJ9 k) := by decide +kernel
abbrev cJ9_max_7cf53 : ByteArray := prog_10_method_65_code
def yJ9_max_7cf53 : MethodName := ⟨RJ9, "max", "(II)I"⟩
abbrev cJ9_min_7cf53 : ByteArray := prog_10_method_69_code
def yJ9_min_7cf53 : MethodName := ⟨RJ9, "min", "(II)I"⟩
def RJ0 : String := "java/lang/String"
def TJ0 : u_T := fun k => match k with
  | _ => ("", "", "", false)
def tyJ0 : Nat → FieldType := fun k => match k with
  | _ => .int
abbrev wsJ00 : List Cond := u_ws RJ0 TJ0 0
theorem nmJ0 : ∀ a, a < 0 → ∀ b, b < 0 → a ≠ b → (TJ0 a).2.1 ≠ (TJ0 b).2.1 := by decide +kernel
theorem tyJ0_ok : ∀ k, k < 0 → parseFieldDescriptor (TJ0 k).2.2.1 = some (tyJ0 k) := by decide +kernel
abbrev cJ0_length_8abf5 : ByteArray := prog_11_method_54_code
def yJ0_length_8abf5 : MethodName := ⟨RJ0, "length", "()I"⟩
abbrev cJ0_charAt_5068e : ByteArray := prog_11_method_56_code
def yJ0_charAt_5068e : MethodName := ⟨RJ0, "charAt", "(I)C"⟩
abbrev cJ0_coder_7d493 : ByteArray := prog_11_method_152_code
def yJ0_coder_7d493 : MethodName := ⟨RJ0, "coder", "()B"⟩
abbrev cJ0_isLatin1_aae02 : ByteArray := prog_11_method_154_code
def yJ0_isLatin1_aae02 : MethodName := ⟨RJ0, "isLatin1", "()Z"⟩
abbrev cJ0_checkIndex_df160 : ByteArray := prog_11_method_155_code
def yJ0_checkIndex_df160 : MethodName := ⟨RJ0, "checkIndex", "(II)V"⟩
def RJ1 : String := "java/lang/StringLatin1"
def TJ1 : u_T := fun k => match k with
  | _ => ("", "", "", false)
def tyJ1 : Nat → FieldType := fun k => match k with
  | _ => .int
abbrev wsJ10 : List Cond := u_ws RJ1 TJ1 0
theorem nmJ1 : ∀ a, a < 0 → ∀ b, b < 0 → a ≠ b → (TJ1 a).2.1 ≠ (TJ1 b).2.1 := by decide +kernel
theorem tyJ1_ok : ∀ k, k < 0 → parseFieldDescriptor (TJ1 k).2.2.1 = some (tyJ1 k) := by decide +kernel
abbrev cJ1_charAt_3b067 : ByteArray := prog_12_method_2_code
def yJ1_charAt_3b067 : MethodName := ⟨RJ1, "charAt", "([BI)C"⟩
def RJ2 : String := "java/lang/StringUTF16"
def TJ2 : u_T := fun k => match k with
  | _ => ("", "", "", false)
def tyJ2 : Nat → FieldType := fun k => match k with
  | _ => .int
abbrev wsJ20 : List Cond := u_ws RJ2 TJ2 0
theorem nmJ2 : ∀ a, a < 0 → ∀ b, b < 0 → a ≠ b → (TJ2 a).2.1 ≠ (TJ2 b).2.1 := by decide +kernel
theorem tyJ2_ok : ∀ k, k < 0 → parseFieldDescriptor (TJ2 k).2.2.1 = some (tyJ2 k) := by decide +kernel
abbrev cJ2_getChar_3b067 : ByteArray := prog_13_method_5_code
def yJ2_getChar_3b067 : MethodName := ⟨RJ2, "getChar", "([BI)C"⟩
abbrev cJ2_length_9d52b : ByteArray := prog_13_method_6_code
def yJ2_length_9d52b : MethodName := ⟨RJ2, "length", "([B)I"⟩
abbrev cJ2_charAt_3b067 : ByteArray := prog_13_method_83_code
def yJ2_charAt_3b067 : MethodName := ⟨RJ2, "charAt", "([BI)C"⟩
abbrev cJ2_checkIndex_2214a : ByteArray := prog_13_method_91_code
def yJ2_checkIndex_2214a : MethodName := ⟨RJ2, "checkIndex", "(I[B)V"⟩
def RJ10 : String := "java/lang/System"
def TJ10 : u_T := fun k => match k with
  | _ => ("", "", "", false)
def tyJ10 : Nat → FieldType := fun k => match k with
  | _ => .int
abbrev wsJ100 : List Cond := u_ws RJ10 TJ10 0
theorem nmJ10 : ∀ a, a < 0 → ∀ b, b < 0 → a ≠ b → (TJ10 a).2.1 ≠ (TJ10 b).2.1 := by decide +kernel
theorem tyJ10_ok : ∀ k, k < 0 → parseFieldDescriptor (TJ10 k).2.2.1 = some (tyJ10 k) := by decide +kernel
def RJ3 : String := "jdk/internal/util/Preconditions"
def TJ3 : u_T := fun k => match k with
  | _ => ("", "", "", false)
def tyJ3 : Nat → FieldType := fun k => match k with
  | _ => .int
abbrev wsJ30 : List Cond := u_ws RJ3 TJ3 0
theorem nmJ3 : ∀ a, a < 0 → ∀ b, b < 0 → a ≠ b → (TJ3 a).2.1 ≠ (TJ3 b).2.1 := by decide +kernel
theorem tyJ3_ok : ∀ k, k < 0 → parseFieldDescriptor (TJ3 k).2.2.1 = some (tyJ3 k) := by decide +kernel
abbrev cJ3_checkIndex_8e157 : ByteArray := prog_15_method_11_code
def yJ3_checkIndex_8e157 : MethodName := ⟨RJ3, "checkIndex", "(IILjava/util/function/BiFunction;)I"⟩
def RL : String := "PatternLanguagesLaw"
abbrev cL_law : ByteArray := code
def yL_law : MethodName := ⟨RL, "law", "([I)Z"⟩
abbrev vwCl : List vw_C := [(RX0, TX0, 5), (RX1, TX1, 6), (RX2, TX2, 2), (RX3, TX3, 6), (RX4, TX4, 2), (RX5, TX5, 9), (RX6, TX6, 42)]
theorem goodIn_r0 {big : List Cond} (ws : List Cond) (ps : List Nat) (hp : ws = ps.filterMap (fun i => big[i]?)) : ∀ w ∈ ws, w ∈ big := by
  intro w hw
  rw [hp] at hw
  obtain ⟨i, -, hi⟩ := List.mem_filterMap.mp hw
  exact List.mem_of_getElem? hi
theorem tb_at {w : Cond} (i : Nat) (h : lw_tbl[i]? = some w) : w ∈ lw_tbl := List.mem_of_getElem? h
set_option maxRecDepth 20000 in
theorem inX0 : ∀ w ∈ wsX00, w ∈ lw_tbl := fun w h => (goodIn_r0 wsX00 [132, 134, 136, 138, 140] (by decide +kernel)) w h
set_option maxRecDepth 20000 in
theorem inX1 : ∀ w ∈ wsX10, w ∈ lw_tbl := fun w h => (goodIn_r0 wsX10 [159, 161, 163, 165, 167, 169] (by decide +kernel)) w h
set_option maxRecDepth 20000 in
theorem inX2 : ∀ w ∈ wsX20, w ∈ lw_tbl := fun w h => (goodIn_r0 wsX20 [97, 99] (by decide +kernel)) w h
set_option maxRecDepth 20000 in
theorem inX3 : ∀ w ∈ wsX30, w ∈ lw_tbl := fun w h => (goodIn_r0 wsX30 [187, 189, 191, 193, 195, 197] (by decide +kernel)) w h
set_option maxRecDepth 20000 in
theorem inX4 : ∀ w ∈ wsX40, w ∈ lw_tbl := fun w h => (goodIn_r0 wsX40 [211, 213] (by decide +kernel)) w h
set_option maxRecDepth 20000 in
theorem inX5 : ∀ w ∈ wsX50, w ∈ lw_tbl := fun w h => (goodIn_r0 wsX50 [225, 227, 229, 231, 233, 235, 237, 239, 241] (by decide +kernel)) w h
set_option maxRecDepth 20000 in
theorem inX6 : ∀ w ∈ wsX60, w ∈ lw_tbl := fun w h => (goodIn_r0 wsX60 [765, 767, 769, 771, 773, 775, 777, 779, 781, 783, 785, 787, 789, 791, 793, 795, 797, 799, 801, 803, 805, 807, 809, 811, 813, 815, 817, 819, 821, 823, 825, 827, 829, 831, 833, 835, 837, 839, 841, 843, 845, 847] (by decide +kernel)) w h
end
section
theorem dJ6_compare_7cf53_0 : decode cJ6_compare_7cf53 0 = .ok (.iload_n 0, 1) := by decide +kernel
theorem dJ6_compare_7cf53_1 : decode cJ6_compare_7cf53 1 = .ok (.iload_n 1, 1) := by decide +kernel
theorem dJ6_compare_7cf53_2 : decode cJ6_compare_7cf53 2 = .ok (.if_icmp .ge 7, 3) := by decide +kernel
theorem dJ6_compare_7cf53_5 : decode cJ6_compare_7cf53 5 = .ok (.iconst (-1), 1) := by decide +kernel
theorem dJ6_compare_7cf53_6 : decode cJ6_compare_7cf53 6 = .ok (.goto 13, 3) := by decide +kernel
theorem dJ6_compare_7cf53_9 : decode cJ6_compare_7cf53 9 = .ok (.iload_n 0, 1) := by decide +kernel
theorem dJ6_compare_7cf53_10 : decode cJ6_compare_7cf53 10 = .ok (.iload_n 1, 1) := by decide +kernel
theorem dJ6_compare_7cf53_11 : decode cJ6_compare_7cf53 11 = .ok (.if_icmp .ne 7, 3) := by decide +kernel
theorem dJ6_compare_7cf53_14 : decode cJ6_compare_7cf53 14 = .ok (.iconst 0, 1) := by decide +kernel
theorem dJ6_compare_7cf53_15 : decode cJ6_compare_7cf53 15 = .ok (.goto 4, 3) := by decide +kernel
theorem dJ6_compare_7cf53_18 : decode cJ6_compare_7cf53 18 = .ok (.iconst 1, 1) := by decide +kernel
theorem dJ6_compare_7cf53_19 : decode cJ6_compare_7cf53 19 = .ok (.ireturn, 1) := by decide +kernel
theorem dJ9_max_7cf53_0 : decode cJ9_max_7cf53 0 = .ok (.iload_n 0, 1) := by decide +kernel
theorem dJ9_max_7cf53_1 : decode cJ9_max_7cf53 1 = .ok (.iload_n 1, 1) := by decide +kernel
theorem dJ9_max_7cf53_2 : decode cJ9_max_7cf53 2 = .ok (.if_icmp .lt 7, 3) := by decide +kernel
theorem dJ9_max_7cf53_5 : decode cJ9_max_7cf53 5 = .ok (.iload_n 0, 1) := by decide +kernel
theorem dJ9_max_7cf53_6 : decode cJ9_max_7cf53 6 = .ok (.goto 4, 3) := by decide +kernel
theorem dJ9_max_7cf53_9 : decode cJ9_max_7cf53 9 = .ok (.iload_n 1, 1) := by decide +kernel
theorem dJ9_max_7cf53_10 : decode cJ9_max_7cf53 10 = .ok (.ireturn, 1) := by decide +kernel
theorem dJ9_min_7cf53_0 : decode cJ9_min_7cf53 0 = .ok (.iload_n 0, 1) := by decide +kernel
theorem dJ9_min_7cf53_1 : decode cJ9_min_7cf53 1 = .ok (.iload_n 1, 1) := by decide +kernel
theorem dJ9_min_7cf53_2 : decode cJ9_min_7cf53 2 = .ok (.if_icmp .gt 7, 3) := by decide +kernel
theorem dJ9_min_7cf53_5 : decode cJ9_min_7cf53 5 = .ok (.iload_n 0, 1) := by decide +kernel
theorem dJ9_min_7cf53_6 : decode cJ9_min_7cf53 6 = .ok (.goto 4, 3) := by decide +kernel
theorem dJ9_min_7cf53_9 : decode cJ9_min_7cf53 9 = .ok (.iload_n 1, 1) := by decide +kernel
theorem dJ9_min_7cf53_10 : decode cJ9_min_7cf53 10 = .ok (.ireturn, 1) := by decide +kernel
theorem dX0_init_0 : decode cX0_init 0 = .ok (.aload_n 0, 1) := by decide +kernel
theorem dX0_init_1 : decode cX0_init 1 = .ok (.invokespecial 3, 3) := by decide +kernel
theorem dX0_init_4 : decode cX0_init 4 = .ok (.aload_n 0, 1) := by decide +kernel
theorem dX0_init_5 : decode cX0_init 5 = .ok (.bipush 6, 2) := by decide +kernel
theorem dX0_init_7 : decode cX0_init 7 = .ok (.anewarray 9, 3) := by decide +kernel
theorem dX0_init_10 : decode cX0_init 10 = .ok (.putfield 11, 3) := by decide +kernel
theorem dX0_init_13 : decode cX0_init 13 = .ok (.aload_n 0, 1) := by decide +kernel
theorem dX0_init_14 : decode cX0_init 14 = .ok (.iconst 4, 1) := by decide +kernel
theorem dX0_init_15 : decode cX0_init 15 = .ok (.anewarray 9, 3) := by decide +kernel
theorem dX0_init_18 : decode cX0_init 18 = .ok (.putfield 17, 3) := by decide +kernel
theorem dX0_init_21 : decode cX0_init 21 = .ok (.aload_n 0, 1) := by decide +kernel
theorem dX0_init_22 : decode cX0_init 22 = .ok (.bipush 6, 2) := by decide +kernel
theorem dX0_init_24 : decode cX0_init 24 = .ok (.anewarray 9, 3) := by decide +kernel
theorem dX0_init_27 : decode cX0_init 27 = .ok (.putfield 20, 3) := by decide +kernel
theorem dX0_init_30 : decode cX0_init 30 = .ok (.aload_n 0, 1) := by decide +kernel
theorem dX0_init_31 : decode cX0_init 31 = .ok (.getfield 11, 3) := by decide +kernel
theorem dX0_init_34 : decode cX0_init 34 = .ok (.invokestatic 23, 3) := by decide +kernel
theorem dX0_init_37 : decode cX0_init 37 = .ok (.aload_n 0, 1) := by decide +kernel
theorem dX0_init_38 : decode cX0_init 38 = .ok (.getfield 17, 3) := by decide +kernel
theorem dX0_init_41 : decode cX0_init 41 = .ok (.invokestatic 23, 3) := by decide +kernel
theorem dX0_init_44 : decode cX0_init 44 = .ok (.aload_n 0, 1) := by decide +kernel
theorem dX0_init_45 : decode cX0_init 45 = .ok (.getfield 20, 3) := by decide +kernel
theorem dX0_init_48 : decode cX0_init 48 = .ok (.invokestatic 23, 3) := by decide +kernel
theorem dX0_init_51 : decode cX0_init 51 = .ok (.aload_n 0, 1) := by decide +kernel
theorem dX0_init_52 : decode cX0_init 52 = .ok (.iconst 2, 1) := by decide +kernel
theorem dX0_init_53 : decode cX0_init 53 = .ok (.invokevirtual 27, 3) := by decide +kernel
theorem dX0_init_56 : decode cX0_init 56 = .ok (.return_, 1) := by decide +kernel
theorem dX0_makeRows_0 : decode cX0_makeRows 0 = .ok (.iconst 0, 1) := by decide +kernel
theorem dX0_makeRows_1 : decode cX0_makeRows 1 = .ok (.istore_n 1, 1) := by decide +kernel
theorem dX0_makeRows_2 : decode cX0_makeRows 2 = .ok (.iload_n 1, 1) := by decide +kernel
theorem dX0_makeRows_3 : decode cX0_makeRows 3 = .ok (.aload_n 0, 1) := by decide +kernel
theorem dX0_makeRows_4 : decode cX0_makeRows 4 = .ok (.arraylength, 1) := by decide +kernel
theorem dX0_makeRows_5 : decode cX0_makeRows 5 = .ok (.if_icmp .ge 21, 3) := by decide +kernel
theorem dX0_makeRows_8 : decode cX0_makeRows 8 = .ok (.aload_n 0, 1) := by decide +kernel
theorem dX0_makeRows_9 : decode cX0_makeRows 9 = .ok (.iload_n 1, 1) := by decide +kernel
theorem dX0_makeRows_10 : decode cX0_makeRows 10 = .ok (.new 9, 3) := by decide +kernel
theorem dX0_makeRows_13 : decode cX0_makeRows 13 = .ok (.dup, 1) := by decide +kernel
theorem dX0_makeRows_14 : decode cX0_makeRows 14 = .ok (.bipush 8, 2) := by decide +kernel
theorem dX0_makeRows_16 : decode cX0_makeRows 16 = .ok (.invokespecial 31, 3) := by decide +kernel
theorem dX0_makeRows_19 : decode cX0_makeRows 19 = .ok (.aastore, 1) := by decide +kernel
theorem dX0_makeRows_20 : decode cX0_makeRows 20 = .ok (.iinc 1 1, 3) := by decide +kernel
theorem dX0_makeRows_23 : decode cX0_makeRows 23 = .ok (.goto (-21), 3) := by decide +kernel
theorem dX0_makeRows_26 : decode cX0_makeRows 26 = .ok (.return_, 1) := by decide +kernel
theorem dX0_begin_0 : decode cX0_begin 0 = .ok (.aload_n 0, 1) := by decide +kernel
theorem dX0_begin_1 : decode cX0_begin 1 = .ok (.iload_n 1, 1) := by decide +kernel
theorem dX0_begin_2 : decode cX0_begin 2 = .ok (.putfield 33, 3) := by decide +kernel
theorem dX0_begin_5 : decode cX0_begin 5 = .ok (.iconst 0, 1) := by decide +kernel
theorem dX0_begin_6 : decode cX0_begin 6 = .ok (.istore_n 2, 1) := by decide +kernel
theorem dX0_begin_7 : decode cX0_begin 7 = .ok (.iload_n 2, 1) := by decide +kernel
theorem dX0_begin_8 : decode cX0_begin 8 = .ok (.aload_n 0, 1) := by decide +kernel
theorem dX0_begin_9 : decode cX0_begin 9 = .ok (.getfield 11, 3) := by decide +kernel
theorem dX0_begin_12 : decode cX0_begin 12 = .ok (.arraylength, 1) := by decide +kernel
theorem dX0_begin_13 : decode cX0_begin 13 = .ok (.if_icmp .ge 21, 3) := by decide +kernel
theorem dX0_begin_16 : decode cX0_begin 16 = .ok (.aload_n 0, 1) := by decide +kernel
theorem dX0_begin_17 : decode cX0_begin 17 = .ok (.getfield 11, 3) := by decide +kernel
theorem dX0_begin_20 : decode cX0_begin 20 = .ok (.iload_n 2, 1) := by decide +kernel
theorem dX0_begin_21 : decode cX0_begin 21 = .ok (.aaload, 1) := by decide +kernel
theorem dX0_begin_22 : decode cX0_begin 22 = .ok (.bipush 10, 2) := by decide +kernel
theorem dX0_begin_24 : decode cX0_begin 24 = .ok (.iconst 1, 1) := by decide +kernel
theorem dX0_begin_25 : decode cX0_begin 25 = .ok (.invokevirtual 37, 3) := by decide +kernel
theorem dX0_begin_28 : decode cX0_begin 28 = .ok (.iinc 2 1, 3) := by decide +kernel
theorem dX0_begin_31 : decode cX0_begin 31 = .ok (.goto (-24), 3) := by decide +kernel
theorem dX0_begin_34 : decode cX0_begin 34 = .ok (.iconst 0, 1) := by decide +kernel
theorem dX0_begin_35 : decode cX0_begin 35 = .ok (.istore_n 2, 1) := by decide +kernel
theorem dX0_begin_36 : decode cX0_begin 36 = .ok (.iload_n 2, 1) := by decide +kernel
theorem dX0_begin_37 : decode cX0_begin 37 = .ok (.aload_n 0, 1) := by decide +kernel
theorem dX0_begin_38 : decode cX0_begin 38 = .ok (.getfield 17, 3) := by decide +kernel
theorem dX0_begin_41 : decode cX0_begin 41 = .ok (.arraylength, 1) := by decide +kernel
theorem dX0_begin_42 : decode cX0_begin 42 = .ok (.if_icmp .ge 20, 3) := by decide +kernel
theorem dX0_begin_45 : decode cX0_begin 45 = .ok (.aload_n 0, 1) := by decide +kernel
theorem dX0_begin_46 : decode cX0_begin 46 = .ok (.getfield 17, 3) := by decide +kernel
theorem dX0_begin_49 : decode cX0_begin 49 = .ok (.iload_n 2, 1) := by decide +kernel
theorem dX0_begin_50 : decode cX0_begin 50 = .ok (.aaload, 1) := by decide +kernel
theorem dX0_begin_51 : decode cX0_begin 51 = .ok (.iconst 0, 1) := by decide +kernel
theorem dX0_begin_52 : decode cX0_begin 52 = .ok (.iconst 1, 1) := by decide +kernel
theorem dX0_begin_53 : decode cX0_begin 53 = .ok (.invokevirtual 37, 3) := by decide +kernel
theorem dX0_begin_56 : decode cX0_begin 56 = .ok (.iinc 2 1, 3) := by decide +kernel
theorem dX0_begin_59 : decode cX0_begin 59 = .ok (.goto (-23), 3) := by decide +kernel
theorem dX0_begin_62 : decode cX0_begin 62 = .ok (.aload_n 0, 1) := by decide +kernel
theorem dX0_begin_63 : decode cX0_begin 63 = .ok (.iconst 0, 1) := by decide +kernel
theorem dX0_begin_64 : decode cX0_begin 64 = .ok (.putfield 41, 3) := by decide +kernel
theorem dX0_begin_67 : decode cX0_begin 67 = .ok (.return_, 1) := by decide +kernel
theorem dX0_setTo_0 : decode cX0_setTo 0 = .ok (.aload_n 0, 1) := by decide +kernel
theorem dX0_setTo_1 : decode cX0_setTo 1 = .ok (.aload_n 1, 1) := by decide +kernel
theorem dX0_setTo_2 : decode cX0_setTo 2 = .ok (.getfield 33, 3) := by decide +kernel
theorem dX0_setTo_5 : decode cX0_setTo 5 = .ok (.putfield 33, 3) := by decide +kernel
theorem dX0_setTo_8 : decode cX0_setTo 8 = .ok (.aload_n 1, 1) := by decide +kernel
theorem dX0_setTo_9 : decode cX0_setTo 9 = .ok (.getfield 11, 3) := by decide +kernel
theorem dX0_setTo_12 : decode cX0_setTo 12 = .ok (.aload_n 0, 1) := by decide +kernel
theorem dX0_setTo_13 : decode cX0_setTo 13 = .ok (.getfield 11, 3) := by decide +kernel
theorem dX0_setTo_16 : decode cX0_setTo 16 = .ok (.invokestatic 44, 3) := by decide +kernel
theorem dX0_setTo_19 : decode cX0_setTo 19 = .ok (.aload_n 1, 1) := by decide +kernel
theorem dX0_setTo_20 : decode cX0_setTo 20 = .ok (.getfield 17, 3) := by decide +kernel
theorem dX0_setTo_23 : decode cX0_setTo 23 = .ok (.aload_n 0, 1) := by decide +kernel
theorem dX0_setTo_24 : decode cX0_setTo 24 = .ok (.getfield 17, 3) := by decide +kernel
theorem dX0_setTo_27 : decode cX0_setTo 27 = .ok (.invokestatic 44, 3) := by decide +kernel
theorem dX0_setTo_30 : decode cX0_setTo 30 = .ok (.aload_n 1, 1) := by decide +kernel
theorem dX0_setTo_31 : decode cX0_setTo 31 = .ok (.getfield 20, 3) := by decide +kernel
theorem dX0_setTo_34 : decode cX0_setTo 34 = .ok (.aload_n 0, 1) := by decide +kernel
theorem dX0_setTo_35 : decode cX0_setTo 35 = .ok (.getfield 20, 3) := by decide +kernel
theorem dX0_setTo_38 : decode cX0_setTo 38 = .ok (.invokestatic 44, 3) := by decide +kernel
theorem dX0_setTo_41 : decode cX0_setTo 41 = .ok (.aload_n 0, 1) := by decide +kernel
theorem dX0_setTo_42 : decode cX0_setTo 42 = .ok (.aload_n 1, 1) := by decide +kernel
theorem dX0_setTo_43 : decode cX0_setTo 43 = .ok (.getfield 41, 3) := by decide +kernel
theorem dX0_setTo_46 : decode cX0_setTo 46 = .ok (.putfield 41, 3) := by decide +kernel
theorem dX0_setTo_49 : decode cX0_setTo 49 = .ok (.return_, 1) := by decide +kernel
theorem dX0_copyRows_0 : decode cX0_copyRows 0 = .ok (.iconst 0, 1) := by decide +kernel
theorem dX0_copyRows_1 : decode cX0_copyRows 1 = .ok (.istore_n 2, 1) := by decide +kernel
theorem dX0_copyRows_2 : decode cX0_copyRows 2 = .ok (.iload_n 2, 1) := by decide +kernel
theorem dX0_copyRows_3 : decode cX0_copyRows 3 = .ok (.aload_n 0, 1) := by decide +kernel
theorem dX0_copyRows_4 : decode cX0_copyRows 4 = .ok (.arraylength, 1) := by decide +kernel
theorem dX0_copyRows_5 : decode cX0_copyRows 5 = .ok (.if_icmp .ge 24, 3) := by decide +kernel
theorem dX0_copyRows_8 : decode cX0_copyRows 8 = .ok (.iload_n 2, 1) := by decide +kernel
theorem dX0_copyRows_9 : decode cX0_copyRows 9 = .ok (.aload_n 1, 1) := by decide +kernel
theorem dX0_copyRows_10 : decode cX0_copyRows 10 = .ok (.arraylength, 1) := by decide +kernel
theorem dX0_copyRows_11 : decode cX0_copyRows 11 = .ok (.if_icmp .ge 18, 3) := by decide +kernel
theorem dX0_copyRows_14 : decode cX0_copyRows 14 = .ok (.aload_n 1, 1) := by decide +kernel
theorem dX0_copyRows_15 : decode cX0_copyRows 15 = .ok (.iload_n 2, 1) := by decide +kernel
theorem dX0_copyRows_16 : decode cX0_copyRows 16 = .ok (.aaload, 1) := by decide +kernel
theorem dX0_copyRows_17 : decode cX0_copyRows 17 = .ok (.aload_n 0, 1) := by decide +kernel
theorem dX0_copyRows_18 : decode cX0_copyRows 18 = .ok (.iload_n 2, 1) := by decide +kernel
theorem dX0_copyRows_19 : decode cX0_copyRows 19 = .ok (.aaload, 1) := by decide +kernel
theorem dX0_copyRows_20 : decode cX0_copyRows 20 = .ok (.invokevirtual 48, 3) := by decide +kernel
theorem dX0_copyRows_23 : decode cX0_copyRows 23 = .ok (.iinc 2 1, 3) := by decide +kernel
theorem dX0_copyRows_26 : decode cX0_copyRows 26 = .ok (.goto (-24), 3) := by decide +kernel
theorem dX0_copyRows_29 : decode cX0_copyRows 29 = .ok (.return_, 1) := by decide +kernel
theorem dX1_init_0 : decode cX1_init 0 = .ok (.aload_n 0, 1) := by decide +kernel
theorem dX1_init_1 : decode cX1_init 1 = .ok (.invokespecial 3, 3) := by decide +kernel
theorem dX1_init_4 : decode cX1_init 4 = .ok (.aload_n 0, 1) := by decide +kernel
theorem dX1_init_5 : decode cX1_init 5 = .ok (.iconst 4, 1) := by decide +kernel
theorem dX1_init_6 : decode cX1_init 6 = .ok (.newarray .int, 2) := by decide +kernel
theorem dX1_init_8 : decode cX1_init 8 = .ok (.putfield 9, 3) := by decide +kernel
theorem dX1_init_11 : decode cX1_init 11 = .ok (.aload_n 0, 1) := by decide +kernel
theorem dX1_init_12 : decode cX1_init 12 = .ok (.iconst 4, 1) := by decide +kernel
theorem dX1_init_13 : decode cX1_init 13 = .ok (.newarray .int, 2) := by decide +kernel
theorem dX1_init_15 : decode cX1_init 15 = .ok (.putfield 15, 3) := by decide +kernel
theorem dX1_init_18 : decode cX1_init 18 = .ok (.aload_n 0, 1) := by decide +kernel
theorem dX1_init_19 : decode cX1_init 19 = .ok (.iconst 4, 1) := by decide +kernel
theorem dX1_init_20 : decode cX1_init 20 = .ok (.newarray .int, 2) := by decide +kernel
theorem dX1_init_22 : decode cX1_init 22 = .ok (.putfield 18, 3) := by decide +kernel
theorem dX1_init_25 : decode cX1_init 25 = .ok (.return_, 1) := by decide +kernel
theorem dX1_isMatch_0 : decode cX1_isMatch 0 = .ok (.aload_n 0, 1) := by decide +kernel
theorem dX1_isMatch_1 : decode cX1_isMatch 1 = .ok (.aload_n 1, 1) := by decide +kernel
theorem dX1_isMatch_2 : decode cX1_isMatch 2 = .ok (.aload_n 2, 1) := by decide +kernel
theorem dX1_isMatch_3 : decode cX1_isMatch 3 = .ok (.iload_n 3, 1) := by decide +kernel
theorem dX1_isMatch_4 : decode cX1_isMatch 4 = .ok (.iconst 0, 1) := by decide +kernel
theorem dX1_isMatch_5 : decode cX1_isMatch 5 = .ok (.iconst 0, 1) := by decide +kernel
theorem dX1_isMatch_6 : decode cX1_isMatch 6 = .ok (.invokevirtual 21, 3) := by decide +kernel
theorem dX1_isMatch_9 : decode cX1_isMatch 9 = .ok (.ireturn, 1) := by decide +kernel
theorem dX1_isMatchBefore_0 : decode cX1_isMatchBefore 0 = .ok (.aload_n 2, 1) := by decide +kernel
theorem dX1_isMatchBefore_1 : decode cX1_isMatchBefore 1 = .ok (.getfield 25, 3) := by decide +kernel
theorem dX1_isMatchBefore_4 : decode cX1_isMatchBefore 4 = .ok (.aload_n 0, 1) := by decide +kernel
theorem dX1_isMatchBefore_5 : decode cX1_isMatchBefore 5 = .ok (.aload_n 1, 1) := by decide +kernel
theorem dX1_isMatchBefore_6 : decode cX1_isMatchBefore 6 = .ok (.iload_n 3, 1) := by decide +kernel
theorem dX1_isMatchBefore_7 : decode cX1_isMatchBefore 7 = .ok (.invokevirtual 31, 3) := by decide +kernel
theorem dX1_isMatchBefore_10 : decode cX1_isMatchBefore 10 = .ok (.isub, 1) := by decide +kernel
theorem dX1_isMatchBefore_11 : decode cX1_isMatchBefore 11 = .ok (.iload 4, 2) := by decide +kernel
theorem dX1_isMatchBefore_13 : decode cX1_isMatchBefore 13 = .ok (.isub, 1) := by decide +kernel
theorem dX1_isMatchBefore_14 : decode cX1_isMatchBefore 14 = .ok (.istore 6, 2) := by decide +kernel
theorem dX1_isMatchBefore_16 : decode cX1_isMatchBefore 16 = .ok (.aload_n 0, 1) := by decide +kernel
theorem dX1_isMatchBefore_17 : decode cX1_isMatchBefore 17 = .ok (.iload 5, 2) := by decide +kernel
theorem dX1_isMatchBefore_19 : decode cX1_isMatchBefore 19 = .ok (.iload 4, 2) := by decide +kernel
theorem dX1_isMatchBefore_21 : decode cX1_isMatchBefore 21 = .ok (.isub, 1) := by decide +kernel
theorem dX1_isMatchBefore_22 : decode cX1_isMatchBefore 22 = .ok (.putfield 35, 3) := by decide +kernel
theorem dX1_isMatchBefore_25 : decode cX1_isMatchBefore 25 = .ok (.aload_n 0, 1) := by decide +kernel
theorem dX1_isMatchBefore_26 : decode cX1_isMatchBefore 26 = .ok (.iload 6, 2) := by decide +kernel
theorem dX1_isMatchBefore_28 : decode cX1_isMatchBefore 28 = .ok (.invokevirtual 38, 3) := by decide +kernel
theorem dX1_isMatchBefore_31 : decode cX1_isMatchBefore 31 = .ok (.ifCond .eq 21, 3) := by decide +kernel
theorem dX1_isMatchBefore_34 : decode cX1_isMatchBefore 34 = .ok (.aload_n 0, 1) := by decide +kernel
theorem dX1_isMatchBefore_35 : decode cX1_isMatchBefore 35 = .ok (.aload_n 1, 1) := by decide +kernel
theorem dX1_isMatchBefore_36 : decode cX1_isMatchBefore 36 = .ok (.iconst 0, 1) := by decide +kernel
theorem dX1_isMatchBefore_37 : decode cX1_isMatchBefore 37 = .ok (.aload_n 2, 1) := by decide +kernel
theorem dX1_isMatchBefore_38 : decode cX1_isMatchBefore 38 = .ok (.iconst 0, 1) := by decide +kernel
theorem dX1_isMatchBefore_39 : decode cX1_isMatchBefore 39 = .ok (.iload 6, 2) := by decide +kernel
theorem dX1_isMatchBefore_41 : decode cX1_isMatchBefore 41 = .ok (.iconst 1, 1) := by decide +kernel
theorem dX1_isMatchBefore_42 : decode cX1_isMatchBefore 42 = .ok (.invokevirtual 42, 3) := by decide +kernel
theorem dX1_isMatchBefore_45 : decode cX1_isMatchBefore 45 = .ok (.ifCond .le 7, 3) := by decide +kernel
theorem dX1_isMatchBefore_48 : decode cX1_isMatchBefore 48 = .ok (.iconst 1, 1) := by decide +kernel
theorem dX1_isMatchBefore_49 : decode cX1_isMatchBefore 49 = .ok (.goto 4, 3) := by decide +kernel
theorem dX1_isMatchBefore_52 : decode cX1_isMatchBefore 52 = .ok (.iconst 0, 1) := by decide +kernel
theorem dX1_isMatchBefore_53 : decode cX1_isMatchBefore 53 = .ok (.ireturn, 1) := by decide +kernel
theorem dX1_countAll_0 : decode cX1_countAll 0 = .ok (.aload_n 2, 1) := by decide +kernel
theorem dX1_countAll_1 : decode cX1_countAll 1 = .ok (.getfield 25, 3) := by decide +kernel
theorem dX1_countAll_4 : decode cX1_countAll 4 = .ok (.aload_n 0, 1) := by decide +kernel
theorem dX1_countAll_5 : decode cX1_countAll 5 = .ok (.aload_n 1, 1) := by decide +kernel
theorem dX1_countAll_6 : decode cX1_countAll 6 = .ok (.iload_n 3, 1) := by decide +kernel
theorem dX1_countAll_7 : decode cX1_countAll 7 = .ok (.invokevirtual 31, 3) := by decide +kernel
theorem dX1_countAll_10 : decode cX1_countAll 10 = .ok (.isub, 1) := by decide +kernel
theorem dX1_countAll_11 : decode cX1_countAll 11 = .ok (.istore 4, 2) := by decide +kernel
theorem dX1_countAll_13 : decode cX1_countAll 13 = .ok (.aload_n 0, 1) := by decide +kernel
theorem dX1_countAll_14 : decode cX1_countAll 14 = .ok (.iconst 0, 1) := by decide +kernel
theorem dX1_countAll_15 : decode cX1_countAll 15 = .ok (.putfield 35, 3) := by decide +kernel
theorem dX1_countAll_18 : decode cX1_countAll 18 = .ok (.aload_n 0, 1) := by decide +kernel
theorem dX1_countAll_19 : decode cX1_countAll 19 = .ok (.iload 4, 2) := by decide +kernel
theorem dX1_countAll_21 : decode cX1_countAll 21 = .ok (.invokevirtual 38, 3) := by decide +kernel
theorem dX1_countAll_24 : decode cX1_countAll 24 = .ok (.ifCond .eq 18, 3) := by decide +kernel
theorem dX1_countAll_27 : decode cX1_countAll 27 = .ok (.aload_n 0, 1) := by decide +kernel
theorem dX1_countAll_28 : decode cX1_countAll 28 = .ok (.aload_n 1, 1) := by decide +kernel
theorem dX1_countAll_29 : decode cX1_countAll 29 = .ok (.iconst 0, 1) := by decide +kernel
theorem dX1_countAll_30 : decode cX1_countAll 30 = .ok (.aload_n 2, 1) := by decide +kernel
theorem dX1_countAll_31 : decode cX1_countAll 31 = .ok (.iconst 0, 1) := by decide +kernel
theorem dX1_countAll_32 : decode cX1_countAll 32 = .ok (.iload 4, 2) := by decide +kernel
theorem dX1_countAll_34 : decode cX1_countAll 34 = .ok (.ldc 48, 2) := by decide +kernel
theorem dX1_countAll_36 : decode cX1_countAll 36 = .ok (.invokevirtual 42, 3) := by decide +kernel
theorem dX1_countAll_39 : decode cX1_countAll 39 = .ok (.goto 4, 3) := by decide +kernel
theorem dX1_countAll_42 : decode cX1_countAll 42 = .ok (.iconst 0, 1) := by decide +kernel
theorem dX1_countAll_43 : decode cX1_countAll 43 = .ok (.ireturn, 1) := by decide +kernel
theorem dX1_writeImage_0 : decode cX1_writeImage 0 = .ok (.aload_n 3, 1) := by decide +kernel
theorem dX1_writeImage_1 : decode cX1_writeImage 1 = .ok (.invokevirtual 49, 3) := by decide +kernel
theorem dX1_writeImage_4 : decode cX1_writeImage 4 = .ok (.iload_n 1, 1) := by decide +kernel
theorem dX1_writeImage_5 : decode cX1_writeImage 5 = .ok (.invokestatic 52, 3) := by decide +kernel
theorem dX1_writeImage_8 : decode cX1_writeImage 8 = .ok (.ifCond .ne 4, 3) := by decide +kernel
theorem dX1_writeImage_11 : decode cX1_writeImage 11 = .ok (.return_, 1) := by decide +kernel
theorem dX1_writeImage_12 : decode cX1_writeImage 12 = .ok (.iconst 0, 1) := by decide +kernel
theorem dX1_writeImage_13 : decode cX1_writeImage 13 = .ok (.istore 4, 2) := by decide +kernel
theorem dX1_writeImage_15 : decode cX1_writeImage 15 = .ok (.iload 4, 2) := by decide +kernel
theorem dX1_writeImage_17 : decode cX1_writeImage 17 = .ok (.aload_n 0, 1) := by decide +kernel
theorem dX1_writeImage_18 : decode cX1_writeImage 18 = .ok (.getfield 15, 3) := by decide +kernel
theorem dX1_writeImage_21 : decode cX1_writeImage 21 = .ok (.iload_n 1, 1) := by decide +kernel
theorem dX1_writeImage_22 : decode cX1_writeImage 22 = .ok (.iaload, 1) := by decide +kernel
theorem dX1_writeImage_23 : decode cX1_writeImage 23 = .ok (.if_icmp .ge 27, 3) := by decide +kernel
theorem dX1_writeImage_26 : decode cX1_writeImage 26 = .ok (.aload_n 3, 1) := by decide +kernel
theorem dX1_writeImage_27 : decode cX1_writeImage 27 = .ok (.aload_n 2, 1) := by decide +kernel
theorem dX1_writeImage_28 : decode cX1_writeImage 28 = .ok (.aload_n 0, 1) := by decide +kernel
theorem dX1_writeImage_29 : decode cX1_writeImage 29 = .ok (.getfield 9, 3) := by decide +kernel
theorem dX1_writeImage_32 : decode cX1_writeImage 32 = .ok (.iload_n 1, 1) := by decide +kernel
theorem dX1_writeImage_33 : decode cX1_writeImage 33 = .ok (.iaload, 1) := by decide +kernel
theorem dX1_writeImage_34 : decode cX1_writeImage 34 = .ok (.iload 4, 2) := by decide +kernel
theorem dX1_writeImage_36 : decode cX1_writeImage 36 = .ok (.iadd, 1) := by decide +kernel
theorem dX1_writeImage_37 : decode cX1_writeImage 37 = .ok (.invokevirtual 55, 3) := by decide +kernel
theorem dX1_writeImage_40 : decode cX1_writeImage 40 = .ok (.invokevirtual 59, 3) := by decide +kernel
theorem dX1_writeImage_43 : decode cX1_writeImage 43 = .ok (.pop, 1) := by decide +kernel
theorem dX1_writeImage_44 : decode cX1_writeImage 44 = .ok (.iinc 4 1, 3) := by decide +kernel
theorem dX1_writeImage_47 : decode cX1_writeImage 47 = .ok (.goto (-32), 3) := by decide +kernel
theorem dX1_writeImage_50 : decode cX1_writeImage 50 = .ok (.return_, 1) := by decide +kernel
theorem dX1_prepare_0 : decode cX1_prepare 0 = .ok (.aload_n 0, 1) := by decide +kernel
theorem dX1_prepare_1 : decode cX1_prepare 1 = .ok (.iload_n 2, 1) := by decide +kernel
theorem dX1_prepare_2 : decode cX1_prepare 2 = .ok (.iconst 1, 1) := by decide +kernel
theorem dX1_prepare_3 : decode cX1_prepare 3 = .ok (.if_icmp .ne 7, 3) := by decide +kernel
theorem dX1_prepare_6 : decode cX1_prepare 6 = .ok (.iconst 0, 1) := by decide +kernel
theorem dX1_prepare_7 : decode cX1_prepare 7 = .ok (.goto 4, 3) := by decide +kernel
theorem dX1_prepare_10 : decode cX1_prepare 10 = .ok (.iconst 1, 1) := by decide +kernel
theorem dX1_prepare_11 : decode cX1_prepare 11 = .ok (.putfield 62, 3) := by decide +kernel
theorem dX1_prepare_14 : decode cX1_prepare 14 = .ok (.aload_n 0, 1) := by decide +kernel
theorem dX1_prepare_15 : decode cX1_prepare 15 = .ok (.iconst 0, 1) := by decide +kernel
theorem dX1_prepare_16 : decode cX1_prepare 16 = .ok (.putfield 65, 3) := by decide +kernel
theorem dX1_prepare_19 : decode cX1_prepare 19 = .ok (.iconst 0, 1) := by decide +kernel
theorem dX1_prepare_20 : decode cX1_prepare 20 = .ok (.istore_n 3, 1) := by decide +kernel
theorem dX1_prepare_21 : decode cX1_prepare 21 = .ok (.iload_n 3, 1) := by decide +kernel
theorem dX1_prepare_22 : decode cX1_prepare 22 = .ok (.iconst 4, 1) := by decide +kernel
theorem dX1_prepare_23 : decode cX1_prepare 23 = .ok (.if_icmp .ge 23, 3) := by decide +kernel
theorem dX1_prepare_26 : decode cX1_prepare 26 = .ok (.aload_n 0, 1) := by decide +kernel
theorem dX1_prepare_27 : decode cX1_prepare 27 = .ok (.getfield 15, 3) := by decide +kernel
theorem dX1_prepare_30 : decode cX1_prepare 30 = .ok (.iload_n 3, 1) := by decide +kernel
theorem dX1_prepare_31 : decode cX1_prepare 31 = .ok (.iconst (-1), 1) := by decide +kernel
theorem dX1_prepare_32 : decode cX1_prepare 32 = .ok (.iastore, 1) := by decide +kernel
theorem dX1_prepare_33 : decode cX1_prepare 33 = .ok (.aload_n 0, 1) := by decide +kernel
theorem dX1_prepare_34 : decode cX1_prepare 34 = .ok (.getfield 18, 3) := by decide +kernel
theorem dX1_prepare_37 : decode cX1_prepare 37 = .ok (.iload_n 3, 1) := by decide +kernel
theorem dX1_prepare_38 : decode cX1_prepare 38 = .ok (.iconst 0, 1) := by decide +kernel
theorem dX1_prepare_39 : decode cX1_prepare 39 = .ok (.iastore, 1) := by decide +kernel
theorem dX1_prepare_40 : decode cX1_prepare 40 = .ok (.iinc 3 1, 3) := by decide +kernel
theorem dX1_prepare_43 : decode cX1_prepare 43 = .ok (.goto (-22), 3) := by decide +kernel
theorem dX1_prepare_46 : decode cX1_prepare 46 = .ok (.iconst 0, 1) := by decide +kernel
theorem dX1_prepare_47 : decode cX1_prepare 47 = .ok (.istore_n 3, 1) := by decide +kernel
theorem dX1_prepare_48 : decode cX1_prepare 48 = .ok (.iconst 0, 1) := by decide +kernel
theorem dX1_prepare_49 : decode cX1_prepare 49 = .ok (.istore 4, 2) := by decide +kernel
theorem dX1_prepare_51 : decode cX1_prepare 51 = .ok (.iload 4, 2) := by decide +kernel
theorem dX1_prepare_53 : decode cX1_prepare 53 = .ok (.aload_n 1, 1) := by decide +kernel
theorem dX1_prepare_54 : decode cX1_prepare 54 = .ok (.getfield 25, 3) := by decide +kernel
theorem dX1_prepare_57 : decode cX1_prepare 57 = .ok (.if_icmp .ge 67, 3) := by decide +kernel
theorem dX1_prepare_60 : decode cX1_prepare 60 = .ok (.aload_n 1, 1) := by decide +kernel
theorem dX1_prepare_61 : decode cX1_prepare 61 = .ok (.iload 4, 2) := by decide +kernel
theorem dX1_prepare_63 : decode cX1_prepare 63 = .ok (.invokevirtual 55, 3) := by decide +kernel
theorem dX1_prepare_66 : decode cX1_prepare 66 = .ok (.bipush 10, 2) := by decide +kernel
theorem dX1_prepare_68 : decode cX1_prepare 68 = .ok (.isub, 1) := by decide +kernel
theorem dX1_prepare_69 : decode cX1_prepare 69 = .ok (.istore 5, 2) := by decide +kernel
theorem dX1_prepare_71 : decode cX1_prepare 71 = .ok (.iload 5, 2) := by decide +kernel
theorem dX1_prepare_73 : decode cX1_prepare 73 = .ok (.invokestatic 52, 3) := by decide +kernel
theorem dX1_prepare_76 : decode cX1_prepare 76 = .ok (.ifCond .eq 39, 3) := by decide +kernel
theorem dX1_prepare_79 : decode cX1_prepare 79 = .ok (.aload_n 0, 1) := by decide +kernel
theorem dX1_prepare_80 : decode cX1_prepare 80 = .ok (.getfield 18, 3) := by decide +kernel
theorem dX1_prepare_83 : decode cX1_prepare 83 = .ok (.iload 5, 2) := by decide +kernel
theorem dX1_prepare_85 : decode cX1_prepare 85 = .ok (.dup2, 1) := by decide +kernel
theorem dX1_prepare_86 : decode cX1_prepare 86 = .ok (.iaload, 1) := by decide +kernel
theorem dX1_prepare_87 : decode cX1_prepare 87 = .ok (.iconst 1, 1) := by decide +kernel
theorem dX1_prepare_88 : decode cX1_prepare 88 = .ok (.iadd, 1) := by decide +kernel
theorem dX1_prepare_89 : decode cX1_prepare 89 = .ok (.iastore, 1) := by decide +kernel
theorem dX1_prepare_90 : decode cX1_prepare 90 = .ok (.aload_n 0, 1) := by decide +kernel
theorem dX1_prepare_91 : decode cX1_prepare 91 = .ok (.aload_n 0, 1) := by decide +kernel
theorem dX1_prepare_92 : decode cX1_prepare 92 = .ok (.getfield 65, 3) := by decide +kernel
theorem dX1_prepare_95 : decode cX1_prepare 95 = .ok (.iload 5, 2) := by decide +kernel
theorem dX1_prepare_97 : decode cX1_prepare 97 = .ok (.iconst 1, 1) := by decide +kernel
theorem dX1_prepare_98 : decode cX1_prepare 98 = .ok (.iadd, 1) := by decide +kernel
theorem dX1_prepare_99 : decode cX1_prepare 99 = .ok (.invokestatic 68, 3) := by decide +kernel
theorem dX1_prepare_102 : decode cX1_prepare 102 = .ok (.putfield 65, 3) := by decide +kernel
theorem dX1_prepare_105 : decode cX1_prepare 105 = .ok (.iload_n 3, 1) := by decide +kernel
theorem dX1_prepare_106 : decode cX1_prepare 106 = .ok (.aload_n 0, 1) := by decide +kernel
theorem dX1_prepare_107 : decode cX1_prepare 107 = .ok (.getfield 62, 3) := by decide +kernel
theorem dX1_prepare_110 : decode cX1_prepare 110 = .ok (.iadd, 1) := by decide +kernel
theorem dX1_prepare_111 : decode cX1_prepare 111 = .ok (.istore_n 3, 1) := by decide +kernel
theorem dX1_prepare_112 : decode cX1_prepare 112 = .ok (.goto 6, 3) := by decide +kernel
theorem dX1_prepare_115 : decode cX1_prepare 115 = .ok (.iinc 3 1, 3) := by decide +kernel
theorem dX1_prepare_118 : decode cX1_prepare 118 = .ok (.iinc 4 1, 3) := by decide +kernel
theorem dX1_prepare_121 : decode cX1_prepare 121 = .ok (.goto (-70), 3) := by decide +kernel
theorem dX1_prepare_124 : decode cX1_prepare 124 = .ok (.iload_n 3, 1) := by decide +kernel
theorem dX1_prepare_125 : decode cX1_prepare 125 = .ok (.ireturn, 1) := by decide +kernel
theorem dX1_canComeOut_0 : decode cX1_canComeOut 0 = .ok (.iload_n 1, 1) := by decide +kernel
theorem dX1_canComeOut_1 : decode cX1_canComeOut 1 = .ok (.ifCond .lt 22, 3) := by decide +kernel
theorem dX1_canComeOut_4 : decode cX1_canComeOut 4 = .ok (.aload_n 0, 1) := by decide +kernel
theorem dX1_canComeOut_5 : decode cX1_canComeOut 5 = .ok (.getfield 65, 3) := by decide +kernel
theorem dX1_canComeOut_8 : decode cX1_canComeOut 8 = .ok (.ifCond .gt 11, 3) := by decide +kernel
theorem dX1_canComeOut_11 : decode cX1_canComeOut 11 = .ok (.iload_n 1, 1) := by decide +kernel
theorem dX1_canComeOut_12 : decode cX1_canComeOut 12 = .ok (.aload_n 0, 1) := by decide +kernel
theorem dX1_canComeOut_13 : decode cX1_canComeOut 13 = .ok (.getfield 35, 3) := by decide +kernel
theorem dX1_canComeOut_16 : decode cX1_canComeOut 16 = .ok (.if_icmp .gt 7, 3) := by decide +kernel
theorem dX1_canComeOut_19 : decode cX1_canComeOut 19 = .ok (.iconst 1, 1) := by decide +kernel
theorem dX1_canComeOut_20 : decode cX1_canComeOut 20 = .ok (.goto 4, 3) := by decide +kernel
theorem dX1_canComeOut_23 : decode cX1_canComeOut 23 = .ok (.iconst 0, 1) := by decide +kernel
theorem dX1_canComeOut_24 : decode cX1_canComeOut 24 = .ok (.ireturn, 1) := by decide +kernel
theorem dX1_count_0 : decode cX1_count 0 = .ok (.iload_n 2, 1) := by decide +kernel
theorem dX1_count_1 : decode cX1_count 1 = .ok (.aload_n 1, 1) := by decide +kernel
theorem dX1_count_2 : decode cX1_count 2 = .ok (.getfield 25, 3) := by decide +kernel
theorem dX1_count_5 : decode cX1_count 5 = .ok (.if_icmp .lt 18, 3) := by decide +kernel
theorem dX1_count_8 : decode cX1_count 8 = .ok (.iload 5, 2) := by decide +kernel
theorem dX1_count_10 : decode cX1_count 10 = .ok (.aload_n 0, 1) := by decide +kernel
theorem dX1_count_11 : decode cX1_count 11 = .ok (.getfield 35, 3) := by decide +kernel
theorem dX1_count_14 : decode cX1_count 14 = .ok (.if_icmp .gt 7, 3) := by decide +kernel
theorem dX1_count_17 : decode cX1_count 17 = .ok (.iconst 1, 1) := by decide +kernel
theorem dX1_count_18 : decode cX1_count 18 = .ok (.goto 4, 3) := by decide +kernel
theorem dX1_count_21 : decode cX1_count 21 = .ok (.iconst 0, 1) := by decide +kernel
theorem dX1_count_22 : decode cX1_count 22 = .ok (.ireturn, 1) := by decide +kernel
theorem dX1_count_23 : decode cX1_count 23 = .ok (.aload_n 1, 1) := by decide +kernel
theorem dX1_count_24 : decode cX1_count 24 = .ok (.iload_n 2, 1) := by decide +kernel
theorem dX1_count_25 : decode cX1_count 25 = .ok (.invokevirtual 55, 3) := by decide +kernel
theorem dX1_count_28 : decode cX1_count 28 = .ok (.istore 7, 2) := by decide +kernel
theorem dX1_count_30 : decode cX1_count 30 = .ok (.iload 7, 2) := by decide +kernel
theorem dX1_count_32 : decode cX1_count 32 = .ok (.bipush 10, 2) := by decide +kernel
theorem dX1_count_34 : decode cX1_count 34 = .ok (.isub, 1) := by decide +kernel
theorem dX1_count_35 : decode cX1_count 35 = .ok (.istore 8, 2) := by decide +kernel
theorem dX1_count_37 : decode cX1_count 37 = .ok (.iload 8, 2) := by decide +kernel
theorem dX1_count_39 : decode cX1_count 39 = .ok (.invokestatic 52, 3) := by decide +kernel
theorem dX1_count_42 : decode cX1_count 42 = .ok (.ifCond .ne 48, 3) := by decide +kernel
theorem dX1_count_45 : decode cX1_count 45 = .ok (.aload_n 3, 1) := by decide +kernel
theorem dX1_count_46 : decode cX1_count 46 = .ok (.iload 4, 2) := by decide +kernel
theorem dX1_count_48 : decode cX1_count 48 = .ok (.invokevirtual 55, 3) := by decide +kernel
theorem dX1_count_51 : decode cX1_count 51 = .ok (.iload 7, 2) := by decide +kernel
theorem dX1_count_53 : decode cX1_count 53 = .ok (.if_icmp .ne 7, 3) := by decide +kernel
theorem dX1_count_56 : decode cX1_count 56 = .ok (.iconst 1, 1) := by decide +kernel
theorem dX1_count_57 : decode cX1_count 57 = .ok (.goto 4, 3) := by decide +kernel
theorem dX1_count_60 : decode cX1_count 60 = .ok (.iconst 0, 1) := by decide +kernel
theorem dX1_count_61 : decode cX1_count 61 = .ok (.istore 9, 2) := by decide +kernel
theorem dX1_count_63 : decode cX1_count 63 = .ok (.iload 9, 2) := by decide +kernel
theorem dX1_count_65 : decode cX1_count 65 = .ok (.ifCond .eq 23, 3) := by decide +kernel
theorem dX1_count_68 : decode cX1_count 68 = .ok (.aload_n 0, 1) := by decide +kernel
theorem dX1_count_69 : decode cX1_count 69 = .ok (.aload_n 1, 1) := by decide +kernel
theorem dX1_count_70 : decode cX1_count 70 = .ok (.iload_n 2, 1) := by decide +kernel
theorem dX1_count_71 : decode cX1_count 71 = .ok (.iconst 1, 1) := by decide +kernel
theorem dX1_count_72 : decode cX1_count 72 = .ok (.iadd, 1) := by decide +kernel
theorem dX1_count_73 : decode cX1_count 73 = .ok (.aload_n 3, 1) := by decide +kernel
theorem dX1_count_74 : decode cX1_count 74 = .ok (.iload 4, 2) := by decide +kernel
theorem dX1_count_76 : decode cX1_count 76 = .ok (.iconst 1, 1) := by decide +kernel
theorem dX1_count_77 : decode cX1_count 77 = .ok (.iadd, 1) := by decide +kernel
theorem dX1_count_78 : decode cX1_count 78 = .ok (.iload 5, 2) := by decide +kernel
theorem dX1_count_80 : decode cX1_count 80 = .ok (.iload 6, 2) := by decide +kernel
theorem dX1_count_82 : decode cX1_count 82 = .ok (.invokevirtual 42, 3) := by decide +kernel
theorem dX1_count_85 : decode cX1_count 85 = .ok (.goto 4, 3) := by decide +kernel
theorem dX1_count_88 : decode cX1_count 88 = .ok (.iconst 0, 1) := by decide +kernel
theorem dX1_count_89 : decode cX1_count 89 = .ok (.ireturn, 1) := by decide +kernel
theorem dX1_count_90 : decode cX1_count 90 = .ok (.aload_n 0, 1) := by decide +kernel
theorem dX1_count_91 : decode cX1_count 91 = .ok (.getfield 15, 3) := by decide +kernel
theorem dX1_count_94 : decode cX1_count 94 = .ok (.iload 8, 2) := by decide +kernel
theorem dX1_count_96 : decode cX1_count 96 = .ok (.iaload, 1) := by decide +kernel
theorem dX1_count_97 : decode cX1_count 97 = .ok (.istore 9, 2) := by decide +kernel
theorem dX1_count_99 : decode cX1_count 99 = .ok (.iload 9, 2) := by decide +kernel
theorem dX1_count_101 : decode cX1_count 101 = .ok (.iconst (-1), 1) := by decide +kernel
theorem dX1_count_102 : decode cX1_count 102 = .ok (.if_icmp .ne 17, 3) := by decide +kernel
theorem dX1_count_105 : decode cX1_count 105 = .ok (.aload_n 0, 1) := by decide +kernel
theorem dX1_count_106 : decode cX1_count 106 = .ok (.aload_n 1, 1) := by decide +kernel
theorem dX1_count_107 : decode cX1_count 107 = .ok (.iload_n 2, 1) := by decide +kernel
theorem dX1_count_108 : decode cX1_count 108 = .ok (.aload_n 3, 1) := by decide +kernel
theorem dX1_count_109 : decode cX1_count 109 = .ok (.iload 4, 2) := by decide +kernel
theorem dX1_count_111 : decode cX1_count 111 = .ok (.iload 5, 2) := by decide +kernel
theorem dX1_count_113 : decode cX1_count 113 = .ok (.iload 6, 2) := by decide +kernel
theorem dX1_count_115 : decode cX1_count 115 = .ok (.invokevirtual 74, 3) := by decide +kernel
theorem dX1_count_118 : decode cX1_count 118 = .ok (.ireturn, 1) := by decide +kernel
theorem dX1_count_119 : decode cX1_count 119 = .ok (.aload_n 3, 1) := by decide +kernel
theorem dX1_count_120 : decode cX1_count 120 = .ok (.aload_n 0, 1) := by decide +kernel
theorem dX1_count_121 : decode cX1_count 121 = .ok (.getfield 9, 3) := by decide +kernel
theorem dX1_count_124 : decode cX1_count 124 = .ok (.iload 8, 2) := by decide +kernel
theorem dX1_count_126 : decode cX1_count 126 = .ok (.iaload, 1) := by decide +kernel
theorem dX1_count_127 : decode cX1_count 127 = .ok (.iload 4, 2) := by decide +kernel
theorem dX1_count_129 : decode cX1_count 129 = .ok (.iload 9, 2) := by decide +kernel
theorem dX1_count_131 : decode cX1_count 131 = .ok (.invokestatic 77, 3) := by decide +kernel
theorem dX1_count_134 : decode cX1_count 134 = .ok (.istore 10, 2) := by decide +kernel
theorem dX1_count_136 : decode cX1_count 136 = .ok (.iload 10, 2) := by decide +kernel
theorem dX1_count_138 : decode cX1_count 138 = .ok (.ifCond .eq 24, 3) := by decide +kernel
theorem dX1_count_141 : decode cX1_count 141 = .ok (.aload_n 0, 1) := by decide +kernel
theorem dX1_count_142 : decode cX1_count 142 = .ok (.aload_n 1, 1) := by decide +kernel
theorem dX1_count_143 : decode cX1_count 143 = .ok (.iload_n 2, 1) := by decide +kernel
theorem dX1_count_144 : decode cX1_count 144 = .ok (.iconst 1, 1) := by decide +kernel
theorem dX1_count_145 : decode cX1_count 145 = .ok (.iadd, 1) := by decide +kernel
theorem dX1_count_146 : decode cX1_count 146 = .ok (.aload_n 3, 1) := by decide +kernel
theorem dX1_count_147 : decode cX1_count 147 = .ok (.iload 4, 2) := by decide +kernel
theorem dX1_count_149 : decode cX1_count 149 = .ok (.iload 9, 2) := by decide +kernel
theorem dX1_count_151 : decode cX1_count 151 = .ok (.iadd, 1) := by decide +kernel
theorem dX1_count_152 : decode cX1_count 152 = .ok (.iload 5, 2) := by decide +kernel
theorem dX1_count_154 : decode cX1_count 154 = .ok (.iload 6, 2) := by decide +kernel
theorem dX1_count_156 : decode cX1_count 156 = .ok (.invokevirtual 42, 3) := by decide +kernel
theorem dX1_count_159 : decode cX1_count 159 = .ok (.goto 4, 3) := by decide +kernel
theorem dX1_count_162 : decode cX1_count 162 = .ok (.iconst 0, 1) := by decide +kernel
theorem dX1_count_163 : decode cX1_count 163 = .ok (.ireturn, 1) := by decide +kernel
theorem dX1_countBindings_0 : decode cX1_countBindings 0 = .ok (.aload_n 1, 1) := by decide +kernel
theorem dX1_countBindings_1 : decode cX1_countBindings 1 = .ok (.iload_n 2, 1) := by decide +kernel
theorem dX1_countBindings_2 : decode cX1_countBindings 2 = .ok (.invokevirtual 55, 3) := by decide +kernel
theorem dX1_countBindings_5 : decode cX1_countBindings 5 = .ok (.bipush 10, 2) := by decide +kernel
theorem dX1_countBindings_7 : decode cX1_countBindings 7 = .ok (.isub, 1) := by decide +kernel
theorem dX1_countBindings_8 : decode cX1_countBindings 8 = .ok (.istore 7, 2) := by decide +kernel
theorem dX1_countBindings_10 : decode cX1_countBindings 10 = .ok (.iload 7, 2) := by decide +kernel
theorem dX1_countBindings_12 : decode cX1_countBindings 12 = .ok (.invokestatic 52, 3) := by decide +kernel
theorem dX1_countBindings_15 : decode cX1_countBindings 15 = .ok (.ifCond .eq 14, 3) := by decide +kernel
theorem dX1_countBindings_18 : decode cX1_countBindings 18 = .ok (.aload_n 0, 1) := by decide +kernel
theorem dX1_countBindings_19 : decode cX1_countBindings 19 = .ok (.getfield 18, 3) := by decide +kernel
theorem dX1_countBindings_22 : decode cX1_countBindings 22 = .ok (.iload 7, 2) := by decide +kernel
theorem dX1_countBindings_24 : decode cX1_countBindings 24 = .ok (.iaload, 1) := by decide +kernel
theorem dX1_countBindings_25 : decode cX1_countBindings 25 = .ok (.iconst 1, 1) := by decide +kernel
theorem dX1_countBindings_26 : decode cX1_countBindings 26 = .ok (.if_icmp .ge 5, 3) := by decide +kernel
theorem dX1_countBindings_29 : decode cX1_countBindings 29 = .ok (.iconst 0, 1) := by decide +kernel
theorem dX1_countBindings_30 : decode cX1_countBindings 30 = .ok (.ireturn, 1) := by decide +kernel
theorem dX1_countBindings_31 : decode cX1_countBindings 31 = .ok (.iload 7, 2) := by decide +kernel
theorem dX1_countBindings_33 : decode cX1_countBindings 33 = .ok (.aload_n 0, 1) := by decide +kernel
theorem dX1_countBindings_34 : decode cX1_countBindings 34 = .ok (.getfield 65, 3) := by decide +kernel
theorem dX1_countBindings_37 : decode cX1_countBindings 37 = .ok (.iconst 1, 1) := by decide +kernel
theorem dX1_countBindings_38 : decode cX1_countBindings 38 = .ok (.isub, 1) := by decide +kernel
theorem dX1_countBindings_39 : decode cX1_countBindings 39 = .ok (.if_icmp .ne 7, 3) := by decide +kernel
theorem dX1_countBindings_42 : decode cX1_countBindings 42 = .ok (.iconst 1, 1) := by decide +kernel
theorem dX1_countBindings_43 : decode cX1_countBindings 43 = .ok (.goto 4, 3) := by decide +kernel
theorem dX1_countBindings_46 : decode cX1_countBindings 46 = .ok (.iconst 0, 1) := by decide +kernel
theorem dX1_countBindings_47 : decode cX1_countBindings 47 = .ok (.istore 8, 2) := by decide +kernel
theorem dX1_countBindings_49 : decode cX1_countBindings 49 = .ok (.iload 5, 2) := by decide +kernel
theorem dX1_countBindings_51 : decode cX1_countBindings 51 = .ok (.aload_n 0, 1) := by decide +kernel
theorem dX1_countBindings_52 : decode cX1_countBindings 52 = .ok (.getfield 18, 3) := by decide +kernel
theorem dX1_countBindings_55 : decode cX1_countBindings 55 = .ok (.iload 7, 2) := by decide +kernel
theorem dX1_countBindings_57 : decode cX1_countBindings 57 = .ok (.iaload, 1) := by decide +kernel
theorem dX1_countBindings_58 : decode cX1_countBindings 58 = .ok (.idiv, 1) := by decide +kernel
theorem dX1_countBindings_59 : decode cX1_countBindings 59 = .ok (.istore 9, 2) := by decide +kernel
theorem dX1_countBindings_61 : decode cX1_countBindings 61 = .ok (.iconst 0, 1) := by decide +kernel
theorem dX1_countBindings_62 : decode cX1_countBindings 62 = .ok (.istore 10, 2) := by decide +kernel
theorem dX1_countBindings_64 : decode cX1_countBindings 64 = .ok (.aload_n 0, 1) := by decide +kernel
theorem dX1_countBindings_65 : decode cX1_countBindings 65 = .ok (.getfield 9, 3) := by decide +kernel
theorem dX1_countBindings_68 : decode cX1_countBindings 68 = .ok (.iload 7, 2) := by decide +kernel
theorem dX1_countBindings_70 : decode cX1_countBindings 70 = .ok (.iload 4, 2) := by decide +kernel
theorem dX1_countBindings_72 : decode cX1_countBindings 72 = .ok (.iastore, 1) := by decide +kernel
theorem dX1_countBindings_73 : decode cX1_countBindings 73 = .ok (.iconst 0, 1) := by decide +kernel
theorem dX1_countBindings_74 : decode cX1_countBindings 74 = .ok (.istore 11, 2) := by decide +kernel
theorem dX1_countBindings_76 : decode cX1_countBindings 76 = .ok (.iload 11, 2) := by decide +kernel
theorem dX1_countBindings_78 : decode cX1_countBindings 78 = .ok (.iload 9, 2) := by decide +kernel
theorem dX1_countBindings_80 : decode cX1_countBindings 80 = .ok (.if_icmp .gt 89, 3) := by decide +kernel
theorem dX1_countBindings_83 : decode cX1_countBindings 83 = .ok (.iload 10, 2) := by decide +kernel
theorem dX1_countBindings_85 : decode cX1_countBindings 85 = .ok (.iload 6, 2) := by decide +kernel
theorem dX1_countBindings_87 : decode cX1_countBindings 87 = .ok (.if_icmp .ge 82, 3) := by decide +kernel
theorem dX1_countBindings_90 : decode cX1_countBindings 90 = .ok (.iload 5, 2) := by decide +kernel
theorem dX1_countBindings_92 : decode cX1_countBindings 92 = .ok (.iload 11, 2) := by decide +kernel
theorem dX1_countBindings_94 : decode cX1_countBindings 94 = .ok (.aload_n 0, 1) := by decide +kernel
theorem dX1_countBindings_95 : decode cX1_countBindings 95 = .ok (.getfield 18, 3) := by decide +kernel
theorem dX1_countBindings_98 : decode cX1_countBindings 98 = .ok (.iload 7, 2) := by decide +kernel
theorem dX1_countBindings_100 : decode cX1_countBindings 100 = .ok (.iaload, 1) := by decide +kernel
theorem dX1_countBindings_101 : decode cX1_countBindings 101 = .ok (.imul, 1) := by decide +kernel
theorem dX1_countBindings_102 : decode cX1_countBindings 102 = .ok (.isub, 1) := by decide +kernel
theorem dX1_countBindings_103 : decode cX1_countBindings 103 = .ok (.istore 12, 2) := by decide +kernel
theorem dX1_countBindings_105 : decode cX1_countBindings 105 = .ok (.iload 8, 2) := by decide +kernel
theorem dX1_countBindings_107 : decode cX1_countBindings 107 = .ok (.ifCond .eq 12, 3) := by decide +kernel
theorem dX1_countBindings_110 : decode cX1_countBindings 110 = .ok (.iload 12, 2) := by decide +kernel
theorem dX1_countBindings_112 : decode cX1_countBindings 112 = .ok (.aload_n 0, 1) := by decide +kernel
theorem dX1_countBindings_113 : decode cX1_countBindings 113 = .ok (.getfield 35, 3) := by decide +kernel
theorem dX1_countBindings_116 : decode cX1_countBindings 116 = .ok (.if_icmp .gt 47, 3) := by decide +kernel
theorem dX1_countBindings_119 : decode cX1_countBindings 119 = .ok (.aload_n 0, 1) := by decide +kernel
theorem dX1_countBindings_120 : decode cX1_countBindings 120 = .ok (.getfield 62, 3) := by decide +kernel
theorem dX1_countBindings_123 : decode cX1_countBindings 123 = .ok (.iload 11, 2) := by decide +kernel
theorem dX1_countBindings_125 : decode cX1_countBindings 125 = .ok (.iadd, 1) := by decide +kernel
theorem dX1_countBindings_126 : decode cX1_countBindings 126 = .ok (.istore 13, 2) := by decide +kernel
theorem dX1_countBindings_128 : decode cX1_countBindings 128 = .ok (.aload_n 0, 1) := by decide +kernel
theorem dX1_countBindings_129 : decode cX1_countBindings 129 = .ok (.getfield 15, 3) := by decide +kernel
theorem dX1_countBindings_132 : decode cX1_countBindings 132 = .ok (.iload 7, 2) := by decide +kernel
theorem dX1_countBindings_134 : decode cX1_countBindings 134 = .ok (.iload 13, 2) := by decide +kernel
theorem dX1_countBindings_136 : decode cX1_countBindings 136 = .ok (.iastore, 1) := by decide +kernel
theorem dX1_countBindings_137 : decode cX1_countBindings 137 = .ok (.iload 10, 2) := by decide +kernel
theorem dX1_countBindings_139 : decode cX1_countBindings 139 = .ok (.aload_n 0, 1) := by decide +kernel
theorem dX1_countBindings_140 : decode cX1_countBindings 140 = .ok (.aload_n 1, 1) := by decide +kernel
theorem dX1_countBindings_141 : decode cX1_countBindings 141 = .ok (.iload_n 2, 1) := by decide +kernel
theorem dX1_countBindings_142 : decode cX1_countBindings 142 = .ok (.iconst 1, 1) := by decide +kernel
theorem dX1_countBindings_143 : decode cX1_countBindings 143 = .ok (.iadd, 1) := by decide +kernel
theorem dX1_countBindings_144 : decode cX1_countBindings 144 = .ok (.aload_n 3, 1) := by decide +kernel
theorem dX1_countBindings_145 : decode cX1_countBindings 145 = .ok (.iload 4, 2) := by decide +kernel
theorem dX1_countBindings_147 : decode cX1_countBindings 147 = .ok (.iload 13, 2) := by decide +kernel
theorem dX1_countBindings_149 : decode cX1_countBindings 149 = .ok (.iadd, 1) := by decide +kernel
theorem dX1_countBindings_150 : decode cX1_countBindings 150 = .ok (.iload 12, 2) := by decide +kernel
theorem dX1_countBindings_152 : decode cX1_countBindings 152 = .ok (.iload 6, 2) := by decide +kernel
theorem dX1_countBindings_154 : decode cX1_countBindings 154 = .ok (.iload 10, 2) := by decide +kernel
theorem dX1_countBindings_156 : decode cX1_countBindings 156 = .ok (.isub, 1) := by decide +kernel
theorem dX1_countBindings_157 : decode cX1_countBindings 157 = .ok (.invokevirtual 42, 3) := by decide +kernel
theorem dX1_countBindings_160 : decode cX1_countBindings 160 = .ok (.iadd, 1) := by decide +kernel
theorem dX1_countBindings_161 : decode cX1_countBindings 161 = .ok (.istore 10, 2) := by decide +kernel
theorem dX1_countBindings_163 : decode cX1_countBindings 163 = .ok (.iinc 11 1, 3) := by decide +kernel
theorem dX1_countBindings_166 : decode cX1_countBindings 166 = .ok (.goto (-90), 3) := by decide +kernel
theorem dX1_countBindings_169 : decode cX1_countBindings 169 = .ok (.iload 10, 2) := by decide +kernel
theorem dX1_countBindings_171 : decode cX1_countBindings 171 = .ok (.iload 6, 2) := by decide +kernel
theorem dX1_countBindings_173 : decode cX1_countBindings 173 = .ok (.if_icmp .ge 11, 3) := by decide +kernel
theorem dX1_countBindings_176 : decode cX1_countBindings 176 = .ok (.aload_n 0, 1) := by decide +kernel
theorem dX1_countBindings_177 : decode cX1_countBindings 177 = .ok (.getfield 15, 3) := by decide +kernel
theorem dX1_countBindings_180 : decode cX1_countBindings 180 = .ok (.iload 7, 2) := by decide +kernel
theorem dX1_countBindings_182 : decode cX1_countBindings 182 = .ok (.iconst (-1), 1) := by decide +kernel
theorem dX1_countBindings_183 : decode cX1_countBindings 183 = .ok (.iastore, 1) := by decide +kernel
theorem dX1_countBindings_184 : decode cX1_countBindings 184 = .ok (.iload 10, 2) := by decide +kernel
theorem dX1_countBindings_186 : decode cX1_countBindings 186 = .ok (.ireturn, 1) := by decide +kernel
theorem dX1_isSame_0 : decode cX1_isSame 0 = .ok (.iconst 0, 1) := by decide +kernel
theorem dX1_isSame_1 : decode cX1_isSame 1 = .ok (.istore 4, 2) := by decide +kernel
theorem dX1_isSame_3 : decode cX1_isSame 3 = .ok (.iload 4, 2) := by decide +kernel
theorem dX1_isSame_5 : decode cX1_isSame 5 = .ok (.iload_n 3, 1) := by decide +kernel
theorem dX1_isSame_6 : decode cX1_isSame 6 = .ok (.if_icmp .ge 30, 3) := by decide +kernel
theorem dX1_isSame_9 : decode cX1_isSame 9 = .ok (.aload_n 0, 1) := by decide +kernel
theorem dX1_isSame_10 : decode cX1_isSame 10 = .ok (.iload_n 1, 1) := by decide +kernel
theorem dX1_isSame_11 : decode cX1_isSame 11 = .ok (.iload 4, 2) := by decide +kernel
theorem dX1_isSame_13 : decode cX1_isSame 13 = .ok (.iadd, 1) := by decide +kernel
theorem dX1_isSame_14 : decode cX1_isSame 14 = .ok (.invokevirtual 55, 3) := by decide +kernel
theorem dX1_isSame_17 : decode cX1_isSame 17 = .ok (.aload_n 0, 1) := by decide +kernel
theorem dX1_isSame_18 : decode cX1_isSame 18 = .ok (.iload_n 2, 1) := by decide +kernel
theorem dX1_isSame_19 : decode cX1_isSame 19 = .ok (.iload 4, 2) := by decide +kernel
theorem dX1_isSame_21 : decode cX1_isSame 21 = .ok (.iadd, 1) := by decide +kernel
theorem dX1_isSame_22 : decode cX1_isSame 22 = .ok (.invokevirtual 55, 3) := by decide +kernel
theorem dX1_isSame_25 : decode cX1_isSame 25 = .ok (.if_icmp .eq 5, 3) := by decide +kernel
theorem dX1_isSame_28 : decode cX1_isSame 28 = .ok (.iconst 0, 1) := by decide +kernel
theorem dX1_isSame_29 : decode cX1_isSame 29 = .ok (.ireturn, 1) := by decide +kernel
theorem dX1_isSame_30 : decode cX1_isSame 30 = .ok (.iinc 4 1, 3) := by decide +kernel
theorem dX1_isSame_33 : decode cX1_isSame 33 = .ok (.goto (-30), 3) := by decide +kernel
theorem dX1_isSame_36 : decode cX1_isSame 36 = .ok (.iconst 1, 1) := by decide +kernel
theorem dX1_isSame_37 : decode cX1_isSame 37 = .ok (.ireturn, 1) := by decide +kernel
theorem dX2_init_0 : decode cX2_init 0 = .ok (.aload_n 0, 1) := by decide +kernel
theorem dX2_init_1 : decode cX2_init 1 = .ok (.invokespecial 3, 3) := by decide +kernel
theorem dX2_init_4 : decode cX2_init 4 = .ok (.aload_n 0, 1) := by decide +kernel
theorem dX2_init_5 : decode cX2_init 5 = .ok (.iconst 0, 1) := by decide +kernel
theorem dX2_init_6 : decode cX2_init 6 = .ok (.putfield 9, 3) := by decide +kernel
theorem dX2_init_9 : decode cX2_init 9 = .ok (.aload_n 0, 1) := by decide +kernel
theorem dX2_init_10 : decode cX2_init 10 = .ok (.iload_n 1, 1) := by decide +kernel
theorem dX2_init_11 : decode cX2_init 11 = .ok (.iconst 0, 1) := by decide +kernel
theorem dX2_init_12 : decode cX2_init 12 = .ok (.invokestatic 15, 3) := by decide +kernel
theorem dX2_init_15 : decode cX2_init 15 = .ok (.newarray .int, 2) := by decide +kernel
theorem dX2_init_17 : decode cX2_init 17 = .ok (.putfield 21, 3) := by decide +kernel
theorem dX2_init_20 : decode cX2_init 20 = .ok (.return_, 1) := by decide +kernel
theorem dX2_hasIndex_0 : decode cX2_hasIndex 0 = .ok (.iload_n 1, 1) := by decide +kernel
theorem dX2_hasIndex_1 : decode cX2_hasIndex 1 = .ok (.ifCond .lt 24, 3) := by decide +kernel
theorem dX2_hasIndex_4 : decode cX2_hasIndex 4 = .ok (.iload_n 1, 1) := by decide +kernel
theorem dX2_hasIndex_5 : decode cX2_hasIndex 5 = .ok (.aload_n 0, 1) := by decide +kernel
theorem dX2_hasIndex_6 : decode cX2_hasIndex 6 = .ok (.getfield 9, 3) := by decide +kernel
theorem dX2_hasIndex_9 : decode cX2_hasIndex 9 = .ok (.if_icmp .ge 16, 3) := by decide +kernel
theorem dX2_hasIndex_12 : decode cX2_hasIndex 12 = .ok (.iload_n 1, 1) := by decide +kernel
theorem dX2_hasIndex_13 : decode cX2_hasIndex 13 = .ok (.aload_n 0, 1) := by decide +kernel
theorem dX2_hasIndex_14 : decode cX2_hasIndex 14 = .ok (.getfield 21, 3) := by decide +kernel
theorem dX2_hasIndex_17 : decode cX2_hasIndex 17 = .ok (.arraylength, 1) := by decide +kernel
theorem dX2_hasIndex_18 : decode cX2_hasIndex 18 = .ok (.if_icmp .ge 7, 3) := by decide +kernel
theorem dX2_hasIndex_21 : decode cX2_hasIndex 21 = .ok (.iconst 1, 1) := by decide +kernel
theorem dX2_hasIndex_22 : decode cX2_hasIndex 22 = .ok (.goto 4, 3) := by decide +kernel
theorem dX2_hasIndex_25 : decode cX2_hasIndex 25 = .ok (.iconst 0, 1) := by decide +kernel
theorem dX2_hasIndex_26 : decode cX2_hasIndex 26 = .ok (.ireturn, 1) := by decide +kernel
theorem dX2_hasRange_0 : decode cX2_hasRange 0 = .ok (.iload_n 1, 1) := by decide +kernel
theorem dX2_hasRange_1 : decode cX2_hasRange 1 = .ok (.ifCond .lt 29, 3) := by decide +kernel
theorem dX2_hasRange_4 : decode cX2_hasRange 4 = .ok (.iload_n 1, 1) := by decide +kernel
theorem dX2_hasRange_5 : decode cX2_hasRange 5 = .ok (.aload_n 0, 1) := by decide +kernel
theorem dX2_hasRange_6 : decode cX2_hasRange 6 = .ok (.getfield 9, 3) := by decide +kernel
theorem dX2_hasRange_9 : decode cX2_hasRange 9 = .ok (.if_icmp .gt 21, 3) := by decide +kernel
theorem dX2_hasRange_12 : decode cX2_hasRange 12 = .ok (.iload_n 2, 1) := by decide +kernel
theorem dX2_hasRange_13 : decode cX2_hasRange 13 = .ok (.ifCond .lt 17, 3) := by decide +kernel
theorem dX2_hasRange_16 : decode cX2_hasRange 16 = .ok (.iload_n 2, 1) := by decide +kernel
theorem dX2_hasRange_17 : decode cX2_hasRange 17 = .ok (.aload_n 0, 1) := by decide +kernel
theorem dX2_hasRange_18 : decode cX2_hasRange 18 = .ok (.getfield 9, 3) := by decide +kernel
theorem dX2_hasRange_21 : decode cX2_hasRange 21 = .ok (.iload_n 1, 1) := by decide +kernel
theorem dX2_hasRange_22 : decode cX2_hasRange 22 = .ok (.isub, 1) := by decide +kernel
theorem dX2_hasRange_23 : decode cX2_hasRange 23 = .ok (.if_icmp .gt 7, 3) := by decide +kernel
theorem dX2_hasRange_26 : decode cX2_hasRange 26 = .ok (.iconst 1, 1) := by decide +kernel
theorem dX2_hasRange_27 : decode cX2_hasRange 27 = .ok (.goto 4, 3) := by decide +kernel
theorem dX2_hasRange_30 : decode cX2_hasRange 30 = .ok (.iconst 0, 1) := by decide +kernel
theorem dX2_hasRange_31 : decode cX2_hasRange 31 = .ok (.ireturn, 1) := by decide +kernel
theorem dX2_at_0 : decode cX2_at 0 = .ok (.iload_n 1, 1) := by decide +kernel
theorem dX2_at_1 : decode cX2_at 1 = .ok (.ifCond .lt 24, 3) := by decide +kernel
theorem dX2_at_4 : decode cX2_at 4 = .ok (.iload_n 1, 1) := by decide +kernel
theorem dX2_at_5 : decode cX2_at 5 = .ok (.aload_n 0, 1) := by decide +kernel
theorem dX2_at_6 : decode cX2_at 6 = .ok (.getfield 9, 3) := by decide +kernel
theorem dX2_at_9 : decode cX2_at 9 = .ok (.if_icmp .ge 16, 3) := by decide +kernel
theorem dX2_at_12 : decode cX2_at 12 = .ok (.iload_n 1, 1) := by decide +kernel
theorem dX2_at_13 : decode cX2_at 13 = .ok (.aload_n 0, 1) := by decide +kernel
theorem dX2_at_14 : decode cX2_at 14 = .ok (.getfield 21, 3) := by decide +kernel
theorem dX2_at_17 : decode cX2_at 17 = .ok (.arraylength, 1) := by decide +kernel
theorem dX2_at_18 : decode cX2_at 18 = .ok (.if_icmp .ge 7, 3) := by decide +kernel
theorem dX2_at_21 : decode cX2_at 21 = .ok (.iconst 1, 1) := by decide +kernel
theorem dX2_at_22 : decode cX2_at 22 = .ok (.goto 4, 3) := by decide +kernel
theorem dX2_at_25 : decode cX2_at 25 = .ok (.iconst 0, 1) := by decide +kernel
theorem dX2_at_26 : decode cX2_at 26 = .ok (.istore_n 2, 1) := by decide +kernel
theorem dX2_at_27 : decode cX2_at 27 = .ok (.iload_n 2, 1) := by decide +kernel
theorem dX2_at_28 : decode cX2_at 28 = .ok (.ifCond .eq 12, 3) := by decide +kernel
theorem dX2_at_31 : decode cX2_at 31 = .ok (.aload_n 0, 1) := by decide +kernel
theorem dX2_at_32 : decode cX2_at 32 = .ok (.getfield 21, 3) := by decide +kernel
theorem dX2_at_35 : decode cX2_at 35 = .ok (.iload_n 1, 1) := by decide +kernel
theorem dX2_at_36 : decode cX2_at 36 = .ok (.iaload, 1) := by decide +kernel
theorem dX2_at_37 : decode cX2_at 37 = .ok (.goto 4, 3) := by decide +kernel
theorem dX2_at_40 : decode cX2_at 40 = .ok (.iconst (-1), 1) := by decide +kernel
theorem dX2_at_41 : decode cX2_at 41 = .ok (.ireturn, 1) := by decide +kernel
theorem dX2_put_0 : decode cX2_put 0 = .ok (.aload_n 0, 1) := by decide +kernel
theorem dX2_put_1 : decode cX2_put 1 = .ok (.iload_n 1, 1) := by decide +kernel
theorem dX2_put_2 : decode cX2_put 2 = .ok (.invokevirtual 25, 3) := by decide +kernel
theorem dX2_put_5 : decode cX2_put 5 = .ok (.ifCond .eq 10, 3) := by decide +kernel
theorem dX2_put_8 : decode cX2_put 8 = .ok (.aload_n 0, 1) := by decide +kernel
theorem dX2_put_9 : decode cX2_put 9 = .ok (.getfield 21, 3) := by decide +kernel
theorem dX2_put_12 : decode cX2_put 12 = .ok (.iload_n 1, 1) := by decide +kernel
theorem dX2_put_13 : decode cX2_put 13 = .ok (.iload_n 2, 1) := by decide +kernel
theorem dX2_put_14 : decode cX2_put 14 = .ok (.iastore, 1) := by decide +kernel
theorem dX2_put_15 : decode cX2_put 15 = .ok (.return_, 1) := by decide +kernel
theorem dX2_add_0 : decode cX2_add 0 = .ok (.aload_n 0, 1) := by decide +kernel
theorem dX2_add_1 : decode cX2_add 1 = .ok (.getfield 9, 3) := by decide +kernel
theorem dX2_add_4 : decode cX2_add 4 = .ok (.ifCond .lt 15, 3) := by decide +kernel
theorem dX2_add_7 : decode cX2_add 7 = .ok (.aload_n 0, 1) := by decide +kernel
theorem dX2_add_8 : decode cX2_add 8 = .ok (.getfield 9, 3) := by decide +kernel
theorem dX2_add_11 : decode cX2_add 11 = .ok (.aload_n 0, 1) := by decide +kernel
theorem dX2_add_12 : decode cX2_add 12 = .ok (.getfield 21, 3) := by decide +kernel
theorem dX2_add_15 : decode cX2_add 15 = .ok (.arraylength, 1) := by decide +kernel
theorem dX2_add_16 : decode cX2_add 16 = .ok (.if_icmp .lt 5, 3) := by decide +kernel
theorem dX2_add_19 : decode cX2_add 19 = .ok (.iconst 0, 1) := by decide +kernel
theorem dX2_add_20 : decode cX2_add 20 = .ok (.ireturn, 1) := by decide +kernel
theorem dX2_add_21 : decode cX2_add 21 = .ok (.aload_n 0, 1) := by decide +kernel
theorem dX2_add_22 : decode cX2_add 22 = .ok (.getfield 21, 3) := by decide +kernel
theorem dX2_add_25 : decode cX2_add 25 = .ok (.aload_n 0, 1) := by decide +kernel
theorem dX2_add_26 : decode cX2_add 26 = .ok (.getfield 9, 3) := by decide +kernel
theorem dX2_add_29 : decode cX2_add 29 = .ok (.iload_n 1, 1) := by decide +kernel
theorem dX2_add_30 : decode cX2_add 30 = .ok (.iastore, 1) := by decide +kernel
theorem dX2_add_31 : decode cX2_add 31 = .ok (.aload_n 0, 1) := by decide +kernel
theorem dX2_add_32 : decode cX2_add 32 = .ok (.dup, 1) := by decide +kernel
theorem dX2_add_33 : decode cX2_add 33 = .ok (.getfield 9, 3) := by decide +kernel
theorem dX2_add_36 : decode cX2_add 36 = .ok (.iconst 1, 1) := by decide +kernel
theorem dX2_add_37 : decode cX2_add 37 = .ok (.iadd, 1) := by decide +kernel
theorem dX2_add_38 : decode cX2_add 38 = .ok (.putfield 9, 3) := by decide +kernel
theorem dX2_add_41 : decode cX2_add 41 = .ok (.iconst 1, 1) := by decide +kernel
theorem dX2_add_42 : decode cX2_add 42 = .ok (.ireturn, 1) := by decide +kernel
theorem dX2_addAll_0 : decode cX2_addAll 0 = .ok (.iconst 1, 1) := by decide +kernel
theorem dX2_addAll_1 : decode cX2_addAll 1 = .ok (.istore_n 2, 1) := by decide +kernel
theorem dX2_addAll_2 : decode cX2_addAll 2 = .ok (.iconst 0, 1) := by decide +kernel
theorem dX2_addAll_3 : decode cX2_addAll 3 = .ok (.istore_n 3, 1) := by decide +kernel
theorem dX2_addAll_4 : decode cX2_addAll 4 = .ok (.iload_n 3, 1) := by decide +kernel
theorem dX2_addAll_5 : decode cX2_addAll 5 = .ok (.aload_n 1, 1) := by decide +kernel
theorem dX2_addAll_6 : decode cX2_addAll 6 = .ok (.getfield 9, 3) := by decide +kernel
theorem dX2_addAll_9 : decode cX2_addAll 9 = .ok (.if_icmp .ge 23, 3) := by decide +kernel
theorem dX2_addAll_12 : decode cX2_addAll 12 = .ok (.iload_n 2, 1) := by decide +kernel
theorem dX2_addAll_13 : decode cX2_addAll 13 = .ok (.ifCond .eq 19, 3) := by decide +kernel
theorem dX2_addAll_16 : decode cX2_addAll 16 = .ok (.aload_n 0, 1) := by decide +kernel
theorem dX2_addAll_17 : decode cX2_addAll 17 = .ok (.aload_n 1, 1) := by decide +kernel
theorem dX2_addAll_18 : decode cX2_addAll 18 = .ok (.iload_n 3, 1) := by decide +kernel
theorem dX2_addAll_19 : decode cX2_addAll 19 = .ok (.invokevirtual 29, 3) := by decide +kernel
theorem dX2_addAll_22 : decode cX2_addAll 22 = .ok (.invokevirtual 33, 3) := by decide +kernel
theorem dX2_addAll_25 : decode cX2_addAll 25 = .ok (.istore_n 2, 1) := by decide +kernel
theorem dX2_addAll_26 : decode cX2_addAll 26 = .ok (.iinc 3 1, 3) := by decide +kernel
theorem dX2_addAll_29 : decode cX2_addAll 29 = .ok (.goto (-25), 3) := by decide +kernel
theorem dX2_addAll_32 : decode cX2_addAll 32 = .ok (.iload_n 2, 1) := by decide +kernel
theorem dX2_addAll_33 : decode cX2_addAll 33 = .ok (.ireturn, 1) := by decide +kernel
theorem dX2_removeLast_0 : decode cX2_removeLast 0 = .ok (.aload_n 0, 1) := by decide +kernel
theorem dX2_removeLast_1 : decode cX2_removeLast 1 = .ok (.getfield 9, 3) := by decide +kernel
theorem dX2_removeLast_4 : decode cX2_removeLast 4 = .ok (.ifCond .le 13, 3) := by decide +kernel
theorem dX2_removeLast_7 : decode cX2_removeLast 7 = .ok (.aload_n 0, 1) := by decide +kernel
theorem dX2_removeLast_8 : decode cX2_removeLast 8 = .ok (.dup, 1) := by decide +kernel
theorem dX2_removeLast_9 : decode cX2_removeLast 9 = .ok (.getfield 9, 3) := by decide +kernel
theorem dX2_removeLast_12 : decode cX2_removeLast 12 = .ok (.iconst 1, 1) := by decide +kernel
theorem dX2_removeLast_13 : decode cX2_removeLast 13 = .ok (.isub, 1) := by decide +kernel
theorem dX2_removeLast_14 : decode cX2_removeLast 14 = .ok (.putfield 9, 3) := by decide +kernel
theorem dX2_removeLast_17 : decode cX2_removeLast 17 = .ok (.return_, 1) := by decide +kernel
theorem dX2_clear_0 : decode cX2_clear 0 = .ok (.aload_n 0, 1) := by decide +kernel
theorem dX2_clear_1 : decode cX2_clear 1 = .ok (.iconst 0, 1) := by decide +kernel
theorem dX2_clear_2 : decode cX2_clear 2 = .ok (.putfield 9, 3) := by decide +kernel
theorem dX2_clear_5 : decode cX2_clear 5 = .ok (.return_, 1) := by decide +kernel
theorem dX2_setTo_0 : decode cX2_setTo 0 = .ok (.aload_n 1, 1) := by decide +kernel
theorem dX2_setTo_1 : decode cX2_setTo 1 = .ok (.getfield 9, 3) := by decide +kernel
theorem dX2_setTo_4 : decode cX2_setTo 4 = .ok (.aload_n 0, 1) := by decide +kernel
theorem dX2_setTo_5 : decode cX2_setTo 5 = .ok (.getfield 21, 3) := by decide +kernel
theorem dX2_setTo_8 : decode cX2_setTo 8 = .ok (.arraylength, 1) := by decide +kernel
theorem dX2_setTo_9 : decode cX2_setTo 9 = .ok (.invokestatic 36, 3) := by decide +kernel
theorem dX2_setTo_12 : decode cX2_setTo 12 = .ok (.istore_n 2, 1) := by decide +kernel
theorem dX2_setTo_13 : decode cX2_setTo 13 = .ok (.iconst 0, 1) := by decide +kernel
theorem dX2_setTo_14 : decode cX2_setTo 14 = .ok (.istore_n 3, 1) := by decide +kernel
theorem dX2_setTo_15 : decode cX2_setTo 15 = .ok (.iload_n 3, 1) := by decide +kernel
theorem dX2_setTo_16 : decode cX2_setTo 16 = .ok (.iload_n 2, 1) := by decide +kernel
theorem dX2_setTo_17 : decode cX2_setTo 17 = .ok (.if_icmp .ge 20, 3) := by decide +kernel
theorem dX2_setTo_20 : decode cX2_setTo 20 = .ok (.aload_n 0, 1) := by decide +kernel
theorem dX2_setTo_21 : decode cX2_setTo 21 = .ok (.getfield 21, 3) := by decide +kernel
theorem dX2_setTo_24 : decode cX2_setTo 24 = .ok (.iload_n 3, 1) := by decide +kernel
theorem dX2_setTo_25 : decode cX2_setTo 25 = .ok (.aload_n 1, 1) := by decide +kernel
theorem dX2_setTo_26 : decode cX2_setTo 26 = .ok (.iload_n 3, 1) := by decide +kernel
theorem dX2_setTo_27 : decode cX2_setTo 27 = .ok (.invokevirtual 29, 3) := by decide +kernel
theorem dX2_setTo_30 : decode cX2_setTo 30 = .ok (.iastore, 1) := by decide +kernel
theorem dX2_setTo_31 : decode cX2_setTo 31 = .ok (.iinc 3 1, 3) := by decide +kernel
theorem dX2_setTo_34 : decode cX2_setTo 34 = .ok (.goto (-19), 3) := by decide +kernel
theorem dX2_setTo_37 : decode cX2_setTo 37 = .ok (.aload_n 0, 1) := by decide +kernel
theorem dX2_setTo_38 : decode cX2_setTo 38 = .ok (.iload_n 2, 1) := by decide +kernel
theorem dX2_setTo_39 : decode cX2_setTo 39 = .ok (.putfield 9, 3) := by decide +kernel
theorem dX2_setTo_42 : decode cX2_setTo 42 = .ok (.return_, 1) := by decide +kernel
theorem dX2_fillWith_0 : decode cX2_fillWith 0 = .ok (.aload_n 0, 1) := by decide +kernel
theorem dX2_fillWith_1 : decode cX2_fillWith 1 = .ok (.invokevirtual 39, 3) := by decide +kernel
theorem dX2_fillWith_4 : decode cX2_fillWith 4 = .ok (.iconst 0, 1) := by decide +kernel
theorem dX2_fillWith_5 : decode cX2_fillWith 5 = .ok (.istore_n 3, 1) := by decide +kernel
theorem dX2_fillWith_6 : decode cX2_fillWith 6 = .ok (.iload_n 3, 1) := by decide +kernel
theorem dX2_fillWith_7 : decode cX2_fillWith 7 = .ok (.iload_n 2, 1) := by decide +kernel
theorem dX2_fillWith_8 : decode cX2_fillWith 8 = .ok (.if_icmp .ge 15, 3) := by decide +kernel
theorem dX2_fillWith_11 : decode cX2_fillWith 11 = .ok (.aload_n 0, 1) := by decide +kernel
theorem dX2_fillWith_12 : decode cX2_fillWith 12 = .ok (.iload_n 1, 1) := by decide +kernel
theorem dX2_fillWith_13 : decode cX2_fillWith 13 = .ok (.invokevirtual 33, 3) := by decide +kernel
theorem dX2_fillWith_16 : decode cX2_fillWith 16 = .ok (.pop, 1) := by decide +kernel
theorem dX2_fillWith_17 : decode cX2_fillWith 17 = .ok (.iinc 3 1, 3) := by decide +kernel
theorem dX2_fillWith_20 : decode cX2_fillWith 20 = .ok (.goto (-14), 3) := by decide +kernel
theorem dX2_fillWith_23 : decode cX2_fillWith 23 = .ok (.return_, 1) := by decide +kernel
theorem dX2_countOf_0 : decode cX2_countOf 0 = .ok (.iconst 0, 1) := by decide +kernel
theorem dX2_countOf_1 : decode cX2_countOf 1 = .ok (.istore_n 2, 1) := by decide +kernel
theorem dX2_countOf_2 : decode cX2_countOf 2 = .ok (.iconst 0, 1) := by decide +kernel
theorem dX2_countOf_3 : decode cX2_countOf 3 = .ok (.istore_n 3, 1) := by decide +kernel
theorem dX2_countOf_4 : decode cX2_countOf 4 = .ok (.iload_n 3, 1) := by decide +kernel
theorem dX2_countOf_5 : decode cX2_countOf 5 = .ok (.aload_n 0, 1) := by decide +kernel
theorem dX2_countOf_6 : decode cX2_countOf 6 = .ok (.getfield 9, 3) := by decide +kernel
theorem dX2_countOf_9 : decode cX2_countOf 9 = .ok (.if_icmp .ge 21, 3) := by decide +kernel
theorem dX2_countOf_12 : decode cX2_countOf 12 = .ok (.aload_n 0, 1) := by decide +kernel
theorem dX2_countOf_13 : decode cX2_countOf 13 = .ok (.iload_n 3, 1) := by decide +kernel
theorem dX2_countOf_14 : decode cX2_countOf 14 = .ok (.invokevirtual 29, 3) := by decide +kernel
theorem dX2_countOf_17 : decode cX2_countOf 17 = .ok (.iload_n 1, 1) := by decide +kernel
theorem dX2_countOf_18 : decode cX2_countOf 18 = .ok (.if_icmp .ne 6, 3) := by decide +kernel
theorem dX2_countOf_21 : decode cX2_countOf 21 = .ok (.iinc 2 1, 3) := by decide +kernel
theorem dX2_countOf_24 : decode cX2_countOf 24 = .ok (.iinc 3 1, 3) := by decide +kernel
theorem dX2_countOf_27 : decode cX2_countOf 27 = .ok (.goto (-23), 3) := by decide +kernel
theorem dX2_countOf_30 : decode cX2_countOf 30 = .ok (.iload_n 2, 1) := by decide +kernel
theorem dX2_countOf_31 : decode cX2_countOf 31 = .ok (.ireturn, 1) := by decide +kernel
theorem dX2_letterCount_0 : decode cX2_letterCount 0 = .ok (.iconst 0, 1) := by decide +kernel
theorem dX2_letterCount_1 : decode cX2_letterCount 1 = .ok (.istore_n 1, 1) := by decide +kernel
theorem dX2_letterCount_2 : decode cX2_letterCount 2 = .ok (.iconst 0, 1) := by decide +kernel
theorem dX2_letterCount_3 : decode cX2_letterCount 3 = .ok (.istore_n 2, 1) := by decide +kernel
theorem dX2_letterCount_4 : decode cX2_letterCount 4 = .ok (.iload_n 2, 1) := by decide +kernel
theorem dX2_letterCount_5 : decode cX2_letterCount 5 = .ok (.aload_n 0, 1) := by decide +kernel
theorem dX2_letterCount_6 : decode cX2_letterCount 6 = .ok (.getfield 9, 3) := by decide +kernel
theorem dX2_letterCount_9 : decode cX2_letterCount 9 = .ok (.if_icmp .ge 22, 3) := by decide +kernel
theorem dX2_letterCount_12 : decode cX2_letterCount 12 = .ok (.aload_n 0, 1) := by decide +kernel
theorem dX2_letterCount_13 : decode cX2_letterCount 13 = .ok (.iload_n 2, 1) := by decide +kernel
theorem dX2_letterCount_14 : decode cX2_letterCount 14 = .ok (.invokevirtual 29, 3) := by decide +kernel
theorem dX2_letterCount_17 : decode cX2_letterCount 17 = .ok (.bipush 10, 2) := by decide +kernel
theorem dX2_letterCount_19 : decode cX2_letterCount 19 = .ok (.if_icmp .ge 6, 3) := by decide +kernel
theorem dX2_letterCount_22 : decode cX2_letterCount 22 = .ok (.iinc 1 1, 3) := by decide +kernel
theorem dX2_letterCount_25 : decode cX2_letterCount 25 = .ok (.iinc 2 1, 3) := by decide +kernel
theorem dX2_letterCount_28 : decode cX2_letterCount 28 = .ok (.goto (-24), 3) := by decide +kernel
theorem dX2_letterCount_31 : decode cX2_letterCount 31 = .ok (.iload_n 1, 1) := by decide +kernel
theorem dX2_letterCount_32 : decode cX2_letterCount 32 = .ok (.ireturn, 1) := by decide +kernel
theorem dX2_variablesIn_0 : decode cX2_variablesIn 0 = .ok (.iconst 0, 1) := by decide +kernel
theorem dX2_variablesIn_1 : decode cX2_variablesIn 1 = .ok (.istore_n 1, 1) := by decide +kernel
theorem dX2_variablesIn_2 : decode cX2_variablesIn 2 = .ok (.iconst 0, 1) := by decide +kernel
theorem dX2_variablesIn_3 : decode cX2_variablesIn 3 = .ok (.istore_n 2, 1) := by decide +kernel
theorem dX2_variablesIn_4 : decode cX2_variablesIn 4 = .ok (.iload_n 2, 1) := by decide +kernel
theorem dX2_variablesIn_5 : decode cX2_variablesIn 5 = .ok (.aload_n 0, 1) := by decide +kernel
theorem dX2_variablesIn_6 : decode cX2_variablesIn 6 = .ok (.getfield 9, 3) := by decide +kernel
theorem dX2_variablesIn_9 : decode cX2_variablesIn 9 = .ok (.if_icmp .ge 24, 3) := by decide +kernel
theorem dX2_variablesIn_12 : decode cX2_variablesIn 12 = .ok (.iload_n 1, 1) := by decide +kernel
theorem dX2_variablesIn_13 : decode cX2_variablesIn 13 = .ok (.aload_n 0, 1) := by decide +kernel
theorem dX2_variablesIn_14 : decode cX2_variablesIn 14 = .ok (.iload_n 2, 1) := by decide +kernel
theorem dX2_variablesIn_15 : decode cX2_variablesIn 15 = .ok (.invokevirtual 29, 3) := by decide +kernel
theorem dX2_variablesIn_18 : decode cX2_variablesIn 18 = .ok (.bipush 10, 2) := by decide +kernel
theorem dX2_variablesIn_20 : decode cX2_variablesIn 20 = .ok (.isub, 1) := by decide +kernel
theorem dX2_variablesIn_21 : decode cX2_variablesIn 21 = .ok (.iconst 1, 1) := by decide +kernel
theorem dX2_variablesIn_22 : decode cX2_variablesIn 22 = .ok (.iadd, 1) := by decide +kernel
theorem dX2_variablesIn_23 : decode cX2_variablesIn 23 = .ok (.invokestatic 15, 3) := by decide +kernel
theorem dX2_variablesIn_26 : decode cX2_variablesIn 26 = .ok (.istore_n 1, 1) := by decide +kernel
theorem dX2_variablesIn_27 : decode cX2_variablesIn 27 = .ok (.iinc 2 1, 3) := by decide +kernel
theorem dX2_variablesIn_30 : decode cX2_variablesIn 30 = .ok (.goto (-26), 3) := by decide +kernel
theorem dX2_variablesIn_33 : decode cX2_variablesIn 33 = .ok (.iload_n 1, 1) := by decide +kernel
theorem dX2_variablesIn_34 : decode cX2_variablesIn 34 = .ok (.ireturn, 1) := by decide +kernel
theorem dX2_putForCodes_0 : decode cX2_putForCodes 0 = .ok (.iconst 0, 1) := by decide +kernel
theorem dX2_putForCodes_1 : decode cX2_putForCodes 1 = .ok (.istore 4, 2) := by decide +kernel
theorem dX2_putForCodes_3 : decode cX2_putForCodes 3 = .ok (.iload 4, 2) := by decide +kernel
theorem dX2_putForCodes_5 : decode cX2_putForCodes 5 = .ok (.aload_n 0, 1) := by decide +kernel
theorem dX2_putForCodes_6 : decode cX2_putForCodes 6 = .ok (.getfield 9, 3) := by decide +kernel
theorem dX2_putForCodes_9 : decode cX2_putForCodes 9 = .ok (.if_icmp .ge 36, 3) := by decide +kernel
theorem dX2_putForCodes_12 : decode cX2_putForCodes 12 = .ok (.aload_n 0, 1) := by decide +kernel
theorem dX2_putForCodes_13 : decode cX2_putForCodes 13 = .ok (.iload 4, 2) := by decide +kernel
theorem dX2_putForCodes_15 : decode cX2_putForCodes 15 = .ok (.invokevirtual 29, 3) := by decide +kernel
theorem dX2_putForCodes_18 : decode cX2_putForCodes 18 = .ok (.iload_n 1, 1) := by decide +kernel
theorem dX2_putForCodes_19 : decode cX2_putForCodes 19 = .ok (.if_icmp .lt 20, 3) := by decide +kernel
theorem dX2_putForCodes_22 : decode cX2_putForCodes 22 = .ok (.aload_n 0, 1) := by decide +kernel
theorem dX2_putForCodes_23 : decode cX2_putForCodes 23 = .ok (.iload 4, 2) := by decide +kernel
theorem dX2_putForCodes_25 : decode cX2_putForCodes 25 = .ok (.invokevirtual 29, 3) := by decide +kernel
theorem dX2_putForCodes_28 : decode cX2_putForCodes 28 = .ok (.iload_n 2, 1) := by decide +kernel
theorem dX2_putForCodes_29 : decode cX2_putForCodes 29 = .ok (.if_icmp .gt 10, 3) := by decide +kernel
theorem dX2_putForCodes_32 : decode cX2_putForCodes 32 = .ok (.aload_n 0, 1) := by decide +kernel
theorem dX2_putForCodes_33 : decode cX2_putForCodes 33 = .ok (.iload 4, 2) := by decide +kernel
theorem dX2_putForCodes_35 : decode cX2_putForCodes 35 = .ok (.iload_n 3, 1) := by decide +kernel
theorem dX2_putForCodes_36 : decode cX2_putForCodes 36 = .ok (.invokevirtual 42, 3) := by decide +kernel
theorem dX2_putForCodes_39 : decode cX2_putForCodes 39 = .ok (.iinc 4 1, 3) := by decide +kernel
theorem dX2_putForCodes_42 : decode cX2_putForCodes 42 = .ok (.goto (-39), 3) := by decide +kernel
theorem dX2_putForCodes_45 : decode cX2_putForCodes 45 = .ok (.return_, 1) := by decide +kernel
theorem dX2_exchange_0 : decode cX2_exchange 0 = .ok (.iconst 0, 1) := by decide +kernel
theorem dX2_exchange_1 : decode cX2_exchange 1 = .ok (.istore_n 3, 1) := by decide +kernel
theorem dX2_exchange_2 : decode cX2_exchange 2 = .ok (.iload_n 3, 1) := by decide +kernel
theorem dX2_exchange_3 : decode cX2_exchange 3 = .ok (.aload_n 0, 1) := by decide +kernel
theorem dX2_exchange_4 : decode cX2_exchange 4 = .ok (.getfield 9, 3) := by decide +kernel
theorem dX2_exchange_7 : decode cX2_exchange 7 = .ok (.if_icmp .ge 42, 3) := by decide +kernel
theorem dX2_exchange_10 : decode cX2_exchange 10 = .ok (.aload_n 0, 1) := by decide +kernel
theorem dX2_exchange_11 : decode cX2_exchange 11 = .ok (.iload_n 3, 1) := by decide +kernel
theorem dX2_exchange_12 : decode cX2_exchange 12 = .ok (.invokevirtual 29, 3) := by decide +kernel
theorem dX2_exchange_15 : decode cX2_exchange 15 = .ok (.iload_n 1, 1) := by decide +kernel
theorem dX2_exchange_16 : decode cX2_exchange 16 = .ok (.if_icmp .ne 12, 3) := by decide +kernel
theorem dX2_exchange_19 : decode cX2_exchange 19 = .ok (.aload_n 0, 1) := by decide +kernel
theorem dX2_exchange_20 : decode cX2_exchange 20 = .ok (.iload_n 3, 1) := by decide +kernel
theorem dX2_exchange_21 : decode cX2_exchange 21 = .ok (.iload_n 2, 1) := by decide +kernel
theorem dX2_exchange_22 : decode cX2_exchange 22 = .ok (.invokevirtual 42, 3) := by decide +kernel
theorem dX2_exchange_25 : decode cX2_exchange 25 = .ok (.goto 18, 3) := by decide +kernel
theorem dX2_exchange_28 : decode cX2_exchange 28 = .ok (.aload_n 0, 1) := by decide +kernel
theorem dX2_exchange_29 : decode cX2_exchange 29 = .ok (.iload_n 3, 1) := by decide +kernel
theorem dX2_exchange_30 : decode cX2_exchange 30 = .ok (.invokevirtual 29, 3) := by decide +kernel
theorem dX2_exchange_33 : decode cX2_exchange 33 = .ok (.iload_n 2, 1) := by decide +kernel
theorem dX2_exchange_34 : decode cX2_exchange 34 = .ok (.if_icmp .ne 9, 3) := by decide +kernel
theorem dX2_exchange_37 : decode cX2_exchange 37 = .ok (.aload_n 0, 1) := by decide +kernel
theorem dX2_exchange_38 : decode cX2_exchange 38 = .ok (.iload_n 3, 1) := by decide +kernel
theorem dX2_exchange_39 : decode cX2_exchange 39 = .ok (.iload_n 1, 1) := by decide +kernel
theorem dX2_exchange_40 : decode cX2_exchange 40 = .ok (.invokevirtual 42, 3) := by decide +kernel
theorem dX2_exchange_43 : decode cX2_exchange 43 = .ok (.iinc 3 1, 3) := by decide +kernel
theorem dX2_exchange_46 : decode cX2_exchange 46 = .ok (.goto (-44), 3) := by decide +kernel
theorem dX2_exchange_49 : decode cX2_exchange 49 = .ok (.return_, 1) := by decide +kernel
theorem dX2_turnAround_0 : decode cX2_turnAround 0 = .ok (.iconst 0, 1) := by decide +kernel
theorem dX2_turnAround_1 : decode cX2_turnAround 1 = .ok (.istore_n 1, 1) := by decide +kernel
theorem dX2_turnAround_2 : decode cX2_turnAround 2 = .ok (.aload_n 0, 1) := by decide +kernel
theorem dX2_turnAround_3 : decode cX2_turnAround 3 = .ok (.getfield 9, 3) := by decide +kernel
theorem dX2_turnAround_6 : decode cX2_turnAround 6 = .ok (.iconst 1, 1) := by decide +kernel
theorem dX2_turnAround_7 : decode cX2_turnAround 7 = .ok (.isub, 1) := by decide +kernel
theorem dX2_turnAround_8 : decode cX2_turnAround 8 = .ok (.istore_n 2, 1) := by decide +kernel
theorem dX2_turnAround_9 : decode cX2_turnAround 9 = .ok (.iload_n 1, 1) := by decide +kernel
theorem dX2_turnAround_10 : decode cX2_turnAround 10 = .ok (.iload_n 2, 1) := by decide +kernel
theorem dX2_turnAround_11 : decode cX2_turnAround 11 = .ok (.if_icmp .ge 34, 3) := by decide +kernel
theorem dX2_turnAround_14 : decode cX2_turnAround 14 = .ok (.aload_n 0, 1) := by decide +kernel
theorem dX2_turnAround_15 : decode cX2_turnAround 15 = .ok (.iload_n 1, 1) := by decide +kernel
theorem dX2_turnAround_16 : decode cX2_turnAround 16 = .ok (.invokevirtual 29, 3) := by decide +kernel
theorem dX2_turnAround_19 : decode cX2_turnAround 19 = .ok (.istore_n 3, 1) := by decide +kernel
theorem dX2_turnAround_20 : decode cX2_turnAround 20 = .ok (.aload_n 0, 1) := by decide +kernel
theorem dX2_turnAround_21 : decode cX2_turnAround 21 = .ok (.iload_n 1, 1) := by decide +kernel
theorem dX2_turnAround_22 : decode cX2_turnAround 22 = .ok (.aload_n 0, 1) := by decide +kernel
theorem dX2_turnAround_23 : decode cX2_turnAround 23 = .ok (.iload_n 2, 1) := by decide +kernel
theorem dX2_turnAround_24 : decode cX2_turnAround 24 = .ok (.invokevirtual 29, 3) := by decide +kernel
theorem dX2_turnAround_27 : decode cX2_turnAround 27 = .ok (.invokevirtual 42, 3) := by decide +kernel
theorem dX2_turnAround_30 : decode cX2_turnAround 30 = .ok (.aload_n 0, 1) := by decide +kernel
theorem dX2_turnAround_31 : decode cX2_turnAround 31 = .ok (.iload_n 2, 1) := by decide +kernel
theorem dX2_turnAround_32 : decode cX2_turnAround 32 = .ok (.iload_n 3, 1) := by decide +kernel
theorem dX2_turnAround_33 : decode cX2_turnAround 33 = .ok (.invokevirtual 42, 3) := by decide +kernel
theorem dX2_turnAround_36 : decode cX2_turnAround 36 = .ok (.iinc 1 1, 3) := by decide +kernel
theorem dX2_turnAround_39 : decode cX2_turnAround 39 = .ok (.iinc 2 (-1), 3) := by decide +kernel
theorem dX2_turnAround_42 : decode cX2_turnAround 42 = .ok (.goto (-33), 3) := by decide +kernel
theorem dX2_turnAround_45 : decode cX2_turnAround 45 = .ok (.return_, 1) := by decide +kernel
theorem dX2_makeCanonical_0 : decode cX2_makeCanonical 0 = .ok (.bipush 10, 2) := by decide +kernel
theorem dX2_makeCanonical_2 : decode cX2_makeCanonical 2 = .ok (.istore_n 1, 1) := by decide +kernel
theorem dX2_makeCanonical_3 : decode cX2_makeCanonical 3 = .ok (.iconst 0, 1) := by decide +kernel
theorem dX2_makeCanonical_4 : decode cX2_makeCanonical 4 = .ok (.istore_n 2, 1) := by decide +kernel
theorem dX2_makeCanonical_5 : decode cX2_makeCanonical 5 = .ok (.iload_n 2, 1) := by decide +kernel
theorem dX2_makeCanonical_6 : decode cX2_makeCanonical 6 = .ok (.aload_n 0, 1) := by decide +kernel
theorem dX2_makeCanonical_7 : decode cX2_makeCanonical 7 = .ok (.getfield 9, 3) := by decide +kernel
theorem dX2_makeCanonical_10 : decode cX2_makeCanonical 10 = .ok (.if_icmp .ge 40, 3) := by decide +kernel
theorem dX2_makeCanonical_13 : decode cX2_makeCanonical 13 = .ok (.aload_n 0, 1) := by decide +kernel
theorem dX2_makeCanonical_14 : decode cX2_makeCanonical 14 = .ok (.iload_n 2, 1) := by decide +kernel
theorem dX2_makeCanonical_15 : decode cX2_makeCanonical 15 = .ok (.invokevirtual 29, 3) := by decide +kernel
theorem dX2_makeCanonical_18 : decode cX2_makeCanonical 18 = .ok (.iload_n 1, 1) := by decide +kernel
theorem dX2_makeCanonical_19 : decode cX2_makeCanonical 19 = .ok (.if_icmp .le 13, 3) := by decide +kernel
theorem dX2_makeCanonical_22 : decode cX2_makeCanonical 22 = .ok (.aload_n 0, 1) := by decide +kernel
theorem dX2_makeCanonical_23 : decode cX2_makeCanonical 23 = .ok (.aload_n 0, 1) := by decide +kernel
theorem dX2_makeCanonical_24 : decode cX2_makeCanonical 24 = .ok (.iload_n 2, 1) := by decide +kernel
theorem dX2_makeCanonical_25 : decode cX2_makeCanonical 25 = .ok (.invokevirtual 29, 3) := by decide +kernel
theorem dX2_makeCanonical_28 : decode cX2_makeCanonical 28 = .ok (.iload_n 1, 1) := by decide +kernel
theorem dX2_makeCanonical_29 : decode cX2_makeCanonical 29 = .ok (.invokevirtual 46, 3) := by decide +kernel
theorem dX2_makeCanonical_32 : decode cX2_makeCanonical 32 = .ok (.aload_n 0, 1) := by decide +kernel
theorem dX2_makeCanonical_33 : decode cX2_makeCanonical 33 = .ok (.iload_n 2, 1) := by decide +kernel
theorem dX2_makeCanonical_34 : decode cX2_makeCanonical 34 = .ok (.invokevirtual 29, 3) := by decide +kernel
theorem dX2_makeCanonical_37 : decode cX2_makeCanonical 37 = .ok (.iload_n 1, 1) := by decide +kernel
theorem dX2_makeCanonical_38 : decode cX2_makeCanonical 38 = .ok (.if_icmp .ne 6, 3) := by decide +kernel
theorem dX2_makeCanonical_41 : decode cX2_makeCanonical 41 = .ok (.iinc 1 1, 3) := by decide +kernel
theorem dX2_makeCanonical_44 : decode cX2_makeCanonical 44 = .ok (.iinc 2 1, 3) := by decide +kernel
theorem dX2_makeCanonical_47 : decode cX2_makeCanonical 47 = .ok (.goto (-42), 3) := by decide +kernel
theorem dX2_makeCanonical_50 : decode cX2_makeCanonical 50 = .ok (.return_, 1) := by decide +kernel
theorem dX2_wordCode_0 : decode cX2_wordCode 0 = .ok (.lconst 0, 1) := by decide +kernel
theorem dX2_wordCode_1 : decode cX2_wordCode 1 = .ok (.lstore_n 1, 1) := by decide +kernel
theorem dX2_wordCode_2 : decode cX2_wordCode 2 = .ok (.lconst 1, 1) := by decide +kernel
theorem dX2_wordCode_3 : decode cX2_wordCode 3 = .ok (.lstore_n 3, 1) := by decide +kernel
theorem dX2_wordCode_4 : decode cX2_wordCode 4 = .ok (.iconst 0, 1) := by decide +kernel
theorem dX2_wordCode_5 : decode cX2_wordCode 5 = .ok (.istore 5, 2) := by decide +kernel
theorem dX2_wordCode_7 : decode cX2_wordCode 7 = .ok (.iload 5, 2) := by decide +kernel
theorem dX2_wordCode_9 : decode cX2_wordCode 9 = .ok (.aload_n 0, 1) := by decide +kernel
theorem dX2_wordCode_10 : decode cX2_wordCode 10 = .ok (.getfield 9, 3) := by decide +kernel
theorem dX2_wordCode_13 : decode cX2_wordCode 13 = .ok (.if_icmp .ge 29, 3) := by decide +kernel
theorem dX2_wordCode_16 : decode cX2_wordCode 16 = .ok (.lload_n 1, 1) := by decide +kernel
theorem dX2_wordCode_17 : decode cX2_wordCode 17 = .ok (.aload_n 0, 1) := by decide +kernel
theorem dX2_wordCode_18 : decode cX2_wordCode 18 = .ok (.iload 5, 2) := by decide +kernel
theorem dX2_wordCode_20 : decode cX2_wordCode 20 = .ok (.invokevirtual 29, 3) := by decide +kernel
theorem dX2_wordCode_23 : decode cX2_wordCode 23 = .ok (.iconst 1, 1) := by decide +kernel
theorem dX2_wordCode_24 : decode cX2_wordCode 24 = .ok (.iadd, 1) := by decide +kernel
theorem dX2_wordCode_25 : decode cX2_wordCode 25 = .ok (.i2l, 1) := by decide +kernel
theorem dX2_wordCode_26 : decode cX2_wordCode 26 = .ok (.lload_n 3, 1) := by decide +kernel
theorem dX2_wordCode_27 : decode cX2_wordCode 27 = .ok (.lmul, 1) := by decide +kernel
theorem dX2_wordCode_28 : decode cX2_wordCode 28 = .ok (.ladd, 1) := by decide +kernel
theorem dX2_wordCode_29 : decode cX2_wordCode 29 = .ok (.lstore_n 1, 1) := by decide +kernel
theorem dX2_wordCode_30 : decode cX2_wordCode 30 = .ok (.lload_n 3, 1) := by decide +kernel
theorem dX2_wordCode_31 : decode cX2_wordCode 31 = .ok (.ldc2_w 49, 3) := by decide +kernel
theorem dX2_wordCode_34 : decode cX2_wordCode 34 = .ok (.lmul, 1) := by decide +kernel
theorem dX2_wordCode_35 : decode cX2_wordCode 35 = .ok (.lstore_n 3, 1) := by decide +kernel
theorem dX2_wordCode_36 : decode cX2_wordCode 36 = .ok (.iinc 5 1, 3) := by decide +kernel
theorem dX2_wordCode_39 : decode cX2_wordCode 39 = .ok (.goto (-32), 3) := by decide +kernel
theorem dX2_wordCode_42 : decode cX2_wordCode 42 = .ok (.lload_n 1, 1) := by decide +kernel
theorem dX2_wordCode_43 : decode cX2_wordCode 43 = .ok (.lreturn, 1) := by decide +kernel
theorem dX2_advance_0 : decode cX2_advance 0 = .ok (.aload_n 0, 1) := by decide +kernel
theorem dX2_advance_1 : decode cX2_advance 1 = .ok (.getfield 9, 3) := by decide +kernel
theorem dX2_advance_4 : decode cX2_advance 4 = .ok (.iconst 1, 1) := by decide +kernel
theorem dX2_advance_5 : decode cX2_advance 5 = .ok (.isub, 1) := by decide +kernel
theorem dX2_advance_6 : decode cX2_advance 6 = .ok (.istore_n 2, 1) := by decide +kernel
theorem dX2_advance_7 : decode cX2_advance 7 = .ok (.iload_n 2, 1) := by decide +kernel
theorem dX2_advance_8 : decode cX2_advance 8 = .ok (.ifCond .lt 39, 3) := by decide +kernel
theorem dX2_advance_11 : decode cX2_advance 11 = .ok (.aload_n 0, 1) := by decide +kernel
theorem dX2_advance_12 : decode cX2_advance 12 = .ok (.iload_n 2, 1) := by decide +kernel
theorem dX2_advance_13 : decode cX2_advance 13 = .ok (.invokevirtual 29, 3) := by decide +kernel
theorem dX2_advance_16 : decode cX2_advance 16 = .ok (.iconst 1, 1) := by decide +kernel
theorem dX2_advance_17 : decode cX2_advance 17 = .ok (.iadd, 1) := by decide +kernel
theorem dX2_advance_18 : decode cX2_advance 18 = .ok (.iload_n 1, 1) := by decide +kernel
theorem dX2_advance_19 : decode cX2_advance 19 = .ok (.if_icmp .ge 16, 3) := by decide +kernel
theorem dX2_advance_22 : decode cX2_advance 22 = .ok (.aload_n 0, 1) := by decide +kernel
theorem dX2_advance_23 : decode cX2_advance 23 = .ok (.iload_n 2, 1) := by decide +kernel
theorem dX2_advance_24 : decode cX2_advance 24 = .ok (.aload_n 0, 1) := by decide +kernel
theorem dX2_advance_25 : decode cX2_advance 25 = .ok (.iload_n 2, 1) := by decide +kernel
theorem dX2_advance_26 : decode cX2_advance 26 = .ok (.invokevirtual 29, 3) := by decide +kernel
theorem dX2_advance_29 : decode cX2_advance 29 = .ok (.iconst 1, 1) := by decide +kernel
theorem dX2_advance_30 : decode cX2_advance 30 = .ok (.iadd, 1) := by decide +kernel
theorem dX2_advance_31 : decode cX2_advance 31 = .ok (.invokevirtual 42, 3) := by decide +kernel
theorem dX2_advance_34 : decode cX2_advance 34 = .ok (.return_, 1) := by decide +kernel
theorem dX2_advance_35 : decode cX2_advance 35 = .ok (.aload_n 0, 1) := by decide +kernel
theorem dX2_advance_36 : decode cX2_advance 36 = .ok (.iload_n 2, 1) := by decide +kernel
theorem dX2_advance_37 : decode cX2_advance 37 = .ok (.iconst 0, 1) := by decide +kernel
theorem dX2_advance_38 : decode cX2_advance 38 = .ok (.invokevirtual 42, 3) := by decide +kernel
theorem dX2_advance_41 : decode cX2_advance 41 = .ok (.iinc 2 (-1), 3) := by decide +kernel
theorem dX2_advance_44 : decode cX2_advance 44 = .ok (.goto (-37), 3) := by decide +kernel
theorem dX2_advance_47 : decode cX2_advance 47 = .ok (.return_, 1) := by decide +kernel
theorem dX3_init_0 : decode cX3_init 0 = .ok (.aload_n 0, 1) := by decide +kernel
theorem dX3_init_1 : decode cX3_init 1 = .ok (.invokespecial 3, 3) := by decide +kernel
theorem dX3_init_4 : decode cX3_init 4 = .ok (.aload_n 0, 1) := by decide +kernel
theorem dX3_init_5 : decode cX3_init 5 = .ok (.new 9, 3) := by decide +kernel
theorem dX3_init_8 : decode cX3_init 8 = .ok (.dup, 1) := by decide +kernel
theorem dX3_init_9 : decode cX3_init 9 = .ok (.bipush 8, 2) := by decide +kernel
theorem dX3_init_11 : decode cX3_init 11 = .ok (.invokespecial 11, 3) := by decide +kernel
theorem dX3_init_14 : decode cX3_init 14 = .ok (.putfield 14, 3) := by decide +kernel
theorem dX3_init_17 : decode cX3_init 17 = .ok (.aload_n 0, 1) := by decide +kernel
theorem dX3_init_18 : decode cX3_init 18 = .ok (.aload_n 1, 1) := by decide +kernel
theorem dX3_init_19 : decode cX3_init 19 = .ok (.putfield 20, 3) := by decide +kernel
theorem dX3_init_22 : decode cX3_init 22 = .ok (.aload_n 0, 1) := by decide +kernel
theorem dX3_init_23 : decode cX3_init 23 = .ok (.aload_n 2, 1) := by decide +kernel
theorem dX3_init_24 : decode cX3_init 24 = .ok (.putfield 24, 3) := by decide +kernel
theorem dX3_init_27 : decode cX3_init 27 = .ok (.return_, 1) := by decide +kernel
theorem dX3_findBest_0 : decode cX3_findBest 0 = .ok (.aload_n 0, 1) := by decide +kernel
theorem dX3_findBest_1 : decode cX3_findBest 1 = .ok (.iload_n 1, 1) := by decide +kernel
theorem dX3_findBest_2 : decode cX3_findBest 2 = .ok (.putfield 28, 3) := by decide +kernel
theorem dX3_findBest_5 : decode cX3_findBest 5 = .ok (.aload_n 0, 1) := by decide +kernel
theorem dX3_findBest_6 : decode cX3_findBest 6 = .ok (.iload_n 2, 1) := by decide +kernel
theorem dX3_findBest_7 : decode cX3_findBest 7 = .ok (.putfield 32, 3) := by decide +kernel
theorem dX3_findBest_10 : decode cX3_findBest 10 = .ok (.aload_n 0, 1) := by decide +kernel
theorem dX3_findBest_11 : decode cX3_findBest 11 = .ok (.getfield 14, 3) := by decide +kernel
theorem dX3_findBest_14 : decode cX3_findBest 14 = .ok (.invokevirtual 35, 3) := by decide +kernel
theorem dX3_findBest_17 : decode cX3_findBest 17 = .ok (.iload_n 1, 1) := by decide +kernel
theorem dX3_findBest_18 : decode cX3_findBest 18 = .ok (.istore_n 3, 1) := by decide +kernel
theorem dX3_findBest_19 : decode cX3_findBest 19 = .ok (.iload_n 3, 1) := by decide +kernel
theorem dX3_findBest_20 : decode cX3_findBest 20 = .ok (.ifCond .lt 61, 3) := by decide +kernel
theorem dX3_findBest_23 : decode cX3_findBest 23 = .ok (.iload_n 1, 1) := by decide +kernel
theorem dX3_findBest_24 : decode cX3_findBest 24 = .ok (.iload_n 3, 1) := by decide +kernel
theorem dX3_findBest_25 : decode cX3_findBest 25 = .ok (.isub, 1) := by decide +kernel
theorem dX3_findBest_26 : decode cX3_findBest 26 = .ok (.istore 4, 2) := by decide +kernel
theorem dX3_findBest_28 : decode cX3_findBest 28 = .ok (.iload 4, 2) := by decide +kernel
theorem dX3_findBest_30 : decode cX3_findBest 30 = .ok (.iconst 4, 1) := by decide +kernel
theorem dX3_findBest_31 : decode cX3_findBest 31 = .ok (.invokestatic 38, 3) := by decide +kernel
theorem dX3_findBest_34 : decode cX3_findBest 34 = .ok (.istore 5, 2) := by decide +kernel
theorem dX3_findBest_36 : decode cX3_findBest 36 = .ok (.iload 4, 2) := by decide +kernel
theorem dX3_findBest_38 : decode cX3_findBest 38 = .ok (.iconst 1, 1) := by decide +kernel
theorem dX3_findBest_39 : decode cX3_findBest 39 = .ok (.invokestatic 38, 3) := by decide +kernel
theorem dX3_findBest_42 : decode cX3_findBest 42 = .ok (.istore 6, 2) := by decide +kernel
theorem dX3_findBest_44 : decode cX3_findBest 44 = .ok (.iload 6, 2) := by decide +kernel
theorem dX3_findBest_46 : decode cX3_findBest 46 = .ok (.iload 5, 2) := by decide +kernel
theorem dX3_findBest_48 : decode cX3_findBest 48 = .ok (.if_icmp .gt 27, 3) := by decide +kernel
theorem dX3_findBest_51 : decode cX3_findBest 51 = .ok (.aload_n 0, 1) := by decide +kernel
theorem dX3_findBest_52 : decode cX3_findBest 52 = .ok (.iload 6, 2) := by decide +kernel
theorem dX3_findBest_54 : decode cX3_findBest 54 = .ok (.putfield 44, 3) := by decide +kernel
theorem dX3_findBest_57 : decode cX3_findBest 57 = .ok (.aload_n 0, 1) := by decide +kernel
theorem dX3_findBest_58 : decode cX3_findBest 58 = .ok (.iconst 0, 1) := by decide +kernel
theorem dX3_findBest_59 : decode cX3_findBest 59 = .ok (.iload_n 3, 1) := by decide +kernel
theorem dX3_findBest_60 : decode cX3_findBest 60 = .ok (.iconst 0, 1) := by decide +kernel
theorem dX3_findBest_61 : decode cX3_findBest 61 = .ok (.invokevirtual 47, 3) := by decide +kernel
theorem dX3_findBest_64 : decode cX3_findBest 64 = .ok (.ifCond .eq 5, 3) := by decide +kernel
theorem dX3_findBest_67 : decode cX3_findBest 67 = .ok (.iconst 1, 1) := by decide +kernel
theorem dX3_findBest_68 : decode cX3_findBest 68 = .ok (.ireturn, 1) := by decide +kernel
theorem dX3_findBest_69 : decode cX3_findBest 69 = .ok (.iinc 6 1, 3) := by decide +kernel
theorem dX3_findBest_72 : decode cX3_findBest 72 = .ok (.goto (-28), 3) := by decide +kernel
theorem dX3_findBest_75 : decode cX3_findBest 75 = .ok (.iinc 3 (-1), 3) := by decide +kernel
theorem dX3_findBest_78 : decode cX3_findBest 78 = .ok (.goto (-59), 3) := by decide +kernel
theorem dX3_findBest_81 : decode cX3_findBest 81 = .ok (.iconst 0, 1) := by decide +kernel
theorem dX3_findBest_82 : decode cX3_findBest 82 = .ok (.ireturn, 1) := by decide +kernel
theorem dX3_findLongestOfX_0 : decode cX3_findLongestOfX 0 = .ok (.aload_n 0, 1) := by decide +kernel
theorem dX3_findLongestOfX_1 : decode cX3_findLongestOfX 1 = .ok (.iconst 1, 1) := by decide +kernel
theorem dX3_findLongestOfX_2 : decode cX3_findLongestOfX 2 = .ok (.putfield 44, 3) := by decide +kernel
theorem dX3_findLongestOfX_5 : decode cX3_findLongestOfX 5 = .ok (.aload_n 0, 1) := by decide +kernel
theorem dX3_findLongestOfX_6 : decode cX3_findLongestOfX 6 = .ok (.iconst 0, 1) := by decide +kernel
theorem dX3_findLongestOfX_7 : decode cX3_findLongestOfX 7 = .ok (.putfield 32, 3) := by decide +kernel
theorem dX3_findLongestOfX_10 : decode cX3_findLongestOfX 10 = .ok (.aload_n 0, 1) := by decide +kernel
theorem dX3_findLongestOfX_11 : decode cX3_findLongestOfX 11 = .ok (.getfield 14, 3) := by decide +kernel
theorem dX3_findLongestOfX_14 : decode cX3_findLongestOfX 14 = .ok (.invokevirtual 35, 3) := by decide +kernel
theorem dX3_findLongestOfX_17 : decode cX3_findLongestOfX 17 = .ok (.bipush 7, 2) := by decide +kernel
theorem dX3_findLongestOfX_19 : decode cX3_findLongestOfX 19 = .ok (.istore_n 1, 1) := by decide +kernel
theorem dX3_findLongestOfX_20 : decode cX3_findLongestOfX 20 = .ok (.iload_n 1, 1) := by decide +kernel
theorem dX3_findLongestOfX_21 : decode cX3_findLongestOfX 21 = .ok (.iconst 1, 1) := by decide +kernel
theorem dX3_findLongestOfX_22 : decode cX3_findLongestOfX 22 = .ok (.if_icmp .lt 51, 3) := by decide +kernel
theorem dX3_findLongestOfX_25 : decode cX3_findLongestOfX 25 = .ok (.aload_n 0, 1) := by decide +kernel
theorem dX3_findLongestOfX_26 : decode cX3_findLongestOfX 26 = .ok (.iload_n 1, 1) := by decide +kernel
theorem dX3_findLongestOfX_27 : decode cX3_findLongestOfX 27 = .ok (.putfield 28, 3) := by decide +kernel
theorem dX3_findLongestOfX_30 : decode cX3_findLongestOfX 30 = .ok (.iload_n 1, 1) := by decide +kernel
theorem dX3_findLongestOfX_31 : decode cX3_findLongestOfX 31 = .ok (.iconst 1, 1) := by decide +kernel
theorem dX3_findLongestOfX_32 : decode cX3_findLongestOfX 32 = .ok (.isub, 1) := by decide +kernel
theorem dX3_findLongestOfX_33 : decode cX3_findLongestOfX 33 = .ok (.istore_n 2, 1) := by decide +kernel
theorem dX3_findLongestOfX_34 : decode cX3_findLongestOfX 34 = .ok (.iload_n 2, 1) := by decide +kernel
theorem dX3_findLongestOfX_35 : decode cX3_findLongestOfX 35 = .ok (.ifCond .lt 32, 3) := by decide +kernel
theorem dX3_findLongestOfX_38 : decode cX3_findLongestOfX 38 = .ok (.aload_n 0, 1) := by decide +kernel
theorem dX3_findLongestOfX_39 : decode cX3_findLongestOfX 39 = .ok (.iload_n 2, 1) := by decide +kernel
theorem dX3_findLongestOfX_40 : decode cX3_findLongestOfX 40 = .ok (.iload_n 1, 1) := by decide +kernel
theorem dX3_findLongestOfX_41 : decode cX3_findLongestOfX 41 = .ok (.iload_n 2, 1) := by decide +kernel
theorem dX3_findLongestOfX_42 : decode cX3_findLongestOfX 42 = .ok (.isub, 1) := by decide +kernel
theorem dX3_findLongestOfX_43 : decode cX3_findLongestOfX 43 = .ok (.invokevirtual 51, 3) := by decide +kernel
theorem dX3_findLongestOfX_46 : decode cX3_findLongestOfX 46 = .ok (.ifCond .eq 15, 3) := by decide +kernel
theorem dX3_findLongestOfX_49 : decode cX3_findLongestOfX 49 = .ok (.aload_n 0, 1) := by decide +kernel
theorem dX3_findLongestOfX_50 : decode cX3_findLongestOfX 50 = .ok (.iconst 0, 1) := by decide +kernel
theorem dX3_findLongestOfX_51 : decode cX3_findLongestOfX 51 = .ok (.iload_n 2, 1) := by decide +kernel
theorem dX3_findLongestOfX_52 : decode cX3_findLongestOfX 52 = .ok (.iconst 0, 1) := by decide +kernel
theorem dX3_findLongestOfX_53 : decode cX3_findLongestOfX 53 = .ok (.invokevirtual 47, 3) := by decide +kernel
theorem dX3_findLongestOfX_56 : decode cX3_findLongestOfX 56 = .ok (.ifCond .eq 5, 3) := by decide +kernel
theorem dX3_findLongestOfX_59 : decode cX3_findLongestOfX 59 = .ok (.iconst 1, 1) := by decide +kernel
theorem dX3_findLongestOfX_60 : decode cX3_findLongestOfX 60 = .ok (.ireturn, 1) := by decide +kernel
theorem dX3_findLongestOfX_61 : decode cX3_findLongestOfX 61 = .ok (.iinc 2 (-1), 3) := by decide +kernel
theorem dX3_findLongestOfX_64 : decode cX3_findLongestOfX 64 = .ok (.goto (-30), 3) := by decide +kernel
theorem dX3_findLongestOfX_67 : decode cX3_findLongestOfX 67 = .ok (.iinc 1 (-1), 3) := by decide +kernel
theorem dX3_findLongestOfX_70 : decode cX3_findLongestOfX 70 = .ok (.goto (-50), 3) := by decide +kernel
theorem dX3_findLongestOfX_73 : decode cX3_findLongestOfX 73 = .ok (.iconst 0, 1) := by decide +kernel
theorem dX3_findLongestOfX_74 : decode cX3_findLongestOfX 74 = .ok (.ireturn, 1) := by decide +kernel
theorem dX3_canStretch_0 : decode cX3_canStretch 0 = .ok (.iload_n 2, 1) := by decide +kernel
theorem dX3_canStretch_1 : decode cX3_canStretch 1 = .ok (.iconst 1, 1) := by decide +kernel
theorem dX3_canStretch_2 : decode cX3_canStretch 2 = .ok (.if_icmp .ge 5, 3) := by decide +kernel
theorem dX3_canStretch_5 : decode cX3_canStretch 5 = .ok (.iconst 0, 1) := by decide +kernel
theorem dX3_canStretch_6 : decode cX3_canStretch 6 = .ok (.ireturn, 1) := by decide +kernel
theorem dX3_canStretch_7 : decode cX3_canStretch 7 = .ok (.iconst 0, 1) := by decide +kernel
theorem dX3_canStretch_8 : decode cX3_canStretch 8 = .ok (.istore_n 3, 1) := by decide +kernel
theorem dX3_canStretch_9 : decode cX3_canStretch 9 = .ok (.iload_n 3, 1) := by decide +kernel
theorem dX3_canStretch_10 : decode cX3_canStretch 10 = .ok (.aload_n 0, 1) := by decide +kernel
theorem dX3_canStretch_11 : decode cX3_canStretch 11 = .ok (.getfield 20, 3) := by decide +kernel
theorem dX3_canStretch_14 : decode cX3_canStretch 14 = .ok (.getfield 55, 3) := by decide +kernel
theorem dX3_canStretch_17 : decode cX3_canStretch 17 = .ok (.if_icmp .ge 46, 3) := by decide +kernel
theorem dX3_canStretch_20 : decode cX3_canStretch 20 = .ok (.iload_n 3, 1) := by decide +kernel
theorem dX3_canStretch_21 : decode cX3_canStretch 21 = .ok (.bipush 6, 2) := by decide +kernel
theorem dX3_canStretch_23 : decode cX3_canStretch 23 = .ok (.if_icmp .ge 40, 3) := by decide +kernel
theorem dX3_canStretch_26 : decode cX3_canStretch 26 = .ok (.aload_n 0, 1) := by decide +kernel
theorem dX3_canStretch_27 : decode cX3_canStretch 27 = .ok (.getfield 20, 3) := by decide +kernel
theorem dX3_canStretch_30 : decode cX3_canStretch 30 = .ok (.getfield 60, 3) := by decide +kernel
theorem dX3_canStretch_33 : decode cX3_canStretch 33 = .ok (.iload_n 3, 1) := by decide +kernel
theorem dX3_canStretch_34 : decode cX3_canStretch 34 = .ok (.aaload, 1) := by decide +kernel
theorem dX3_canStretch_35 : decode cX3_canStretch 35 = .ok (.getfield 64, 3) := by decide +kernel
theorem dX3_canStretch_38 : decode cX3_canStretch 38 = .ok (.iload_n 1, 1) := by decide +kernel
theorem dX3_canStretch_39 : decode cX3_canStretch 39 = .ok (.isub, 1) := by decide +kernel
theorem dX3_canStretch_40 : decode cX3_canStretch 40 = .ok (.istore 4, 2) := by decide +kernel
theorem dX3_canStretch_42 : decode cX3_canStretch 42 = .ok (.iload 4, 2) := by decide +kernel
theorem dX3_canStretch_44 : decode cX3_canStretch 44 = .ok (.iload_n 2, 1) := by decide +kernel
theorem dX3_canStretch_45 : decode cX3_canStretch 45 = .ok (.if_icmp .lt 10, 3) := by decide +kernel
theorem dX3_canStretch_48 : decode cX3_canStretch 48 = .ok (.iload 4, 2) := by decide +kernel
theorem dX3_canStretch_50 : decode cX3_canStretch 50 = .ok (.iload_n 2, 1) := by decide +kernel
theorem dX3_canStretch_51 : decode cX3_canStretch 51 = .ok (.irem, 1) := by decide +kernel
theorem dX3_canStretch_52 : decode cX3_canStretch 52 = .ok (.ifCond .eq 5, 3) := by decide +kernel
theorem dX3_canStretch_55 : decode cX3_canStretch 55 = .ok (.iconst 0, 1) := by decide +kernel
theorem dX3_canStretch_56 : decode cX3_canStretch 56 = .ok (.ireturn, 1) := by decide +kernel
theorem dX3_canStretch_57 : decode cX3_canStretch 57 = .ok (.iinc 3 1, 3) := by decide +kernel
theorem dX3_canStretch_60 : decode cX3_canStretch 60 = .ok (.goto (-51), 3) := by decide +kernel
theorem dX3_canStretch_63 : decode cX3_canStretch 63 = .ok (.iconst 1, 1) := by decide +kernel
theorem dX3_canStretch_64 : decode cX3_canStretch 64 = .ok (.ireturn, 1) := by decide +kernel
theorem dX3_complete_0 : decode cX3_complete 0 = .ok (.aload_n 0, 1) := by decide +kernel
theorem dX3_complete_1 : decode cX3_complete 1 = .ok (.getfield 28, 3) := by decide +kernel
theorem dX3_complete_4 : decode cX3_complete 4 = .ok (.iload_n 1, 1) := by decide +kernel
theorem dX3_complete_5 : decode cX3_complete 5 = .ok (.isub, 1) := by decide +kernel
theorem dX3_complete_6 : decode cX3_complete 6 = .ok (.iload_n 2, 1) := by decide +kernel
theorem dX3_complete_7 : decode cX3_complete 7 = .ok (.isub, 1) := by decide +kernel
theorem dX3_complete_8 : decode cX3_complete 8 = .ok (.istore 4, 2) := by decide +kernel
theorem dX3_complete_10 : decode cX3_complete 10 = .ok (.aload_n 0, 1) := by decide +kernel
theorem dX3_complete_11 : decode cX3_complete 11 = .ok (.iload_n 2, 1) := by decide +kernel
theorem dX3_complete_12 : decode cX3_complete 12 = .ok (.iload 4, 2) := by decide +kernel
theorem dX3_complete_14 : decode cX3_complete 14 = .ok (.invokevirtual 67, 3) := by decide +kernel
theorem dX3_complete_17 : decode cX3_complete 17 = .ok (.ifCond .ne 5, 3) := by decide +kernel
theorem dX3_complete_20 : decode cX3_complete 20 = .ok (.iconst 0, 1) := by decide +kernel
theorem dX3_complete_21 : decode cX3_complete 21 = .ok (.ireturn, 1) := by decide +kernel
theorem dX3_complete_22 : decode cX3_complete 22 = .ok (.iload_n 1, 1) := by decide +kernel
theorem dX3_complete_23 : decode cX3_complete 23 = .ok (.aload_n 0, 1) := by decide +kernel
theorem dX3_complete_24 : decode cX3_complete 24 = .ok (.getfield 28, 3) := by decide +kernel
theorem dX3_complete_27 : decode cX3_complete 27 = .ok (.if_icmp .lt 5, 3) := by decide +kernel
theorem dX3_complete_30 : decode cX3_complete 30 = .ok (.iconst 1, 1) := by decide +kernel
theorem dX3_complete_31 : decode cX3_complete 31 = .ok (.ireturn, 1) := by decide +kernel
theorem dX3_complete_32 : decode cX3_complete 32 = .ok (.iload_n 2, 1) := by decide +kernel
theorem dX3_complete_33 : decode cX3_complete 33 = .ok (.ifCond .le 13, 3) := by decide +kernel
theorem dX3_complete_36 : decode cX3_complete 36 = .ok (.aload_n 0, 1) := by decide +kernel
theorem dX3_complete_37 : decode cX3_complete 37 = .ok (.getfield 20, 3) := by decide +kernel
theorem dX3_complete_40 : decode cX3_complete 40 = .ok (.getfield 70, 3) := by decide +kernel
theorem dX3_complete_43 : decode cX3_complete 43 = .ok (.goto 4, 3) := by decide +kernel
theorem dX3_complete_46 : decode cX3_complete 46 = .ok (.iconst 0, 1) := by decide +kernel
theorem dX3_complete_47 : decode cX3_complete 47 = .ok (.istore 5, 2) := by decide +kernel
theorem dX3_complete_49 : decode cX3_complete 49 = .ok (.iconst 0, 1) := by decide +kernel
theorem dX3_complete_50 : decode cX3_complete 50 = .ok (.istore 6, 2) := by decide +kernel
theorem dX3_complete_52 : decode cX3_complete 52 = .ok (.iload 6, 2) := by decide +kernel
theorem dX3_complete_54 : decode cX3_complete 54 = .ok (.iload 5, 2) := by decide +kernel
theorem dX3_complete_56 : decode cX3_complete 56 = .ok (.if_icmp .ge 42, 3) := by decide +kernel
theorem dX3_complete_59 : decode cX3_complete 59 = .ok (.aload_n 0, 1) := by decide +kernel
theorem dX3_complete_60 : decode cX3_complete 60 = .ok (.getfield 14, 3) := by decide +kernel
theorem dX3_complete_63 : decode cX3_complete 63 = .ok (.iload 6, 2) := by decide +kernel
theorem dX3_complete_65 : decode cX3_complete 65 = .ok (.invokevirtual 73, 3) := by decide +kernel
theorem dX3_complete_68 : decode cX3_complete 68 = .ok (.pop, 1) := by decide +kernel
theorem dX3_complete_69 : decode cX3_complete 69 = .ok (.aload_n 0, 1) := by decide +kernel
theorem dX3_complete_70 : decode cX3_complete 70 = .ok (.iload_n 1, 1) := by decide +kernel
theorem dX3_complete_71 : decode cX3_complete 71 = .ok (.iconst 1, 1) := by decide +kernel
theorem dX3_complete_72 : decode cX3_complete 72 = .ok (.iadd, 1) := by decide +kernel
theorem dX3_complete_73 : decode cX3_complete 73 = .ok (.iload_n 2, 1) := by decide +kernel
theorem dX3_complete_74 : decode cX3_complete 74 = .ok (.iconst 1, 1) := by decide +kernel
theorem dX3_complete_75 : decode cX3_complete 75 = .ok (.isub, 1) := by decide +kernel
theorem dX3_complete_76 : decode cX3_complete 76 = .ok (.iload_n 3, 1) := by decide +kernel
theorem dX3_complete_77 : decode cX3_complete 77 = .ok (.invokevirtual 47, 3) := by decide +kernel
theorem dX3_complete_80 : decode cX3_complete 80 = .ok (.ifCond .eq 5, 3) := by decide +kernel
theorem dX3_complete_83 : decode cX3_complete 83 = .ok (.iconst 1, 1) := by decide +kernel
theorem dX3_complete_84 : decode cX3_complete 84 = .ok (.ireturn, 1) := by decide +kernel
theorem dX3_complete_85 : decode cX3_complete 85 = .ok (.aload_n 0, 1) := by decide +kernel
theorem dX3_complete_86 : decode cX3_complete 86 = .ok (.getfield 14, 3) := by decide +kernel
theorem dX3_complete_89 : decode cX3_complete 89 = .ok (.invokevirtual 77, 3) := by decide +kernel
theorem dX3_complete_92 : decode cX3_complete 92 = .ok (.iinc 6 1, 3) := by decide +kernel
theorem dX3_complete_95 : decode cX3_complete 95 = .ok (.goto (-43), 3) := by decide +kernel
theorem dX3_complete_98 : decode cX3_complete 98 = .ok (.iload 4, 2) := by decide +kernel
theorem dX3_complete_100 : decode cX3_complete 100 = .ok (.ifCond .le 17, 3) := by decide +kernel
theorem dX3_complete_103 : decode cX3_complete 103 = .ok (.aload_n 0, 1) := by decide +kernel
theorem dX3_complete_104 : decode cX3_complete 104 = .ok (.iload_n 1, 1) := by decide +kernel
theorem dX3_complete_105 : decode cX3_complete 105 = .ok (.iload_n 2, 1) := by decide +kernel
theorem dX3_complete_106 : decode cX3_complete 106 = .ok (.iload_n 3, 1) := by decide +kernel
theorem dX3_complete_107 : decode cX3_complete 107 = .ok (.invokevirtual 80, 3) := by decide +kernel
theorem dX3_complete_110 : decode cX3_complete 110 = .ok (.ifCond .eq 7, 3) := by decide +kernel
theorem dX3_complete_113 : decode cX3_complete 113 = .ok (.iconst 1, 1) := by decide +kernel
theorem dX3_complete_114 : decode cX3_complete 114 = .ok (.goto 4, 3) := by decide +kernel
theorem dX3_complete_117 : decode cX3_complete 117 = .ok (.iconst 0, 1) := by decide +kernel
theorem dX3_complete_118 : decode cX3_complete 118 = .ok (.ireturn, 1) := by decide +kernel
theorem dX3_completeWithVariable_0 : decode cX3_completeWithVariable 0 = .ok (.aload_n 0, 1) := by decide +kernel
theorem dX3_completeWithVariable_1 : decode cX3_completeWithVariable 1 = .ok (.getfield 28, 3) := by decide +kernel
theorem dX3_completeWithVariable_4 : decode cX3_completeWithVariable 4 = .ok (.iload_n 1, 1) := by decide +kernel
theorem dX3_completeWithVariable_5 : decode cX3_completeWithVariable 5 = .ok (.isub, 1) := by decide +kernel
theorem dX3_completeWithVariable_6 : decode cX3_completeWithVariable 6 = .ok (.iload_n 2, 1) := by decide +kernel
theorem dX3_completeWithVariable_7 : decode cX3_completeWithVariable 7 = .ok (.isub, 1) := by decide +kernel
theorem dX3_completeWithVariable_8 : decode cX3_completeWithVariable 8 = .ok (.istore 4, 2) := by decide +kernel
theorem dX3_completeWithVariable_10 : decode cX3_completeWithVariable 10 = .ok (.iload 4, 2) := by decide +kernel
theorem dX3_completeWithVariable_12 : decode cX3_completeWithVariable 12 = .ok (.aload_n 0, 1) := by decide +kernel
theorem dX3_completeWithVariable_13 : decode cX3_completeWithVariable 13 = .ok (.getfield 44, 3) := by decide +kernel
theorem dX3_completeWithVariable_16 : decode cX3_completeWithVariable 16 = .ok (.iload_n 3, 1) := by decide +kernel
theorem dX3_completeWithVariable_17 : decode cX3_completeWithVariable 17 = .ok (.isub, 1) := by decide +kernel
theorem dX3_completeWithVariable_18 : decode cX3_completeWithVariable 18 = .ok (.if_icmp .le 7, 3) := by decide +kernel
theorem dX3_completeWithVariable_21 : decode cX3_completeWithVariable 21 = .ok (.iconst 1, 1) := by decide +kernel
theorem dX3_completeWithVariable_22 : decode cX3_completeWithVariable 22 = .ok (.goto 4, 3) := by decide +kernel
theorem dX3_completeWithVariable_25 : decode cX3_completeWithVariable 25 = .ok (.iconst 0, 1) := by decide +kernel
theorem dX3_completeWithVariable_26 : decode cX3_completeWithVariable 26 = .ok (.istore 5, 2) := by decide +kernel
theorem dX3_completeWithVariable_28 : decode cX3_completeWithVariable 28 = .ok (.iload 5, 2) := by decide +kernel
theorem dX3_completeWithVariable_30 : decode cX3_completeWithVariable 30 = .ok (.ifCond .eq 7, 3) := by decide +kernel
theorem dX3_completeWithVariable_33 : decode cX3_completeWithVariable 33 = .ok (.iconst 0, 1) := by decide +kernel
theorem dX3_completeWithVariable_34 : decode cX3_completeWithVariable 34 = .ok (.goto 4, 3) := by decide +kernel
theorem dX3_completeWithVariable_37 : decode cX3_completeWithVariable 37 = .ok (.iload_n 3, 1) := by decide +kernel
theorem dX3_completeWithVariable_38 : decode cX3_completeWithVariable 38 = .ok (.istore 6, 2) := by decide +kernel
theorem dX3_completeWithVariable_40 : decode cX3_completeWithVariable 40 = .ok (.iload_n 3, 1) := by decide +kernel
theorem dX3_completeWithVariable_41 : decode cX3_completeWithVariable 41 = .ok (.aload_n 0, 1) := by decide +kernel
theorem dX3_completeWithVariable_42 : decode cX3_completeWithVariable 42 = .ok (.getfield 44, 3) := by decide +kernel
theorem dX3_completeWithVariable_45 : decode cX3_completeWithVariable 45 = .ok (.iconst 1, 1) := by decide +kernel
theorem dX3_completeWithVariable_46 : decode cX3_completeWithVariable 46 = .ok (.isub, 1) := by decide +kernel
theorem dX3_completeWithVariable_47 : decode cX3_completeWithVariable 47 = .ok (.invokestatic 38, 3) := by decide +kernel
theorem dX3_completeWithVariable_50 : decode cX3_completeWithVariable 50 = .ok (.istore 7, 2) := by decide +kernel
theorem dX3_completeWithVariable_52 : decode cX3_completeWithVariable 52 = .ok (.iload 6, 2) := by decide +kernel
theorem dX3_completeWithVariable_54 : decode cX3_completeWithVariable 54 = .ok (.istore 8, 2) := by decide +kernel
theorem dX3_completeWithVariable_56 : decode cX3_completeWithVariable 56 = .ok (.iload 8, 2) := by decide +kernel
theorem dX3_completeWithVariable_58 : decode cX3_completeWithVariable 58 = .ok (.iload 7, 2) := by decide +kernel
theorem dX3_completeWithVariable_60 : decode cX3_completeWithVariable 60 = .ok (.if_icmp .gt 54, 3) := by decide +kernel
theorem dX3_completeWithVariable_63 : decode cX3_completeWithVariable 63 = .ok (.iload_n 3, 1) := by decide +kernel
theorem dX3_completeWithVariable_64 : decode cX3_completeWithVariable 64 = .ok (.iload 8, 2) := by decide +kernel
theorem dX3_completeWithVariable_66 : decode cX3_completeWithVariable 66 = .ok (.iconst 1, 1) := by decide +kernel
theorem dX3_completeWithVariable_67 : decode cX3_completeWithVariable 67 = .ok (.iadd, 1) := by decide +kernel
theorem dX3_completeWithVariable_68 : decode cX3_completeWithVariable 68 = .ok (.invokestatic 83, 3) := by decide +kernel
theorem dX3_completeWithVariable_71 : decode cX3_completeWithVariable 71 = .ok (.istore 9, 2) := by decide +kernel
theorem dX3_completeWithVariable_73 : decode cX3_completeWithVariable 73 = .ok (.aload_n 0, 1) := by decide +kernel
theorem dX3_completeWithVariable_74 : decode cX3_completeWithVariable 74 = .ok (.getfield 14, 3) := by decide +kernel
theorem dX3_completeWithVariable_77 : decode cX3_completeWithVariable 77 = .ok (.bipush 10, 2) := by decide +kernel
theorem dX3_completeWithVariable_79 : decode cX3_completeWithVariable 79 = .ok (.iload 8, 2) := by decide +kernel
theorem dX3_completeWithVariable_81 : decode cX3_completeWithVariable 81 = .ok (.iadd, 1) := by decide +kernel
theorem dX3_completeWithVariable_82 : decode cX3_completeWithVariable 82 = .ok (.invokevirtual 73, 3) := by decide +kernel
theorem dX3_completeWithVariable_85 : decode cX3_completeWithVariable 85 = .ok (.pop, 1) := by decide +kernel
theorem dX3_completeWithVariable_86 : decode cX3_completeWithVariable 86 = .ok (.aload_n 0, 1) := by decide +kernel
theorem dX3_completeWithVariable_87 : decode cX3_completeWithVariable 87 = .ok (.iload_n 1, 1) := by decide +kernel
theorem dX3_completeWithVariable_88 : decode cX3_completeWithVariable 88 = .ok (.iconst 1, 1) := by decide +kernel
theorem dX3_completeWithVariable_89 : decode cX3_completeWithVariable 89 = .ok (.iadd, 1) := by decide +kernel
theorem dX3_completeWithVariable_90 : decode cX3_completeWithVariable 90 = .ok (.iload_n 2, 1) := by decide +kernel
theorem dX3_completeWithVariable_91 : decode cX3_completeWithVariable 91 = .ok (.iload 9, 2) := by decide +kernel
theorem dX3_completeWithVariable_93 : decode cX3_completeWithVariable 93 = .ok (.invokevirtual 47, 3) := by decide +kernel
theorem dX3_completeWithVariable_96 : decode cX3_completeWithVariable 96 = .ok (.ifCond .eq 5, 3) := by decide +kernel
theorem dX3_completeWithVariable_99 : decode cX3_completeWithVariable 99 = .ok (.iconst 1, 1) := by decide +kernel
theorem dX3_completeWithVariable_100 : decode cX3_completeWithVariable 100 = .ok (.ireturn, 1) := by decide +kernel
theorem dX3_completeWithVariable_101 : decode cX3_completeWithVariable 101 = .ok (.aload_n 0, 1) := by decide +kernel
theorem dX3_completeWithVariable_102 : decode cX3_completeWithVariable 102 = .ok (.getfield 14, 3) := by decide +kernel
theorem dX3_completeWithVariable_105 : decode cX3_completeWithVariable 105 = .ok (.invokevirtual 77, 3) := by decide +kernel
theorem dX3_completeWithVariable_108 : decode cX3_completeWithVariable 108 = .ok (.iinc 8 1, 3) := by decide +kernel
theorem dX3_completeWithVariable_111 : decode cX3_completeWithVariable 111 = .ok (.goto (-55), 3) := by decide +kernel
theorem dX3_completeWithVariable_114 : decode cX3_completeWithVariable 114 = .ok (.iconst 0, 1) := by decide +kernel
theorem dX3_completeWithVariable_115 : decode cX3_completeWithVariable 115 = .ok (.ireturn, 1) := by decide +kernel
theorem dX3_canBegin_0 : decode cX3_canBegin 0 = .ok (.iload_n 1, 1) := by decide +kernel
theorem dX3_canBegin_1 : decode cX3_canBegin 1 = .ok (.aload_n 0, 1) := by decide +kernel
theorem dX3_canBegin_2 : decode cX3_canBegin 2 = .ok (.getfield 32, 3) := by decide +kernel
theorem dX3_canBegin_5 : decode cX3_canBegin 5 = .ok (.iconst 1, 1) := by decide +kernel
theorem dX3_canBegin_6 : decode cX3_canBegin 6 = .ok (.if_icmp .ne 7, 3) := by decide +kernel
theorem dX3_canBegin_9 : decode cX3_canBegin 9 = .ok (.iconst 0, 1) := by decide +kernel
theorem dX3_canBegin_10 : decode cX3_canBegin 10 = .ok (.goto 4, 3) := by decide +kernel
theorem dX3_canBegin_13 : decode cX3_canBegin 13 = .ok (.iload_n 2, 1) := by decide +kernel
theorem dX3_canBegin_14 : decode cX3_canBegin 14 = .ok (.iadd, 1) := by decide +kernel
theorem dX3_canBegin_15 : decode cX3_canBegin 15 = .ok (.istore_n 3, 1) := by decide +kernel
theorem dX3_canBegin_16 : decode cX3_canBegin 16 = .ok (.iload_n 2, 1) := by decide +kernel
theorem dX3_canBegin_17 : decode cX3_canBegin 17 = .ok (.ifCond .le 8, 3) := by decide +kernel
theorem dX3_canBegin_20 : decode cX3_canBegin 20 = .ok (.bipush 8, 2) := by decide +kernel
theorem dX3_canBegin_22 : decode cX3_canBegin 22 = .ok (.goto 4, 3) := by decide +kernel
theorem dX3_canBegin_25 : decode cX3_canBegin 25 = .ok (.iload_n 1, 1) := by decide +kernel
theorem dX3_canBegin_26 : decode cX3_canBegin 26 = .ok (.istore 4, 2) := by decide +kernel
theorem dX3_canBegin_28 : decode cX3_canBegin 28 = .ok (.iconst 0, 1) := by decide +kernel
theorem dX3_canBegin_29 : decode cX3_canBegin 29 = .ok (.istore 5, 2) := by decide +kernel
theorem dX3_canBegin_31 : decode cX3_canBegin 31 = .ok (.iload 5, 2) := by decide +kernel
theorem dX3_canBegin_33 : decode cX3_canBegin 33 = .ok (.aload_n 0, 1) := by decide +kernel
theorem dX3_canBegin_34 : decode cX3_canBegin 34 = .ok (.getfield 20, 3) := by decide +kernel
theorem dX3_canBegin_37 : decode cX3_canBegin 37 = .ok (.getfield 55, 3) := by decide +kernel
theorem dX3_canBegin_40 : decode cX3_canBegin 40 = .ok (.if_icmp .ge 49, 3) := by decide +kernel
theorem dX3_canBegin_43 : decode cX3_canBegin 43 = .ok (.iload 5, 2) := by decide +kernel
theorem dX3_canBegin_45 : decode cX3_canBegin 45 = .ok (.bipush 6, 2) := by decide +kernel
theorem dX3_canBegin_47 : decode cX3_canBegin 47 = .ok (.if_icmp .ge 42, 3) := by decide +kernel
theorem dX3_canBegin_50 : decode cX3_canBegin 50 = .ok (.aload_n 0, 1) := by decide +kernel
theorem dX3_canBegin_51 : decode cX3_canBegin 51 = .ok (.getfield 24, 3) := by decide +kernel
theorem dX3_canBegin_54 : decode cX3_canBegin 54 = .ok (.aload_n 0, 1) := by decide +kernel
theorem dX3_canBegin_55 : decode cX3_canBegin 55 = .ok (.getfield 14, 3) := by decide +kernel
theorem dX3_canBegin_58 : decode cX3_canBegin 58 = .ok (.aload_n 0, 1) := by decide +kernel
theorem dX3_canBegin_59 : decode cX3_canBegin 59 = .ok (.getfield 20, 3) := by decide +kernel
theorem dX3_canBegin_62 : decode cX3_canBegin 62 = .ok (.getfield 60, 3) := by decide +kernel
theorem dX3_canBegin_65 : decode cX3_canBegin 65 = .ok (.iload 5, 2) := by decide +kernel
theorem dX3_canBegin_67 : decode cX3_canBegin 67 = .ok (.aaload, 1) := by decide +kernel
theorem dX3_canBegin_68 : decode cX3_canBegin 68 = .ok (.aload_n 0, 1) := by decide +kernel
theorem dX3_canBegin_69 : decode cX3_canBegin 69 = .ok (.getfield 32, 3) := by decide +kernel
theorem dX3_canBegin_72 : decode cX3_canBegin 72 = .ok (.iload_n 3, 1) := by decide +kernel
theorem dX3_canBegin_73 : decode cX3_canBegin 73 = .ok (.iload 4, 2) := by decide +kernel
theorem dX3_canBegin_75 : decode cX3_canBegin 75 = .ok (.invokevirtual 86, 3) := by decide +kernel
theorem dX3_canBegin_78 : decode cX3_canBegin 78 = .ok (.ifCond .ne 5, 3) := by decide +kernel
theorem dX3_canBegin_81 : decode cX3_canBegin 81 = .ok (.iconst 0, 1) := by decide +kernel
theorem dX3_canBegin_82 : decode cX3_canBegin 82 = .ok (.ireturn, 1) := by decide +kernel
theorem dX3_canBegin_83 : decode cX3_canBegin 83 = .ok (.iinc 5 1, 3) := by decide +kernel
theorem dX3_canBegin_86 : decode cX3_canBegin 86 = .ok (.goto (-55), 3) := by decide +kernel
theorem dX3_canBegin_89 : decode cX3_canBegin 89 = .ok (.iconst 1, 1) := by decide +kernel
theorem dX3_canBegin_90 : decode cX3_canBegin 90 = .ok (.ireturn, 1) := by decide +kernel
theorem dX4_init_0 : decode cX4_init 0 = .ok (.aload_n 0, 1) := by decide +kernel
theorem dX4_init_1 : decode cX4_init 1 = .ok (.invokespecial 3, 3) := by decide +kernel
theorem dX4_init_4 : decode cX4_init 4 = .ok (.aload_n 0, 1) := by decide +kernel
theorem dX4_init_5 : decode cX4_init 5 = .ok (.iconst (-1), 1) := by decide +kernel
theorem dX4_init_6 : decode cX4_init 6 = .ok (.putfield 9, 3) := by decide +kernel
theorem dX4_init_9 : decode cX4_init 9 = .ok (.aload_n 0, 1) := by decide +kernel
theorem dX4_init_10 : decode cX4_init 10 = .ok (.new 15, 3) := by decide +kernel
theorem dX4_init_13 : decode cX4_init 13 = .ok (.dup, 1) := by decide +kernel
theorem dX4_init_14 : decode cX4_init 14 = .ok (.bipush 40, 2) := by decide +kernel
theorem dX4_init_16 : decode cX4_init 16 = .ok (.invokespecial 17, 3) := by decide +kernel
theorem dX4_init_19 : decode cX4_init 19 = .ok (.putfield 20, 3) := by decide +kernel
theorem dX4_init_22 : decode cX4_init 22 = .ok (.return_, 1) := by decide +kernel
theorem dX5_init_0 : decode cX5_init 0 = .ok (.aload_n 0, 1) := by decide +kernel
theorem dX5_init_1 : decode cX5_init 1 = .ok (.invokespecial 3, 3) := by decide +kernel
theorem dX5_init_4 : decode cX5_init 4 = .ok (.aload_n 0, 1) := by decide +kernel
theorem dX5_init_5 : decode cX5_init 5 = .ok (.new 9, 3) := by decide +kernel
theorem dX5_init_8 : decode cX5_init 8 = .ok (.dup, 1) := by decide +kernel
theorem dX5_init_9 : decode cX5_init 9 = .ok (.invokespecial 11, 3) := by decide +kernel
theorem dX5_init_12 : decode cX5_init 12 = .ok (.putfield 12, 3) := by decide +kernel
theorem dX5_init_15 : decode cX5_init 15 = .ok (.aload_n 0, 1) := by decide +kernel
theorem dX5_init_16 : decode cX5_init 16 = .ok (.new 9, 3) := by decide +kernel
theorem dX5_init_19 : decode cX5_init 19 = .ok (.dup, 1) := by decide +kernel
theorem dX5_init_20 : decode cX5_init 20 = .ok (.invokespecial 11, 3) := by decide +kernel
theorem dX5_init_23 : decode cX5_init 23 = .ok (.putfield 18, 3) := by decide +kernel
theorem dX5_init_26 : decode cX5_init 26 = .ok (.aload_n 0, 1) := by decide +kernel
theorem dX5_init_27 : decode cX5_init 27 = .ok (.iconst 0, 1) := by decide +kernel
theorem dX5_init_28 : decode cX5_init 28 = .ok (.putfield 21, 3) := by decide +kernel
theorem dX5_init_31 : decode cX5_init 31 = .ok (.aload_n 0, 1) := by decide +kernel
theorem dX5_init_32 : decode cX5_init 32 = .ok (.new 25, 3) := by decide +kernel
theorem dX5_init_35 : decode cX5_init 35 = .ok (.dup, 1) := by decide +kernel
theorem dX5_init_36 : decode cX5_init 36 = .ok (.bipush 20, 2) := by decide +kernel
theorem dX5_init_38 : decode cX5_init 38 = .ok (.invokespecial 27, 3) := by decide +kernel
theorem dX5_init_41 : decode cX5_init 41 = .ok (.putfield 30, 3) := by decide +kernel
theorem dX5_init_44 : decode cX5_init 44 = .ok (.aload_n 0, 1) := by decide +kernel
theorem dX5_init_45 : decode cX5_init 45 = .ok (.iconst 4, 1) := by decide +kernel
theorem dX5_init_46 : decode cX5_init 46 = .ok (.anewarray 34, 3) := by decide +kernel
theorem dX5_init_49 : decode cX5_init 49 = .ok (.putfield 36, 3) := by decide +kernel
theorem dX5_init_52 : decode cX5_init 52 = .ok (.aload_n 0, 1) := by decide +kernel
theorem dX5_init_53 : decode cX5_init 53 = .ok (.new 40, 3) := by decide +kernel
theorem dX5_init_56 : decode cX5_init 56 = .ok (.dup, 1) := by decide +kernel
theorem dX5_init_57 : decode cX5_init 57 = .ok (.invokespecial 42, 3) := by decide +kernel
theorem dX5_init_60 : decode cX5_init 60 = .ok (.putfield 43, 3) := by decide +kernel
theorem dX5_init_63 : decode cX5_init 63 = .ok (.aload_n 0, 1) := by decide +kernel
theorem dX5_init_64 : decode cX5_init 64 = .ok (.new 47, 3) := by decide +kernel
theorem dX5_init_67 : decode cX5_init 67 = .ok (.dup, 1) := by decide +kernel
theorem dX5_init_68 : decode cX5_init 68 = .ok (.aload_n 0, 1) := by decide +kernel
theorem dX5_init_69 : decode cX5_init 69 = .ok (.getfield 12, 3) := by decide +kernel
theorem dX5_init_72 : decode cX5_init 72 = .ok (.aload_n 0, 1) := by decide +kernel
theorem dX5_init_73 : decode cX5_init 73 = .ok (.getfield 43, 3) := by decide +kernel
theorem dX5_init_76 : decode cX5_init 76 = .ok (.invokespecial 49, 3) := by decide +kernel
theorem dX5_init_79 : decode cX5_init 79 = .ok (.putfield 52, 3) := by decide +kernel
theorem dX5_init_82 : decode cX5_init 82 = .ok (.aload_n 0, 1) := by decide +kernel
theorem dX5_init_83 : decode cX5_init 83 = .ok (.new 25, 3) := by decide +kernel
theorem dX5_init_86 : decode cX5_init 86 = .ok (.dup, 1) := by decide +kernel
theorem dX5_init_87 : decode cX5_init 87 = .ok (.bipush 8, 2) := by decide +kernel
theorem dX5_init_89 : decode cX5_init 89 = .ok (.invokespecial 27, 3) := by decide +kernel
theorem dX5_init_92 : decode cX5_init 92 = .ok (.putfield 56, 3) := by decide +kernel
theorem dX5_init_95 : decode cX5_init 95 = .ok (.aload_n 0, 1) := by decide +kernel
theorem dX5_init_96 : decode cX5_init 96 = .ok (.new 25, 3) := by decide +kernel
theorem dX5_init_99 : decode cX5_init 99 = .ok (.dup, 1) := by decide +kernel
theorem dX5_init_100 : decode cX5_init 100 = .ok (.bipush 8, 2) := by decide +kernel
theorem dX5_init_102 : decode cX5_init 102 = .ok (.invokespecial 27, 3) := by decide +kernel
theorem dX5_init_105 : decode cX5_init 105 = .ok (.putfield 59, 3) := by decide +kernel
theorem dX5_init_108 : decode cX5_init 108 = .ok (.iconst 0, 1) := by decide +kernel
theorem dX5_init_109 : decode cX5_init 109 = .ok (.istore_n 1, 1) := by decide +kernel
theorem dX5_init_110 : decode cX5_init 110 = .ok (.iload_n 1, 1) := by decide +kernel
theorem dX5_init_111 : decode cX5_init 111 = .ok (.aload_n 0, 1) := by decide +kernel
theorem dX5_init_112 : decode cX5_init 112 = .ok (.getfield 36, 3) := by decide +kernel
theorem dX5_init_115 : decode cX5_init 115 = .ok (.arraylength, 1) := by decide +kernel
theorem dX5_init_116 : decode cX5_init 116 = .ok (.if_icmp .ge 22, 3) := by decide +kernel
theorem dX5_init_119 : decode cX5_init 119 = .ok (.aload_n 0, 1) := by decide +kernel
theorem dX5_init_120 : decode cX5_init 120 = .ok (.getfield 36, 3) := by decide +kernel
theorem dX5_init_123 : decode cX5_init 123 = .ok (.iload_n 1, 1) := by decide +kernel
theorem dX5_init_124 : decode cX5_init 124 = .ok (.new 34, 3) := by decide +kernel
theorem dX5_init_127 : decode cX5_init 127 = .ok (.dup, 1) := by decide +kernel
theorem dX5_init_128 : decode cX5_init 128 = .ok (.invokespecial 62, 3) := by decide +kernel
theorem dX5_init_131 : decode cX5_init 131 = .ok (.aastore, 1) := by decide +kernel
theorem dX5_init_132 : decode cX5_init 132 = .ok (.iinc 1 1, 3) := by decide +kernel
theorem dX5_init_135 : decode cX5_init 135 = .ok (.goto (-25), 3) := by decide +kernel
theorem dX5_init_138 : decode cX5_init 138 = .ok (.return_, 1) := by decide +kernel
theorem dX5_reset_0 : decode cX5_reset 0 = .ok (.iload_n 1, 1) := by decide +kernel
theorem dX5_reset_1 : decode cX5_reset 1 = .ok (.iconst 1, 1) := by decide +kernel
theorem dX5_reset_2 : decode cX5_reset 2 = .ok (.if_icmp .lt 8, 3) := by decide +kernel
theorem dX5_reset_5 : decode cX5_reset 5 = .ok (.iload_n 1, 1) := by decide +kernel
theorem dX5_reset_6 : decode cX5_reset 6 = .ok (.iconst 3, 1) := by decide +kernel
theorem dX5_reset_7 : decode cX5_reset 7 = .ok (.if_icmp .le 5, 3) := by decide +kernel
theorem dX5_reset_10 : decode cX5_reset 10 = .ok (.iconst (-1), 1) := by decide +kernel
theorem dX5_reset_11 : decode cX5_reset 11 = .ok (.ireturn, 1) := by decide +kernel
theorem dX5_reset_12 : decode cX5_reset 12 = .ok (.aload_n 0, 1) := by decide +kernel
theorem dX5_reset_13 : decode cX5_reset 13 = .ok (.getfield 12, 3) := by decide +kernel
theorem dX5_reset_16 : decode cX5_reset 16 = .ok (.getfield 63, 3) := by decide +kernel
theorem dX5_reset_19 : decode cX5_reset 19 = .ok (.istore_n 2, 1) := by decide +kernel
theorem dX5_reset_20 : decode cX5_reset 20 = .ok (.aload_n 0, 1) := by decide +kernel
theorem dX5_reset_21 : decode cX5_reset 21 = .ok (.getfield 12, 3) := by decide +kernel
theorem dX5_reset_24 : decode cX5_reset 24 = .ok (.iload_n 1, 1) := by decide +kernel
theorem dX5_reset_25 : decode cX5_reset 25 = .ok (.invokevirtual 67, 3) := by decide +kernel
theorem dX5_reset_28 : decode cX5_reset 28 = .ok (.iload_n 2, 1) := by decide +kernel
theorem dX5_reset_29 : decode cX5_reset 29 = .ok (.ireturn, 1) := by decide +kernel
theorem dX5_letters_0 : decode cX5_letters 0 = .ok (.aload_n 0, 1) := by decide +kernel
theorem dX5_letters_1 : decode cX5_letters 1 = .ok (.getfield 12, 3) := by decide +kernel
theorem dX5_letters_4 : decode cX5_letters 4 = .ok (.getfield 63, 3) := by decide +kernel
theorem dX5_letters_7 : decode cX5_letters 7 = .ok (.ireturn, 1) := by decide +kernel
theorem dX5_append_0 : decode cX5_append 0 = .ok (.iload_n 1, 1) := by decide +kernel
theorem dX5_append_1 : decode cX5_append 1 = .ok (.ifCond .lt 20, 3) := by decide +kernel
theorem dX5_append_4 : decode cX5_append 4 = .ok (.iload_n 1, 1) := by decide +kernel
theorem dX5_append_5 : decode cX5_append 5 = .ok (.bipush 127, 2) := by decide +kernel
theorem dX5_append_7 : decode cX5_append 7 = .ok (.if_icmp .gt 14, 3) := by decide +kernel
theorem dX5_append_10 : decode cX5_append 10 = .ok (.iload_n 2, 1) := by decide +kernel
theorem dX5_append_11 : decode cX5_append 11 = .ok (.iconst 1, 1) := by decide +kernel
theorem dX5_append_12 : decode cX5_append 12 = .ok (.if_icmp .lt 9, 3) := by decide +kernel
theorem dX5_append_15 : decode cX5_append 15 = .ok (.iload_n 2, 1) := by decide +kernel
theorem dX5_append_16 : decode cX5_append 16 = .ok (.bipush 20, 2) := by decide +kernel
theorem dX5_append_18 : decode cX5_append 18 = .ok (.if_icmp .le 5, 3) := by decide +kernel
theorem dX5_append_21 : decode cX5_append 21 = .ok (.iconst (-1), 1) := by decide +kernel
theorem dX5_append_22 : decode cX5_append 22 = .ok (.ireturn, 1) := by decide +kernel
theorem dX5_append_23 : decode cX5_append 23 = .ok (.aload_n 0, 1) := by decide +kernel
theorem dX5_append_24 : decode cX5_append 24 = .ok (.getfield 30, 3) := by decide +kernel
theorem dX5_append_27 : decode cX5_append 27 = .ok (.getfield 70, 3) := by decide +kernel
theorem dX5_append_30 : decode cX5_append 30 = .ok (.iload_n 2, 1) := by decide +kernel
theorem dX5_append_31 : decode cX5_append 31 = .ok (.iadd, 1) := by decide +kernel
theorem dX5_append_32 : decode cX5_append 32 = .ok (.bipush 20, 2) := by decide +kernel
theorem dX5_append_34 : decode cX5_append 34 = .ok (.if_icmp .le 6, 3) := by decide +kernel
theorem dX5_append_37 : decode cX5_append 37 = .ok (.bipush (-4), 2) := by decide +kernel
theorem dX5_append_39 : decode cX5_append 39 = .ok (.ireturn, 1) := by decide +kernel
theorem dX5_append_40 : decode cX5_append 40 = .ok (.iconst 0, 1) := by decide +kernel
theorem dX5_append_41 : decode cX5_append 41 = .ok (.istore_n 3, 1) := by decide +kernel
theorem dX5_append_42 : decode cX5_append 42 = .ok (.iload_n 3, 1) := by decide +kernel
theorem dX5_append_43 : decode cX5_append 43 = .ok (.iload_n 2, 1) := by decide +kernel
theorem dX5_append_44 : decode cX5_append 44 = .ok (.if_icmp .ge 18, 3) := by decide +kernel
theorem dX5_append_47 : decode cX5_append 47 = .ok (.aload_n 0, 1) := by decide +kernel
theorem dX5_append_48 : decode cX5_append 48 = .ok (.getfield 30, 3) := by decide +kernel
theorem dX5_append_51 : decode cX5_append 51 = .ok (.iload_n 1, 1) := by decide +kernel
theorem dX5_append_52 : decode cX5_append 52 = .ok (.invokevirtual 73, 3) := by decide +kernel
theorem dX5_append_55 : decode cX5_append 55 = .ok (.pop, 1) := by decide +kernel
theorem dX5_append_56 : decode cX5_append 56 = .ok (.iinc 3 1, 3) := by decide +kernel
theorem dX5_append_59 : decode cX5_append 59 = .ok (.goto (-17), 3) := by decide +kernel
theorem dX5_append_62 : decode cX5_append 62 = .ok (.aload_n 0, 1) := by decide +kernel
theorem dX5_append_63 : decode cX5_append 63 = .ok (.getfield 30, 3) := by decide +kernel
theorem dX5_append_66 : decode cX5_append 66 = .ok (.getfield 70, 3) := by decide +kernel
theorem dX5_append_69 : decode cX5_append 69 = .ok (.ireturn, 1) := by decide +kernel
theorem dX5_clearInput_0 : decode cX5_clearInput 0 = .ok (.aload_n 0, 1) := by decide +kernel
theorem dX5_clearInput_1 : decode cX5_clearInput 1 = .ok (.getfield 30, 3) := by decide +kernel
theorem dX5_clearInput_4 : decode cX5_clearInput 4 = .ok (.getfield 70, 3) := by decide +kernel
theorem dX5_clearInput_7 : decode cX5_clearInput 7 = .ok (.istore_n 1, 1) := by decide +kernel
theorem dX5_clearInput_8 : decode cX5_clearInput 8 = .ok (.aload_n 0, 1) := by decide +kernel
theorem dX5_clearInput_9 : decode cX5_clearInput 9 = .ok (.getfield 30, 3) := by decide +kernel
theorem dX5_clearInput_12 : decode cX5_clearInput 12 = .ok (.invokevirtual 77, 3) := by decide +kernel
theorem dX5_clearInput_15 : decode cX5_clearInput 15 = .ok (.iload_n 1, 1) := by decide +kernel
theorem dX5_clearInput_16 : decode cX5_clearInput 16 = .ok (.ireturn, 1) := by decide +kernel
theorem dX5_takePattern_0 : decode cX5_takePattern 0 = .ok (.aload_n 0, 1) := by decide +kernel
theorem dX5_takePattern_1 : decode cX5_takePattern 1 = .ok (.aload_n 0, 1) := by decide +kernel
theorem dX5_takePattern_2 : decode cX5_takePattern 2 = .ok (.getfield 30, 3) := by decide +kernel
theorem dX5_takePattern_5 : decode cX5_takePattern 5 = .ok (.invokevirtual 80, 3) := by decide +kernel
theorem dX5_takePattern_8 : decode cX5_takePattern 8 = .ok (.istore_n 1, 1) := by decide +kernel
theorem dX5_takePattern_9 : decode cX5_takePattern 9 = .ok (.aload_n 0, 1) := by decide +kernel
theorem dX5_takePattern_10 : decode cX5_takePattern 10 = .ok (.getfield 30, 3) := by decide +kernel
theorem dX5_takePattern_13 : decode cX5_takePattern 13 = .ok (.invokevirtual 77, 3) := by decide +kernel
theorem dX5_takePattern_16 : decode cX5_takePattern 16 = .ok (.iload_n 1, 1) := by decide +kernel
theorem dX5_takePattern_17 : decode cX5_takePattern 17 = .ok (.ireturn, 1) := by decide +kernel
theorem dX5_takeWord_0 : decode cX5_takeWord 0 = .ok (.aload_n 0, 1) := by decide +kernel
theorem dX5_takeWord_1 : decode cX5_takeWord 1 = .ok (.aload_n 0, 1) := by decide +kernel
theorem dX5_takeWord_2 : decode cX5_takeWord 2 = .ok (.getfield 30, 3) := by decide +kernel
theorem dX5_takeWord_5 : decode cX5_takeWord 5 = .ok (.invokevirtual 84, 3) := by decide +kernel
theorem dX5_takeWord_8 : decode cX5_takeWord 8 = .ok (.ifCond .eq 24, 3) := by decide +kernel
theorem dX5_takeWord_11 : decode cX5_takeWord 11 = .ok (.aload_n 0, 1) := by decide +kernel
theorem dX5_takeWord_12 : decode cX5_takeWord 12 = .ok (.getfield 56, 3) := by decide +kernel
theorem dX5_takeWord_15 : decode cX5_takeWord 15 = .ok (.invokevirtual 87, 3) := by decide +kernel
theorem dX5_takeWord_18 : decode cX5_takeWord 18 = .ok (.aload_n 0, 1) := by decide +kernel
theorem dX5_takeWord_19 : decode cX5_takeWord 19 = .ok (.getfield 56, 3) := by decide +kernel
theorem dX5_takeWord_22 : decode cX5_takeWord 22 = .ok (.getfield 70, 3) := by decide +kernel
theorem dX5_takeWord_25 : decode cX5_takeWord 25 = .ok (.if_icmp .ne 7, 3) := by decide +kernel
theorem dX5_takeWord_28 : decode cX5_takeWord 28 = .ok (.iconst 1, 1) := by decide +kernel
theorem dX5_takeWord_29 : decode cX5_takeWord 29 = .ok (.goto 4, 3) := by decide +kernel
theorem dX5_takeWord_32 : decode cX5_takeWord 32 = .ok (.iconst 0, 1) := by decide +kernel
theorem dX5_takeWord_33 : decode cX5_takeWord 33 = .ok (.istore_n 1, 1) := by decide +kernel
theorem dX5_takeWord_34 : decode cX5_takeWord 34 = .ok (.aload_n 0, 1) := by decide +kernel
theorem dX5_takeWord_35 : decode cX5_takeWord 35 = .ok (.getfield 30, 3) := by decide +kernel
theorem dX5_takeWord_38 : decode cX5_takeWord 38 = .ok (.invokevirtual 77, 3) := by decide +kernel
theorem dX5_takeWord_41 : decode cX5_takeWord 41 = .ok (.iload_n 1, 1) := by decide +kernel
theorem dX5_takeWord_42 : decode cX5_takeWord 42 = .ok (.ireturn, 1) := by decide +kernel
theorem dX5_readPattern_0 : decode cX5_readPattern 0 = .ok (.aload_n 0, 1) := by decide +kernel
theorem dX5_readPattern_1 : decode cX5_readPattern 1 = .ok (.aload_n 1, 1) := by decide +kernel
theorem dX5_readPattern_2 : decode cX5_readPattern 2 = .ok (.invokevirtual 84, 3) := by decide +kernel
theorem dX5_readPattern_5 : decode cX5_readPattern 5 = .ok (.ifCond .eq 14, 3) := by decide +kernel
theorem dX5_readPattern_8 : decode cX5_readPattern 8 = .ok (.aload_n 0, 1) := by decide +kernel
theorem dX5_readPattern_9 : decode cX5_readPattern 9 = .ok (.getfield 56, 3) := by decide +kernel
theorem dX5_readPattern_12 : decode cX5_readPattern 12 = .ok (.getfield 70, 3) := by decide +kernel
theorem dX5_readPattern_15 : decode cX5_readPattern 15 = .ok (.iconst 1, 1) := by decide +kernel
theorem dX5_readPattern_16 : decode cX5_readPattern 16 = .ok (.if_icmp .ge 5, 3) := by decide +kernel
theorem dX5_readPattern_19 : decode cX5_readPattern 19 = .ok (.iconst 0, 1) := by decide +kernel
theorem dX5_readPattern_20 : decode cX5_readPattern 20 = .ok (.ireturn, 1) := by decide +kernel
theorem dX5_readPattern_21 : decode cX5_readPattern 21 = .ok (.aload_n 0, 1) := by decide +kernel
theorem dX5_readPattern_22 : decode cX5_readPattern 22 = .ok (.getfield 56, 3) := by decide +kernel
theorem dX5_readPattern_25 : decode cX5_readPattern 25 = .ok (.invokevirtual 91, 3) := by decide +kernel
theorem dX5_readPattern_28 : decode cX5_readPattern 28 = .ok (.iconst 1, 1) := by decide +kernel
theorem dX5_readPattern_29 : decode cX5_readPattern 29 = .ok (.ireturn, 1) := by decide +kernel
theorem dX5_readSymbols_0 : decode cX5_readSymbols 0 = .ok (.aload_n 0, 1) := by decide +kernel
theorem dX5_readSymbols_1 : decode cX5_readSymbols 1 = .ok (.getfield 56, 3) := by decide +kernel
theorem dX5_readSymbols_4 : decode cX5_readSymbols 4 = .ok (.invokevirtual 77, 3) := by decide +kernel
theorem dX5_readSymbols_7 : decode cX5_readSymbols 7 = .ok (.aload_n 1, 1) := by decide +kernel
theorem dX5_readSymbols_8 : decode cX5_readSymbols 8 = .ok (.getfield 70, 3) := by decide +kernel
theorem dX5_readSymbols_11 : decode cX5_readSymbols 11 = .ok (.bipush 8, 2) := by decide +kernel
theorem dX5_readSymbols_13 : decode cX5_readSymbols 13 = .ok (.if_icmp .le 5, 3) := by decide +kernel
theorem dX5_readSymbols_16 : decode cX5_readSymbols 16 = .ok (.iconst 0, 1) := by decide +kernel
theorem dX5_readSymbols_17 : decode cX5_readSymbols 17 = .ok (.ireturn, 1) := by decide +kernel
theorem dX5_readSymbols_18 : decode cX5_readSymbols 18 = .ok (.iconst 0, 1) := by decide +kernel
theorem dX5_readSymbols_19 : decode cX5_readSymbols 19 = .ok (.istore_n 2, 1) := by decide +kernel
theorem dX5_readSymbols_20 : decode cX5_readSymbols 20 = .ok (.iload_n 2, 1) := by decide +kernel
theorem dX5_readSymbols_21 : decode cX5_readSymbols 21 = .ok (.aload_n 1, 1) := by decide +kernel
theorem dX5_readSymbols_22 : decode cX5_readSymbols 22 = .ok (.getfield 70, 3) := by decide +kernel
theorem dX5_readSymbols_25 : decode cX5_readSymbols 25 = .ok (.if_icmp .ge 35, 3) := by decide +kernel
theorem dX5_readSymbols_28 : decode cX5_readSymbols 28 = .ok (.aload_n 0, 1) := by decide +kernel
theorem dX5_readSymbols_29 : decode cX5_readSymbols 29 = .ok (.aload_n 1, 1) := by decide +kernel
theorem dX5_readSymbols_30 : decode cX5_readSymbols 30 = .ok (.iload_n 2, 1) := by decide +kernel
theorem dX5_readSymbols_31 : decode cX5_readSymbols 31 = .ok (.invokevirtual 94, 3) := by decide +kernel
theorem dX5_readSymbols_34 : decode cX5_readSymbols 34 = .ok (.invokevirtual 98, 3) := by decide +kernel
theorem dX5_readSymbols_37 : decode cX5_readSymbols 37 = .ok (.istore_n 3, 1) := by decide +kernel
theorem dX5_readSymbols_38 : decode cX5_readSymbols 38 = .ok (.iload_n 3, 1) := by decide +kernel
theorem dX5_readSymbols_39 : decode cX5_readSymbols 39 = .ok (.iconst (-1), 1) := by decide +kernel
theorem dX5_readSymbols_40 : decode cX5_readSymbols 40 = .ok (.if_icmp .ne 5, 3) := by decide +kernel
theorem dX5_readSymbols_43 : decode cX5_readSymbols 43 = .ok (.iconst 0, 1) := by decide +kernel
theorem dX5_readSymbols_44 : decode cX5_readSymbols 44 = .ok (.ireturn, 1) := by decide +kernel
theorem dX5_readSymbols_45 : decode cX5_readSymbols 45 = .ok (.aload_n 0, 1) := by decide +kernel
theorem dX5_readSymbols_46 : decode cX5_readSymbols 46 = .ok (.getfield 56, 3) := by decide +kernel
theorem dX5_readSymbols_49 : decode cX5_readSymbols 49 = .ok (.iload_n 3, 1) := by decide +kernel
theorem dX5_readSymbols_50 : decode cX5_readSymbols 50 = .ok (.invokevirtual 73, 3) := by decide +kernel
theorem dX5_readSymbols_53 : decode cX5_readSymbols 53 = .ok (.pop, 1) := by decide +kernel
theorem dX5_readSymbols_54 : decode cX5_readSymbols 54 = .ok (.iinc 2 1, 3) := by decide +kernel
theorem dX5_readSymbols_57 : decode cX5_readSymbols 57 = .ok (.goto (-37), 3) := by decide +kernel
theorem dX5_readSymbols_60 : decode cX5_readSymbols 60 = .ok (.iconst 1, 1) := by decide +kernel
theorem dX5_readSymbols_61 : decode cX5_readSymbols 61 = .ok (.ireturn, 1) := by decide +kernel
theorem dX5_codeOf_0 : decode cX5_codeOf 0 = .ok (.iload_n 1, 1) := by decide +kernel
theorem dX5_codeOf_1 : decode cX5_codeOf 1 = .ok (.tableswitch 43 87 90 #[40, 31, 34, 37], 31) := by decide +kernel
theorem dX5_codeOf_32 : decode cX5_codeOf 32 = .ok (.bipush 10, 2) := by decide +kernel
theorem dX5_codeOf_34 : decode cX5_codeOf 34 = .ok (.ireturn, 1) := by decide +kernel
theorem dX5_codeOf_35 : decode cX5_codeOf 35 = .ok (.bipush 11, 2) := by decide +kernel
theorem dX5_codeOf_37 : decode cX5_codeOf 37 = .ok (.ireturn, 1) := by decide +kernel
theorem dX5_codeOf_38 : decode cX5_codeOf 38 = .ok (.bipush 12, 2) := by decide +kernel
theorem dX5_codeOf_40 : decode cX5_codeOf 40 = .ok (.ireturn, 1) := by decide +kernel
theorem dX5_codeOf_41 : decode cX5_codeOf 41 = .ok (.bipush 13, 2) := by decide +kernel
theorem dX5_codeOf_43 : decode cX5_codeOf 43 = .ok (.ireturn, 1) := by decide +kernel
theorem dX5_codeOf_44 : decode cX5_codeOf 44 = .ok (.iload_n 1, 1) := by decide +kernel
theorem dX5_codeOf_45 : decode cX5_codeOf 45 = .ok (.bipush 97, 2) := by decide +kernel
theorem dX5_codeOf_47 : decode cX5_codeOf 47 = .ok (.if_icmp .lt 21, 3) := by decide +kernel
theorem dX5_codeOf_50 : decode cX5_codeOf 50 = .ok (.iload_n 1, 1) := by decide +kernel
theorem dX5_codeOf_51 : decode cX5_codeOf 51 = .ok (.bipush 97, 2) := by decide +kernel
theorem dX5_codeOf_53 : decode cX5_codeOf 53 = .ok (.aload_n 0, 1) := by decide +kernel
theorem dX5_codeOf_54 : decode cX5_codeOf 54 = .ok (.getfield 12, 3) := by decide +kernel
theorem dX5_codeOf_57 : decode cX5_codeOf 57 = .ok (.getfield 63, 3) := by decide +kernel
theorem dX5_codeOf_60 : decode cX5_codeOf 60 = .ok (.iadd, 1) := by decide +kernel
theorem dX5_codeOf_61 : decode cX5_codeOf 61 = .ok (.if_icmp .ge 7, 3) := by decide +kernel
theorem dX5_codeOf_64 : decode cX5_codeOf 64 = .ok (.iconst 1, 1) := by decide +kernel
theorem dX5_codeOf_65 : decode cX5_codeOf 65 = .ok (.goto 4, 3) := by decide +kernel
theorem dX5_codeOf_68 : decode cX5_codeOf 68 = .ok (.iconst 0, 1) := by decide +kernel
theorem dX5_codeOf_69 : decode cX5_codeOf 69 = .ok (.istore_n 2, 1) := by decide +kernel
theorem dX5_codeOf_70 : decode cX5_codeOf 70 = .ok (.iload_n 2, 1) := by decide +kernel
theorem dX5_codeOf_71 : decode cX5_codeOf 71 = .ok (.ifCond .eq 10, 3) := by decide +kernel
theorem dX5_codeOf_74 : decode cX5_codeOf 74 = .ok (.iload_n 1, 1) := by decide +kernel
theorem dX5_codeOf_75 : decode cX5_codeOf 75 = .ok (.bipush 97, 2) := by decide +kernel
theorem dX5_codeOf_77 : decode cX5_codeOf 77 = .ok (.isub, 1) := by decide +kernel
theorem dX5_codeOf_78 : decode cX5_codeOf 78 = .ok (.goto 4, 3) := by decide +kernel
theorem dX5_codeOf_81 : decode cX5_codeOf 81 = .ok (.iconst (-1), 1) := by decide +kernel
theorem dX5_codeOf_82 : decode cX5_codeOf 82 = .ok (.ireturn, 1) := by decide +kernel
theorem dX5_inputIs_0 : decode cX5_inputIs 0 = .ok (.aload_n 0, 1) := by decide +kernel
theorem dX5_inputIs_1 : decode cX5_inputIs 1 = .ok (.getfield 30, 3) := by decide +kernel
theorem dX5_inputIs_4 : decode cX5_inputIs 4 = .ok (.getfield 70, 3) := by decide +kernel
theorem dX5_inputIs_7 : decode cX5_inputIs 7 = .ok (.aload_n 1, 1) := by decide +kernel
theorem dX5_inputIs_8 : decode cX5_inputIs 8 = .ok (.invokevirtual 101, 3) := by decide +kernel
theorem dX5_inputIs_11 : decode cX5_inputIs 11 = .ok (.if_icmp .eq 5, 3) := by decide +kernel
theorem dX5_inputIs_14 : decode cX5_inputIs 14 = .ok (.iconst 0, 1) := by decide +kernel
theorem dX5_inputIs_15 : decode cX5_inputIs 15 = .ok (.ireturn, 1) := by decide +kernel
theorem dX5_inputIs_16 : decode cX5_inputIs 16 = .ok (.iconst 0, 1) := by decide +kernel
theorem dX5_inputIs_17 : decode cX5_inputIs 17 = .ok (.istore_n 2, 1) := by decide +kernel
theorem dX5_inputIs_18 : decode cX5_inputIs 18 = .ok (.iload_n 2, 1) := by decide +kernel
theorem dX5_inputIs_19 : decode cX5_inputIs 19 = .ok (.aload_n 1, 1) := by decide +kernel
theorem dX5_inputIs_20 : decode cX5_inputIs 20 = .ok (.invokevirtual 101, 3) := by decide +kernel
theorem dX5_inputIs_23 : decode cX5_inputIs 23 = .ok (.if_icmp .ge 27, 3) := by decide +kernel
theorem dX5_inputIs_26 : decode cX5_inputIs 26 = .ok (.aload_n 0, 1) := by decide +kernel
theorem dX5_inputIs_27 : decode cX5_inputIs 27 = .ok (.getfield 30, 3) := by decide +kernel
theorem dX5_inputIs_30 : decode cX5_inputIs 30 = .ok (.iload_n 2, 1) := by decide +kernel
theorem dX5_inputIs_31 : decode cX5_inputIs 31 = .ok (.invokevirtual 94, 3) := by decide +kernel
theorem dX5_inputIs_34 : decode cX5_inputIs 34 = .ok (.aload_n 1, 1) := by decide +kernel
theorem dX5_inputIs_35 : decode cX5_inputIs 35 = .ok (.iload_n 2, 1) := by decide +kernel
theorem dX5_inputIs_36 : decode cX5_inputIs 36 = .ok (.invokevirtual 106, 3) := by decide +kernel
theorem dX5_inputIs_39 : decode cX5_inputIs 39 = .ok (.if_icmp .eq 5, 3) := by decide +kernel
theorem dX5_inputIs_42 : decode cX5_inputIs 42 = .ok (.iconst 0, 1) := by decide +kernel
theorem dX5_inputIs_43 : decode cX5_inputIs 43 = .ok (.ireturn, 1) := by decide +kernel
theorem dX5_inputIs_44 : decode cX5_inputIs 44 = .ok (.iinc 2 1, 3) := by decide +kernel
theorem dX5_inputIs_47 : decode cX5_inputIs 47 = .ok (.goto (-29), 3) := by decide +kernel
theorem dX5_inputIs_50 : decode cX5_inputIs 50 = .ok (.iconst 1, 1) := by decide +kernel
theorem dX5_inputIs_51 : decode cX5_inputIs 51 = .ok (.ireturn, 1) := by decide +kernel
theorem dX5_setPattern_0 : decode cX5_setPattern 0 = .ok (.aload_n 0, 1) := by decide +kernel
theorem dX5_setPattern_1 : decode cX5_setPattern 1 = .ok (.invokevirtual 110, 3) := by decide +kernel
theorem dX5_setPattern_4 : decode cX5_setPattern 4 = .ok (.istore_n 2, 1) := by decide +kernel
theorem dX5_setPattern_5 : decode cX5_setPattern 5 = .ok (.iload_n 1, 1) := by decide +kernel
theorem dX5_setPattern_6 : decode cX5_setPattern 6 = .ok (.invokestatic 114, 3) := by decide +kernel
theorem dX5_setPattern_9 : decode cX5_setPattern 9 = .ok (.ifCond .ne 6, 3) := by decide +kernel
theorem dX5_setPattern_12 : decode cX5_setPattern 12 = .ok (.bipush (-2), 2) := by decide +kernel
theorem dX5_setPattern_14 : decode cX5_setPattern 14 = .ok (.ireturn, 1) := by decide +kernel
theorem dX5_setPattern_15 : decode cX5_setPattern 15 = .ok (.iload_n 2, 1) := by decide +kernel
theorem dX5_setPattern_16 : decode cX5_setPattern 16 = .ok (.ifCond .ne 6, 3) := by decide +kernel
theorem dX5_setPattern_19 : decode cX5_setPattern 19 = .ok (.bipush (-5), 2) := by decide +kernel
theorem dX5_setPattern_21 : decode cX5_setPattern 21 = .ok (.ireturn, 1) := by decide +kernel
theorem dX5_setPattern_22 : decode cX5_setPattern 22 = .ok (.aload_n 0, 1) := by decide +kernel
theorem dX5_setPattern_23 : decode cX5_setPattern 23 = .ok (.iload_n 1, 1) := by decide +kernel
theorem dX5_setPattern_24 : decode cX5_setPattern 24 = .ok (.aload_n 0, 1) := by decide +kernel
theorem dX5_setPattern_25 : decode cX5_setPattern 25 = .ok (.getfield 56, 3) := by decide +kernel
theorem dX5_setPattern_28 : decode cX5_setPattern 28 = .ok (.invokevirtual 117, 3) := by decide +kernel
theorem dX5_setPattern_31 : decode cX5_setPattern 31 = .ok (.ireturn, 1) := by decide +kernel
theorem dX5_copy_0 : decode cX5_copy 0 = .ok (.iload_n 1, 1) := by decide +kernel
theorem dX5_copy_1 : decode cX5_copy 1 = .ok (.invokestatic 114, 3) := by decide +kernel
theorem dX5_copy_4 : decode cX5_copy 4 = .ok (.ifCond .eq 10, 3) := by decide +kernel
theorem dX5_copy_7 : decode cX5_copy 7 = .ok (.iload_n 2, 1) := by decide +kernel
theorem dX5_copy_8 : decode cX5_copy 8 = .ok (.invokestatic 114, 3) := by decide +kernel
theorem dX5_copy_11 : decode cX5_copy 11 = .ok (.ifCond .ne 6, 3) := by decide +kernel
theorem dX5_copy_14 : decode cX5_copy 14 = .ok (.bipush (-2), 2) := by decide +kernel
theorem dX5_copy_16 : decode cX5_copy 16 = .ok (.ireturn, 1) := by decide +kernel
theorem dX5_copy_17 : decode cX5_copy 17 = .ok (.aload_n 0, 1) := by decide +kernel
theorem dX5_copy_18 : decode cX5_copy 18 = .ok (.iload_n 1, 1) := by decide +kernel
theorem dX5_copy_19 : decode cX5_copy 19 = .ok (.aload_n 0, 1) := by decide +kernel
theorem dX5_copy_20 : decode cX5_copy 20 = .ok (.getfield 12, 3) := by decide +kernel
theorem dX5_copy_23 : decode cX5_copy 23 = .ok (.getfield 121, 3) := by decide +kernel
theorem dX5_copy_26 : decode cX5_copy 26 = .ok (.iload_n 2, 1) := by decide +kernel
theorem dX5_copy_27 : decode cX5_copy 27 = .ok (.aaload, 1) := by decide +kernel
theorem dX5_copy_28 : decode cX5_copy 28 = .ok (.invokevirtual 117, 3) := by decide +kernel
theorem dX5_copy_31 : decode cX5_copy 31 = .ok (.ireturn, 1) := by decide +kernel
theorem dX5_length_0 : decode cX5_length 0 = .ok (.iload_n 1, 1) := by decide +kernel
theorem dX5_length_1 : decode cX5_length 1 = .ok (.invokestatic 114, 3) := by decide +kernel
theorem dX5_length_4 : decode cX5_length 4 = .ok (.ifCond .eq 18, 3) := by decide +kernel
theorem dX5_length_7 : decode cX5_length 7 = .ok (.aload_n 0, 1) := by decide +kernel
theorem dX5_length_8 : decode cX5_length 8 = .ok (.getfield 12, 3) := by decide +kernel
theorem dX5_length_11 : decode cX5_length 11 = .ok (.getfield 121, 3) := by decide +kernel
theorem dX5_length_14 : decode cX5_length 14 = .ok (.iload_n 1, 1) := by decide +kernel
theorem dX5_length_15 : decode cX5_length 15 = .ok (.aaload, 1) := by decide +kernel
theorem dX5_length_16 : decode cX5_length 16 = .ok (.getfield 70, 3) := by decide +kernel
theorem dX5_length_19 : decode cX5_length 19 = .ok (.goto 5, 3) := by decide +kernel
theorem dX5_length_22 : decode cX5_length 22 = .ok (.bipush (-2), 2) := by decide +kernel
theorem dX5_length_24 : decode cX5_length 24 = .ok (.ireturn, 1) := by decide +kernel
theorem dX5_symbol_0 : decode cX5_symbol 0 = .ok (.iload_n 1, 1) := by decide +kernel
theorem dX5_symbol_1 : decode cX5_symbol 1 = .ok (.invokestatic 114, 3) := by decide +kernel
theorem dX5_symbol_4 : decode cX5_symbol 4 = .ok (.ifCond .ne 6, 3) := by decide +kernel
theorem dX5_symbol_7 : decode cX5_symbol 7 = .ok (.bipush (-2), 2) := by decide +kernel
theorem dX5_symbol_9 : decode cX5_symbol 9 = .ok (.ireturn, 1) := by decide +kernel
theorem dX5_symbol_10 : decode cX5_symbol 10 = .ok (.aload_n 0, 1) := by decide +kernel
theorem dX5_symbol_11 : decode cX5_symbol 11 = .ok (.getfield 12, 3) := by decide +kernel
theorem dX5_symbol_14 : decode cX5_symbol 14 = .ok (.getfield 121, 3) := by decide +kernel
theorem dX5_symbol_17 : decode cX5_symbol 17 = .ok (.iload_n 1, 1) := by decide +kernel
theorem dX5_symbol_18 : decode cX5_symbol 18 = .ok (.aaload, 1) := by decide +kernel
theorem dX5_symbol_19 : decode cX5_symbol 19 = .ok (.iload_n 2, 1) := by decide +kernel
theorem dX5_symbol_20 : decode cX5_symbol 20 = .ok (.invokevirtual 94, 3) := by decide +kernel
theorem dX5_symbol_23 : decode cX5_symbol 23 = .ok (.istore_n 3, 1) := by decide +kernel
theorem dX5_symbol_24 : decode cX5_symbol 24 = .ok (.iload_n 3, 1) := by decide +kernel
theorem dX5_symbol_25 : decode cX5_symbol 25 = .ok (.iconst (-1), 1) := by decide +kernel
theorem dX5_symbol_26 : decode cX5_symbol 26 = .ok (.if_icmp .ne 8, 3) := by decide +kernel
theorem dX5_symbol_29 : decode cX5_symbol 29 = .ok (.bipush (-6), 2) := by decide +kernel
theorem dX5_symbol_31 : decode cX5_symbol 31 = .ok (.goto 4, 3) := by decide +kernel
theorem dX5_symbol_34 : decode cX5_symbol 34 = .ok (.iload_n 3, 1) := by decide +kernel
theorem dX5_symbol_35 : decode cX5_symbol 35 = .ok (.ireturn, 1) := by decide +kernel
theorem dX5_variableCount_0 : decode cX5_variableCount 0 = .ok (.iload_n 1, 1) := by decide +kernel
theorem dX5_variableCount_1 : decode cX5_variableCount 1 = .ok (.invokestatic 114, 3) := by decide +kernel
theorem dX5_variableCount_4 : decode cX5_variableCount 4 = .ok (.ifCond .eq 18, 3) := by decide +kernel
theorem dX5_variableCount_7 : decode cX5_variableCount 7 = .ok (.aload_n 0, 1) := by decide +kernel
theorem dX5_variableCount_8 : decode cX5_variableCount 8 = .ok (.getfield 12, 3) := by decide +kernel
theorem dX5_variableCount_11 : decode cX5_variableCount 11 = .ok (.getfield 121, 3) := by decide +kernel
theorem dX5_variableCount_14 : decode cX5_variableCount 14 = .ok (.iload_n 1, 1) := by decide +kernel
theorem dX5_variableCount_15 : decode cX5_variableCount 15 = .ok (.aaload, 1) := by decide +kernel
theorem dX5_variableCount_16 : decode cX5_variableCount 16 = .ok (.invokevirtual 125, 3) := by decide +kernel
theorem dX5_variableCount_19 : decode cX5_variableCount 19 = .ok (.goto 5, 3) := by decide +kernel
theorem dX5_variableCount_22 : decode cX5_variableCount 22 = .ok (.bipush (-2), 2) := by decide +kernel
theorem dX5_variableCount_24 : decode cX5_variableCount 24 = .ok (.ireturn, 1) := by decide +kernel
theorem dX5_occurrences_0 : decode cX5_occurrences 0 = .ok (.iload_n 1, 1) := by decide +kernel
theorem dX5_occurrences_1 : decode cX5_occurrences 1 = .ok (.invokestatic 114, 3) := by decide +kernel
theorem dX5_occurrences_4 : decode cX5_occurrences 4 = .ok (.ifCond .ne 6, 3) := by decide +kernel
theorem dX5_occurrences_7 : decode cX5_occurrences 7 = .ok (.bipush (-2), 2) := by decide +kernel
theorem dX5_occurrences_9 : decode cX5_occurrences 9 = .ok (.ireturn, 1) := by decide +kernel
theorem dX5_occurrences_10 : decode cX5_occurrences 10 = .ok (.aload_n 0, 1) := by decide +kernel
theorem dX5_occurrences_11 : decode cX5_occurrences 11 = .ok (.iload_n 1, 1) := by decide +kernel
theorem dX5_occurrences_12 : decode cX5_occurrences 12 = .ok (.iload_n 2, 1) := by decide +kernel
theorem dX5_occurrences_13 : decode cX5_occurrences 13 = .ok (.invokevirtual 128, 3) := by decide +kernel
theorem dX5_occurrences_16 : decode cX5_occurrences 16 = .ok (.ifCond .ne 6, 3) := by decide +kernel
theorem dX5_occurrences_19 : decode cX5_occurrences 19 = .ok (.bipush (-3), 2) := by decide +kernel
theorem dX5_occurrences_21 : decode cX5_occurrences 21 = .ok (.ireturn, 1) := by decide +kernel
theorem dX5_occurrences_22 : decode cX5_occurrences 22 = .ok (.aload_n 0, 1) := by decide +kernel
theorem dX5_occurrences_23 : decode cX5_occurrences 23 = .ok (.getfield 12, 3) := by decide +kernel
theorem dX5_occurrences_26 : decode cX5_occurrences 26 = .ok (.getfield 121, 3) := by decide +kernel
theorem dX5_occurrences_29 : decode cX5_occurrences 29 = .ok (.iload_n 1, 1) := by decide +kernel
theorem dX5_occurrences_30 : decode cX5_occurrences 30 = .ok (.aaload, 1) := by decide +kernel
theorem dX5_occurrences_31 : decode cX5_occurrences 31 = .ok (.bipush 10, 2) := by decide +kernel
theorem dX5_occurrences_33 : decode cX5_occurrences 33 = .ok (.iload_n 2, 1) := by decide +kernel
theorem dX5_occurrences_34 : decode cX5_occurrences 34 = .ok (.iadd, 1) := by decide +kernel
theorem dX5_occurrences_35 : decode cX5_occurrences 35 = .ok (.invokevirtual 132, 3) := by decide +kernel
theorem dX5_occurrences_38 : decode cX5_occurrences 38 = .ok (.ireturn, 1) := by decide +kernel
theorem dX5_compareQuality_0 : decode cX5_compareQuality 0 = .ok (.iload_n 1, 1) := by decide +kernel
theorem dX5_compareQuality_1 : decode cX5_compareQuality 1 = .ok (.invokestatic 114, 3) := by decide +kernel
theorem dX5_compareQuality_4 : decode cX5_compareQuality 4 = .ok (.ifCond .eq 10, 3) := by decide +kernel
theorem dX5_compareQuality_7 : decode cX5_compareQuality 7 = .ok (.iload_n 2, 1) := by decide +kernel
theorem dX5_compareQuality_8 : decode cX5_compareQuality 8 = .ok (.invokestatic 114, 3) := by decide +kernel
theorem dX5_compareQuality_11 : decode cX5_compareQuality 11 = .ok (.ifCond .ne 6, 3) := by decide +kernel
theorem dX5_compareQuality_14 : decode cX5_compareQuality 14 = .ok (.bipush (-2), 2) := by decide +kernel
theorem dX5_compareQuality_16 : decode cX5_compareQuality 16 = .ok (.ireturn, 1) := by decide +kernel
theorem dX5_compareQuality_17 : decode cX5_compareQuality 17 = .ok (.iconst 1, 1) := by decide +kernel
theorem dX5_compareQuality_18 : decode cX5_compareQuality 18 = .ok (.aload_n 0, 1) := by decide +kernel
theorem dX5_compareQuality_19 : decode cX5_compareQuality 19 = .ok (.getfield 12, 3) := by decide +kernel
theorem dX5_compareQuality_22 : decode cX5_compareQuality 22 = .ok (.getfield 121, 3) := by decide +kernel
theorem dX5_compareQuality_25 : decode cX5_compareQuality 25 = .ok (.iload_n 1, 1) := by decide +kernel
theorem dX5_compareQuality_26 : decode cX5_compareQuality 26 = .ok (.aaload, 1) := by decide +kernel
theorem dX5_compareQuality_27 : decode cX5_compareQuality 27 = .ok (.aload_n 0, 1) := by decide +kernel
theorem dX5_compareQuality_28 : decode cX5_compareQuality 28 = .ok (.getfield 12, 3) := by decide +kernel
theorem dX5_compareQuality_31 : decode cX5_compareQuality 31 = .ok (.getfield 121, 3) := by decide +kernel
theorem dX5_compareQuality_34 : decode cX5_compareQuality 34 = .ok (.iload_n 2, 1) := by decide +kernel
theorem dX5_compareQuality_35 : decode cX5_compareQuality 35 = .ok (.aaload, 1) := by decide +kernel
theorem dX5_compareQuality_36 : decode cX5_compareQuality 36 = .ok (.invokestatic 135, 3) := by decide +kernel
theorem dX5_compareQuality_39 : decode cX5_compareQuality 39 = .ok (.iadd, 1) := by decide +kernel
theorem dX5_compareQuality_40 : decode cX5_compareQuality 40 = .ok (.ireturn, 1) := by decide +kernel
theorem dX5_advantage_0 : decode cX5_advantage 0 = .ok (.aload_n 0, 1) := by decide +kernel
theorem dX5_advantage_1 : decode cX5_advantage 1 = .ok (.getfield 70, 3) := by decide +kernel
theorem dX5_advantage_4 : decode cX5_advantage 4 = .ok (.aload_n 1, 1) := by decide +kernel
theorem dX5_advantage_5 : decode cX5_advantage 5 = .ok (.getfield 70, 3) := by decide +kernel
theorem dX5_advantage_8 : decode cX5_advantage 8 = .ok (.if_icmp .eq 20, 3) := by decide +kernel
theorem dX5_advantage_11 : decode cX5_advantage 11 = .ok (.aload_n 0, 1) := by decide +kernel
theorem dX5_advantage_12 : decode cX5_advantage 12 = .ok (.getfield 70, 3) := by decide +kernel
theorem dX5_advantage_15 : decode cX5_advantage 15 = .ok (.aload_n 1, 1) := by decide +kernel
theorem dX5_advantage_16 : decode cX5_advantage 16 = .ok (.getfield 70, 3) := by decide +kernel
theorem dX5_advantage_19 : decode cX5_advantage 19 = .ok (.if_icmp .le 7, 3) := by decide +kernel
theorem dX5_advantage_22 : decode cX5_advantage 22 = .ok (.iconst 1, 1) := by decide +kernel
theorem dX5_advantage_23 : decode cX5_advantage 23 = .ok (.goto 4, 3) := by decide +kernel
theorem dX5_advantage_26 : decode cX5_advantage 26 = .ok (.iconst (-1), 1) := by decide +kernel
theorem dX5_advantage_27 : decode cX5_advantage 27 = .ok (.ireturn, 1) := by decide +kernel
theorem dX5_advantage_28 : decode cX5_advantage 28 = .ok (.aload_n 0, 1) := by decide +kernel
theorem dX5_advantage_29 : decode cX5_advantage 29 = .ok (.invokevirtual 87, 3) := by decide +kernel
theorem dX5_advantage_32 : decode cX5_advantage 32 = .ok (.aload_n 1, 1) := by decide +kernel
theorem dX5_advantage_33 : decode cX5_advantage 33 = .ok (.invokevirtual 87, 3) := by decide +kernel
theorem dX5_advantage_36 : decode cX5_advantage 36 = .ok (.invokestatic 139, 3) := by decide +kernel
theorem dX5_advantage_39 : decode cX5_advantage 39 = .ok (.istore_n 2, 1) := by decide +kernel
theorem dX5_advantage_40 : decode cX5_advantage 40 = .ok (.iload_n 2, 1) := by decide +kernel
theorem dX5_advantage_41 : decode cX5_advantage 41 = .ok (.ifCond .eq 5, 3) := by decide +kernel
theorem dX5_advantage_44 : decode cX5_advantage 44 = .ok (.iload_n 2, 1) := by decide +kernel
theorem dX5_advantage_45 : decode cX5_advantage 45 = .ok (.ireturn, 1) := by decide +kernel
theorem dX5_advantage_46 : decode cX5_advantage 46 = .ok (.aload_n 1, 1) := by decide +kernel
theorem dX5_advantage_47 : decode cX5_advantage 47 = .ok (.invokevirtual 125, 3) := by decide +kernel
theorem dX5_advantage_50 : decode cX5_advantage 50 = .ok (.aload_n 0, 1) := by decide +kernel
theorem dX5_advantage_51 : decode cX5_advantage 51 = .ok (.invokevirtual 125, 3) := by decide +kernel
theorem dX5_advantage_54 : decode cX5_advantage 54 = .ok (.invokestatic 139, 3) := by decide +kernel
theorem dX5_advantage_57 : decode cX5_advantage 57 = .ok (.istore_n 3, 1) := by decide +kernel
theorem dX5_advantage_58 : decode cX5_advantage 58 = .ok (.iload_n 3, 1) := by decide +kernel
theorem dX5_advantage_59 : decode cX5_advantage 59 = .ok (.ifCond .eq 5, 3) := by decide +kernel
theorem dX5_advantage_62 : decode cX5_advantage 62 = .ok (.iload_n 3, 1) := by decide +kernel
theorem dX5_advantage_63 : decode cX5_advantage 63 = .ok (.ireturn, 1) := by decide +kernel
theorem dX5_advantage_64 : decode cX5_advantage 64 = .ok (.iconst 0, 1) := by decide +kernel
theorem dX5_advantage_65 : decode cX5_advantage 65 = .ok (.istore 4, 2) := by decide +kernel
theorem dX5_advantage_67 : decode cX5_advantage 67 = .ok (.iload 4, 2) := by decide +kernel
theorem dX5_advantage_69 : decode cX5_advantage 69 = .ok (.aload_n 0, 1) := by decide +kernel
theorem dX5_advantage_70 : decode cX5_advantage 70 = .ok (.getfield 70, 3) := by decide +kernel
theorem dX5_advantage_73 : decode cX5_advantage 73 = .ok (.if_icmp .ge 45, 3) := by decide +kernel
theorem dX5_advantage_76 : decode cX5_advantage 76 = .ok (.aload_n 0, 1) := by decide +kernel
theorem dX5_advantage_77 : decode cX5_advantage 77 = .ok (.iload 4, 2) := by decide +kernel
theorem dX5_advantage_79 : decode cX5_advantage 79 = .ok (.invokevirtual 94, 3) := by decide +kernel
theorem dX5_advantage_82 : decode cX5_advantage 82 = .ok (.aload_n 1, 1) := by decide +kernel
theorem dX5_advantage_83 : decode cX5_advantage 83 = .ok (.iload 4, 2) := by decide +kernel
theorem dX5_advantage_85 : decode cX5_advantage 85 = .ok (.invokevirtual 94, 3) := by decide +kernel
theorem dX5_advantage_88 : decode cX5_advantage 88 = .ok (.if_icmp .eq 24, 3) := by decide +kernel
theorem dX5_advantage_91 : decode cX5_advantage 91 = .ok (.aload_n 0, 1) := by decide +kernel
theorem dX5_advantage_92 : decode cX5_advantage 92 = .ok (.iload 4, 2) := by decide +kernel
theorem dX5_advantage_94 : decode cX5_advantage 94 = .ok (.invokevirtual 94, 3) := by decide +kernel
theorem dX5_advantage_97 : decode cX5_advantage 97 = .ok (.aload_n 1, 1) := by decide +kernel
theorem dX5_advantage_98 : decode cX5_advantage 98 = .ok (.iload 4, 2) := by decide +kernel
theorem dX5_advantage_100 : decode cX5_advantage 100 = .ok (.invokevirtual 94, 3) := by decide +kernel
theorem dX5_advantage_103 : decode cX5_advantage 103 = .ok (.if_icmp .ge 7, 3) := by decide +kernel
theorem dX5_advantage_106 : decode cX5_advantage 106 = .ok (.iconst 1, 1) := by decide +kernel
theorem dX5_advantage_107 : decode cX5_advantage 107 = .ok (.goto 4, 3) := by decide +kernel
theorem dX5_advantage_110 : decode cX5_advantage 110 = .ok (.iconst (-1), 1) := by decide +kernel
theorem dX5_advantage_111 : decode cX5_advantage 111 = .ok (.ireturn, 1) := by decide +kernel
theorem dX5_advantage_112 : decode cX5_advantage 112 = .ok (.iinc 4 1, 3) := by decide +kernel
theorem dX5_advantage_115 : decode cX5_advantage 115 = .ok (.goto (-48), 3) := by decide +kernel
theorem dX5_advantage_118 : decode cX5_advantage 118 = .ok (.iconst 0, 1) := by decide +kernel
theorem dX5_advantage_119 : decode cX5_advantage 119 = .ok (.ireturn, 1) := by decide +kernel
theorem dX5_store_0 : decode cX5_store 0 = .ok (.aload_n 0, 1) := by decide +kernel
theorem dX5_store_1 : decode cX5_store 1 = .ok (.getfield 12, 3) := by decide +kernel
theorem dX5_store_4 : decode cX5_store 4 = .ok (.getfield 121, 3) := by decide +kernel
theorem dX5_store_7 : decode cX5_store 7 = .ok (.iload_n 1, 1) := by decide +kernel
theorem dX5_store_8 : decode cX5_store 8 = .ok (.aaload, 1) := by decide +kernel
theorem dX5_store_9 : decode cX5_store 9 = .ok (.aload_n 2, 1) := by decide +kernel
theorem dX5_store_10 : decode cX5_store 10 = .ok (.invokevirtual 145, 3) := by decide +kernel
theorem dX5_store_13 : decode cX5_store 13 = .ok (.aload_n 2, 1) := by decide +kernel
theorem dX5_store_14 : decode cX5_store 14 = .ok (.getfield 70, 3) := by decide +kernel
theorem dX5_store_17 : decode cX5_store 17 = .ok (.ireturn, 1) := by decide +kernel
theorem dX5_isRegister_0 : decode cX5_isRegister 0 = .ok (.iload_n 0, 1) := by decide +kernel
theorem dX5_isRegister_1 : decode cX5_isRegister 1 = .ok (.ifCond .lt 13, 3) := by decide +kernel
theorem dX5_isRegister_4 : decode cX5_isRegister 4 = .ok (.iload_n 0, 1) := by decide +kernel
theorem dX5_isRegister_5 : decode cX5_isRegister 5 = .ok (.bipush 6, 2) := by decide +kernel
theorem dX5_isRegister_7 : decode cX5_isRegister 7 = .ok (.if_icmp .ge 7, 3) := by decide +kernel
theorem dX5_isRegister_10 : decode cX5_isRegister 10 = .ok (.iconst 1, 1) := by decide +kernel
theorem dX5_isRegister_11 : decode cX5_isRegister 11 = .ok (.goto 4, 3) := by decide +kernel
theorem dX5_isRegister_14 : decode cX5_isRegister 14 = .ok (.iconst 0, 1) := by decide +kernel
theorem dX5_isRegister_15 : decode cX5_isRegister 15 = .ok (.ireturn, 1) := by decide +kernel
theorem dX5_isVariable_0 : decode cX5_isVariable 0 = .ok (.iload_n 0, 1) := by decide +kernel
theorem dX5_isVariable_1 : decode cX5_isVariable 1 = .ok (.ifCond .lt 12, 3) := by decide +kernel
theorem dX5_isVariable_4 : decode cX5_isVariable 4 = .ok (.iload_n 0, 1) := by decide +kernel
theorem dX5_isVariable_5 : decode cX5_isVariable 5 = .ok (.iconst 4, 1) := by decide +kernel
theorem dX5_isVariable_6 : decode cX5_isVariable 6 = .ok (.if_icmp .ge 7, 3) := by decide +kernel
theorem dX5_isVariable_9 : decode cX5_isVariable 9 = .ok (.iconst 1, 1) := by decide +kernel
theorem dX5_isVariable_10 : decode cX5_isVariable 10 = .ok (.goto 4, 3) := by decide +kernel
theorem dX5_isVariable_13 : decode cX5_isVariable 13 = .ok (.iconst 0, 1) := by decide +kernel
theorem dX5_isVariable_14 : decode cX5_isVariable 14 = .ok (.ireturn, 1) := by decide +kernel
theorem dX5_isMode_0 : decode cX5_isMode 0 = .ok (.iload_n 0, 1) := by decide +kernel
theorem dX5_isMode_1 : decode cX5_isMode 1 = .ok (.ifCond .eq 8, 3) := by decide +kernel
theorem dX5_isMode_4 : decode cX5_isMode 4 = .ok (.iload_n 0, 1) := by decide +kernel
theorem dX5_isMode_5 : decode cX5_isMode 5 = .ok (.iconst 1, 1) := by decide +kernel
theorem dX5_isMode_6 : decode cX5_isMode 6 = .ok (.if_icmp .ne 7, 3) := by decide +kernel
theorem dX5_isMode_9 : decode cX5_isMode 9 = .ok (.iconst 1, 1) := by decide +kernel
theorem dX5_isMode_10 : decode cX5_isMode 10 = .ok (.goto 4, 3) := by decide +kernel
theorem dX5_isMode_13 : decode cX5_isMode 13 = .ok (.iconst 0, 1) := by decide +kernel
theorem dX5_isMode_14 : decode cX5_isMode 14 = .ok (.ireturn, 1) := by decide +kernel
theorem dX5_hasVariable_0 : decode cX5_hasVariable 0 = .ok (.iload_n 2, 1) := by decide +kernel
theorem dX5_hasVariable_1 : decode cX5_hasVariable 1 = .ok (.invokestatic 149, 3) := by decide +kernel
theorem dX5_hasVariable_4 : decode cX5_hasVariable 4 = .ok (.ifCond .eq 26, 3) := by decide +kernel
theorem dX5_hasVariable_7 : decode cX5_hasVariable 7 = .ok (.aload_n 0, 1) := by decide +kernel
theorem dX5_hasVariable_8 : decode cX5_hasVariable 8 = .ok (.getfield 12, 3) := by decide +kernel
theorem dX5_hasVariable_11 : decode cX5_hasVariable 11 = .ok (.getfield 121, 3) := by decide +kernel
theorem dX5_hasVariable_14 : decode cX5_hasVariable 14 = .ok (.iload_n 1, 1) := by decide +kernel
theorem dX5_hasVariable_15 : decode cX5_hasVariable 15 = .ok (.aaload, 1) := by decide +kernel
theorem dX5_hasVariable_16 : decode cX5_hasVariable 16 = .ok (.bipush 10, 2) := by decide +kernel
theorem dX5_hasVariable_18 : decode cX5_hasVariable 18 = .ok (.iload_n 2, 1) := by decide +kernel
theorem dX5_hasVariable_19 : decode cX5_hasVariable 19 = .ok (.iadd, 1) := by decide +kernel
theorem dX5_hasVariable_20 : decode cX5_hasVariable 20 = .ok (.invokevirtual 132, 3) := by decide +kernel
theorem dX5_hasVariable_23 : decode cX5_hasVariable 23 = .ok (.ifCond .le 7, 3) := by decide +kernel
theorem dX5_hasVariable_26 : decode cX5_hasVariable 26 = .ok (.iconst 1, 1) := by decide +kernel
theorem dX5_hasVariable_27 : decode cX5_hasVariable 27 = .ok (.goto 4, 3) := by decide +kernel
theorem dX5_hasVariable_30 : decode cX5_hasVariable 30 = .ok (.iconst 0, 1) := by decide +kernel
theorem dX5_hasVariable_31 : decode cX5_hasVariable 31 = .ok (.ireturn, 1) := by decide +kernel
theorem dX5_replace_0 : decode cX5_replace 0 = .ok (.iload_n 1, 1) := by decide +kernel
theorem dX5_replace_1 : decode cX5_replace 1 = .ok (.invokestatic 114, 3) := by decide +kernel
theorem dX5_replace_4 : decode cX5_replace 4 = .ok (.ifCond .ne 6, 3) := by decide +kernel
theorem dX5_replace_7 : decode cX5_replace 7 = .ok (.bipush (-2), 2) := by decide +kernel
theorem dX5_replace_9 : decode cX5_replace 9 = .ok (.ireturn, 1) := by decide +kernel
theorem dX5_replace_10 : decode cX5_replace 10 = .ok (.aload_n 0, 1) := by decide +kernel
theorem dX5_replace_11 : decode cX5_replace 11 = .ok (.iload_n 1, 1) := by decide +kernel
theorem dX5_replace_12 : decode cX5_replace 12 = .ok (.iload_n 2, 1) := by decide +kernel
theorem dX5_replace_13 : decode cX5_replace 13 = .ok (.invokevirtual 128, 3) := by decide +kernel
theorem dX5_replace_16 : decode cX5_replace 16 = .ok (.ifCond .ne 6, 3) := by decide +kernel
theorem dX5_replace_19 : decode cX5_replace 19 = .ok (.bipush (-3), 2) := by decide +kernel
theorem dX5_replace_21 : decode cX5_replace 21 = .ok (.ireturn, 1) := by decide +kernel
theorem dX5_replace_22 : decode cX5_replace 22 = .ok (.iload_n 3, 1) := by decide +kernel
theorem dX5_replace_23 : decode cX5_replace 23 = .ok (.ifCond .lt 14, 3) := by decide +kernel
theorem dX5_replace_26 : decode cX5_replace 26 = .ok (.iload_n 3, 1) := by decide +kernel
theorem dX5_replace_27 : decode cX5_replace 27 = .ok (.aload_n 0, 1) := by decide +kernel
theorem dX5_replace_28 : decode cX5_replace 28 = .ok (.getfield 12, 3) := by decide +kernel
theorem dX5_replace_31 : decode cX5_replace 31 = .ok (.getfield 63, 3) := by decide +kernel
theorem dX5_replace_34 : decode cX5_replace 34 = .ok (.if_icmp .lt 5, 3) := by decide +kernel
theorem dX5_replace_37 : decode cX5_replace 37 = .ok (.iconst (-1), 1) := by decide +kernel
theorem dX5_replace_38 : decode cX5_replace 38 = .ok (.ireturn, 1) := by decide +kernel
theorem dX5_replace_39 : decode cX5_replace 39 = .ok (.aload_n 0, 1) := by decide +kernel
theorem dX5_replace_40 : decode cX5_replace 40 = .ok (.iload_n 1, 1) := by decide +kernel
theorem dX5_replace_41 : decode cX5_replace 41 = .ok (.iload_n 2, 1) := by decide +kernel
theorem dX5_replace_42 : decode cX5_replace 42 = .ok (.iload_n 3, 1) := by decide +kernel
theorem dX5_replace_43 : decode cX5_replace 43 = .ok (.invokevirtual 152, 3) := by decide +kernel
theorem dX5_replace_46 : decode cX5_replace 46 = .ok (.ireturn, 1) := by decide +kernel
theorem dX5_merge_0 : decode cX5_merge 0 = .ok (.iload_n 1, 1) := by decide +kernel
theorem dX5_merge_1 : decode cX5_merge 1 = .ok (.invokestatic 114, 3) := by decide +kernel
theorem dX5_merge_4 : decode cX5_merge 4 = .ok (.ifCond .ne 6, 3) := by decide +kernel
theorem dX5_merge_7 : decode cX5_merge 7 = .ok (.bipush (-2), 2) := by decide +kernel
theorem dX5_merge_9 : decode cX5_merge 9 = .ok (.ireturn, 1) := by decide +kernel
theorem dX5_merge_10 : decode cX5_merge 10 = .ok (.aload_n 0, 1) := by decide +kernel
theorem dX5_merge_11 : decode cX5_merge 11 = .ok (.iload_n 1, 1) := by decide +kernel
theorem dX5_merge_12 : decode cX5_merge 12 = .ok (.iload_n 2, 1) := by decide +kernel
theorem dX5_merge_13 : decode cX5_merge 13 = .ok (.invokevirtual 128, 3) := by decide +kernel
theorem dX5_merge_16 : decode cX5_merge 16 = .ok (.ifCond .eq 12, 3) := by decide +kernel
theorem dX5_merge_19 : decode cX5_merge 19 = .ok (.aload_n 0, 1) := by decide +kernel
theorem dX5_merge_20 : decode cX5_merge 20 = .ok (.iload_n 1, 1) := by decide +kernel
theorem dX5_merge_21 : decode cX5_merge 21 = .ok (.iload_n 3, 1) := by decide +kernel
theorem dX5_merge_22 : decode cX5_merge 22 = .ok (.invokevirtual 128, 3) := by decide +kernel
theorem dX5_merge_25 : decode cX5_merge 25 = .ok (.ifCond .ne 6, 3) := by decide +kernel
theorem dX5_merge_28 : decode cX5_merge 28 = .ok (.bipush (-3), 2) := by decide +kernel
theorem dX5_merge_30 : decode cX5_merge 30 = .ok (.ireturn, 1) := by decide +kernel
theorem dX5_merge_31 : decode cX5_merge 31 = .ok (.iload_n 2, 1) := by decide +kernel
theorem dX5_merge_32 : decode cX5_merge 32 = .ok (.iload_n 3, 1) := by decide +kernel
theorem dX5_merge_33 : decode cX5_merge 33 = .ok (.if_icmp .ne 5, 3) := by decide +kernel
theorem dX5_merge_36 : decode cX5_merge 36 = .ok (.iconst (-1), 1) := by decide +kernel
theorem dX5_merge_37 : decode cX5_merge 37 = .ok (.ireturn, 1) := by decide +kernel
theorem dX5_merge_38 : decode cX5_merge 38 = .ok (.aload_n 0, 1) := by decide +kernel
theorem dX5_merge_39 : decode cX5_merge 39 = .ok (.iload_n 1, 1) := by decide +kernel
theorem dX5_merge_40 : decode cX5_merge 40 = .ok (.iload_n 2, 1) := by decide +kernel
theorem dX5_merge_41 : decode cX5_merge 41 = .ok (.bipush 10, 2) := by decide +kernel
theorem dX5_merge_43 : decode cX5_merge 43 = .ok (.iload_n 3, 1) := by decide +kernel
theorem dX5_merge_44 : decode cX5_merge 44 = .ok (.iadd, 1) := by decide +kernel
theorem dX5_merge_45 : decode cX5_merge 45 = .ok (.invokevirtual 152, 3) := by decide +kernel
theorem dX5_merge_48 : decode cX5_merge 48 = .ok (.ireturn, 1) := by decide +kernel
theorem dX5_putForVariable_0 : decode cX5_putForVariable 0 = .ok (.aload_n 0, 1) := by decide +kernel
theorem dX5_putForVariable_1 : decode cX5_putForVariable 1 = .ok (.getfield 12, 3) := by decide +kernel
theorem dX5_putForVariable_4 : decode cX5_putForVariable 4 = .ok (.getfield 121, 3) := by decide +kernel
theorem dX5_putForVariable_7 : decode cX5_putForVariable 7 = .ok (.iload_n 1, 1) := by decide +kernel
theorem dX5_putForVariable_8 : decode cX5_putForVariable 8 = .ok (.aaload, 1) := by decide +kernel
theorem dX5_putForVariable_9 : decode cX5_putForVariable 9 = .ok (.astore 4, 2) := by decide +kernel
theorem dX5_putForVariable_11 : decode cX5_putForVariable 11 = .ok (.aload 4, 2) := by decide +kernel
theorem dX5_putForVariable_13 : decode cX5_putForVariable 13 = .ok (.bipush 10, 2) := by decide +kernel
theorem dX5_putForVariable_15 : decode cX5_putForVariable 15 = .ok (.iload_n 2, 1) := by decide +kernel
theorem dX5_putForVariable_16 : decode cX5_putForVariable 16 = .ok (.iadd, 1) := by decide +kernel
theorem dX5_putForVariable_17 : decode cX5_putForVariable 17 = .ok (.bipush 10, 2) := by decide +kernel
theorem dX5_putForVariable_19 : decode cX5_putForVariable 19 = .ok (.iload_n 2, 1) := by decide +kernel
theorem dX5_putForVariable_20 : decode cX5_putForVariable 20 = .ok (.iadd, 1) := by decide +kernel
theorem dX5_putForVariable_21 : decode cX5_putForVariable 21 = .ok (.iload_n 3, 1) := by decide +kernel
theorem dX5_putForVariable_22 : decode cX5_putForVariable 22 = .ok (.invokevirtual 156, 3) := by decide +kernel
theorem dX5_putForVariable_25 : decode cX5_putForVariable 25 = .ok (.aload 4, 2) := by decide +kernel
theorem dX5_putForVariable_27 : decode cX5_putForVariable 27 = .ok (.invokevirtual 91, 3) := by decide +kernel
theorem dX5_putForVariable_30 : decode cX5_putForVariable 30 = .ok (.aload 4, 2) := by decide +kernel
theorem dX5_putForVariable_32 : decode cX5_putForVariable 32 = .ok (.invokevirtual 125, 3) := by decide +kernel
theorem dX5_putForVariable_35 : decode cX5_putForVariable 35 = .ok (.ireturn, 1) := by decide +kernel
theorem dX5_split_0 : decode cX5_split 0 = .ok (.iload_n 1, 1) := by decide +kernel
theorem dX5_split_1 : decode cX5_split 1 = .ok (.invokestatic 114, 3) := by decide +kernel
theorem dX5_split_4 : decode cX5_split 4 = .ok (.ifCond .ne 6, 3) := by decide +kernel
theorem dX5_split_7 : decode cX5_split 7 = .ok (.bipush (-2), 2) := by decide +kernel
theorem dX5_split_9 : decode cX5_split 9 = .ok (.ireturn, 1) := by decide +kernel
theorem dX5_split_10 : decode cX5_split 10 = .ok (.aload_n 0, 1) := by decide +kernel
theorem dX5_split_11 : decode cX5_split 11 = .ok (.iload_n 1, 1) := by decide +kernel
theorem dX5_split_12 : decode cX5_split 12 = .ok (.iload_n 2, 1) := by decide +kernel
theorem dX5_split_13 : decode cX5_split 13 = .ok (.invokevirtual 128, 3) := by decide +kernel
theorem dX5_split_16 : decode cX5_split 16 = .ok (.ifCond .ne 6, 3) := by decide +kernel
theorem dX5_split_19 : decode cX5_split 19 = .ok (.bipush (-3), 2) := by decide +kernel
theorem dX5_split_21 : decode cX5_split 21 = .ok (.ireturn, 1) := by decide +kernel
theorem dX5_split_22 : decode cX5_split 22 = .ok (.aload_n 0, 1) := by decide +kernel
theorem dX5_split_23 : decode cX5_split 23 = .ok (.getfield 12, 3) := by decide +kernel
theorem dX5_split_26 : decode cX5_split 26 = .ok (.getfield 121, 3) := by decide +kernel
theorem dX5_split_29 : decode cX5_split 29 = .ok (.iload_n 1, 1) := by decide +kernel
theorem dX5_split_30 : decode cX5_split 30 = .ok (.aaload, 1) := by decide +kernel
theorem dX5_split_31 : decode cX5_split 31 = .ok (.astore_n 3, 1) := by decide +kernel
theorem dX5_split_32 : decode cX5_split 32 = .ok (.bipush 10, 2) := by decide +kernel
theorem dX5_split_34 : decode cX5_split 34 = .ok (.iload_n 2, 1) := by decide +kernel
theorem dX5_split_35 : decode cX5_split 35 = .ok (.iadd, 1) := by decide +kernel
theorem dX5_split_36 : decode cX5_split 36 = .ok (.istore 4, 2) := by decide +kernel
theorem dX5_split_38 : decode cX5_split 38 = .ok (.aload_n 3, 1) := by decide +kernel
theorem dX5_split_39 : decode cX5_split 39 = .ok (.invokevirtual 125, 3) := by decide +kernel
theorem dX5_split_42 : decode cX5_split 42 = .ok (.istore 5, 2) := by decide +kernel
theorem dX5_split_44 : decode cX5_split 44 = .ok (.iload 5, 2) := by decide +kernel
theorem dX5_split_46 : decode cX5_split 46 = .ok (.iconst 4, 1) := by decide +kernel
theorem dX5_split_47 : decode cX5_split 47 = .ok (.if_icmp .ge 19, 3) := by decide +kernel
theorem dX5_split_50 : decode cX5_split 50 = .ok (.aload_n 3, 1) := by decide +kernel
theorem dX5_split_51 : decode cX5_split 51 = .ok (.getfield 70, 3) := by decide +kernel
theorem dX5_split_54 : decode cX5_split 54 = .ok (.aload_n 3, 1) := by decide +kernel
theorem dX5_split_55 : decode cX5_split 55 = .ok (.iload 4, 2) := by decide +kernel
theorem dX5_split_57 : decode cX5_split 57 = .ok (.invokevirtual 132, 3) := by decide +kernel
theorem dX5_split_60 : decode cX5_split 60 = .ok (.iadd, 1) := by decide +kernel
theorem dX5_split_61 : decode cX5_split 61 = .ok (.bipush 8, 2) := by decide +kernel
theorem dX5_split_63 : decode cX5_split 63 = .ok (.if_icmp .le 6, 3) := by decide +kernel
theorem dX5_split_66 : decode cX5_split 66 = .ok (.bipush (-4), 2) := by decide +kernel
theorem dX5_split_68 : decode cX5_split 68 = .ok (.ireturn, 1) := by decide +kernel
theorem dX5_split_69 : decode cX5_split 69 = .ok (.aload_n 0, 1) := by decide +kernel
theorem dX5_split_70 : decode cX5_split 70 = .ok (.getfield 56, 3) := by decide +kernel
theorem dX5_split_73 : decode cX5_split 73 = .ok (.invokevirtual 77, 3) := by decide +kernel
theorem dX5_split_76 : decode cX5_split 76 = .ok (.iconst 0, 1) := by decide +kernel
theorem dX5_split_77 : decode cX5_split 77 = .ok (.istore 6, 2) := by decide +kernel
theorem dX5_split_79 : decode cX5_split 79 = .ok (.iload 6, 2) := by decide +kernel
theorem dX5_split_81 : decode cX5_split 81 = .ok (.aload_n 3, 1) := by decide +kernel
theorem dX5_split_82 : decode cX5_split 82 = .ok (.getfield 70, 3) := by decide +kernel
theorem dX5_split_85 : decode cX5_split 85 = .ok (.if_icmp .ge 47, 3) := by decide +kernel
theorem dX5_split_88 : decode cX5_split 88 = .ok (.aload_n 0, 1) := by decide +kernel
theorem dX5_split_89 : decode cX5_split 89 = .ok (.getfield 56, 3) := by decide +kernel
theorem dX5_split_92 : decode cX5_split 92 = .ok (.aload_n 3, 1) := by decide +kernel
theorem dX5_split_93 : decode cX5_split 93 = .ok (.iload 6, 2) := by decide +kernel
theorem dX5_split_95 : decode cX5_split 95 = .ok (.invokevirtual 94, 3) := by decide +kernel
theorem dX5_split_98 : decode cX5_split 98 = .ok (.invokevirtual 73, 3) := by decide +kernel
theorem dX5_split_101 : decode cX5_split 101 = .ok (.pop, 1) := by decide +kernel
theorem dX5_split_102 : decode cX5_split 102 = .ok (.aload_n 3, 1) := by decide +kernel
theorem dX5_split_103 : decode cX5_split 103 = .ok (.iload 6, 2) := by decide +kernel
theorem dX5_split_105 : decode cX5_split 105 = .ok (.invokevirtual 94, 3) := by decide +kernel
theorem dX5_split_108 : decode cX5_split 108 = .ok (.iload 4, 2) := by decide +kernel
theorem dX5_split_110 : decode cX5_split 110 = .ok (.if_icmp .ne 16, 3) := by decide +kernel
theorem dX5_split_113 : decode cX5_split 113 = .ok (.aload_n 0, 1) := by decide +kernel
theorem dX5_split_114 : decode cX5_split 114 = .ok (.getfield 56, 3) := by decide +kernel
theorem dX5_split_117 : decode cX5_split 117 = .ok (.bipush 10, 2) := by decide +kernel
theorem dX5_split_119 : decode cX5_split 119 = .ok (.iload 5, 2) := by decide +kernel
theorem dX5_split_121 : decode cX5_split 121 = .ok (.iadd, 1) := by decide +kernel
theorem dX5_split_122 : decode cX5_split 122 = .ok (.invokevirtual 73, 3) := by decide +kernel
theorem dX5_split_125 : decode cX5_split 125 = .ok (.pop, 1) := by decide +kernel
theorem dX5_split_126 : decode cX5_split 126 = .ok (.iinc 6 1, 3) := by decide +kernel
theorem dX5_split_129 : decode cX5_split 129 = .ok (.goto (-50), 3) := by decide +kernel
theorem dX5_split_132 : decode cX5_split 132 = .ok (.aload_n 0, 1) := by decide +kernel
theorem dX5_split_133 : decode cX5_split 133 = .ok (.getfield 56, 3) := by decide +kernel
theorem dX5_split_136 : decode cX5_split 136 = .ok (.invokevirtual 91, 3) := by decide +kernel
theorem dX5_split_139 : decode cX5_split 139 = .ok (.aload_n 0, 1) := by decide +kernel
theorem dX5_split_140 : decode cX5_split 140 = .ok (.iload_n 1, 1) := by decide +kernel
theorem dX5_split_141 : decode cX5_split 141 = .ok (.aload_n 0, 1) := by decide +kernel
theorem dX5_split_142 : decode cX5_split 142 = .ok (.getfield 56, 3) := by decide +kernel
theorem dX5_split_145 : decode cX5_split 145 = .ok (.invokevirtual 117, 3) := by decide +kernel
theorem dX5_split_148 : decode cX5_split 148 = .ok (.ireturn, 1) := by decide +kernel
theorem dX5_transform_0 : decode cX5_transform 0 = .ok (.iload_n 1, 1) := by decide +kernel
theorem dX5_transform_1 : decode cX5_transform 1 = .ok (.invokestatic 114, 3) := by decide +kernel
theorem dX5_transform_4 : decode cX5_transform 4 = .ok (.ifCond .eq 11, 3) := by decide +kernel
theorem dX5_transform_7 : decode cX5_transform 7 = .ok (.aload_n 0, 1) := by decide +kernel
theorem dX5_transform_8 : decode cX5_transform 8 = .ok (.iload_n 1, 1) := by decide +kernel
theorem dX5_transform_9 : decode cX5_transform 9 = .ok (.invokevirtual 160, 3) := by decide +kernel
theorem dX5_transform_12 : decode cX5_transform 12 = .ok (.goto 5, 3) := by decide +kernel
theorem dX5_transform_15 : decode cX5_transform 15 = .ok (.bipush (-2), 2) := by decide +kernel
theorem dX5_transform_17 : decode cX5_transform 17 = .ok (.istore_n 2, 1) := by decide +kernel
theorem dX5_transform_18 : decode cX5_transform 18 = .ok (.aload_n 0, 1) := by decide +kernel
theorem dX5_transform_19 : decode cX5_transform 19 = .ok (.getfield 30, 3) := by decide +kernel
theorem dX5_transform_22 : decode cX5_transform 22 = .ok (.invokevirtual 77, 3) := by decide +kernel
theorem dX5_transform_25 : decode cX5_transform 25 = .ok (.iload_n 2, 1) := by decide +kernel
theorem dX5_transform_26 : decode cX5_transform 26 = .ok (.ireturn, 1) := by decide +kernel
theorem dX5_changeAsTold_0 : decode cX5_changeAsTold 0 = .ok (.aload_n 0, 1) := by decide +kernel
theorem dX5_changeAsTold_1 : decode cX5_changeAsTold 1 = .ok (.getfield 12, 3) := by decide +kernel
theorem dX5_changeAsTold_4 : decode cX5_changeAsTold 4 = .ok (.getfield 121, 3) := by decide +kernel
theorem dX5_changeAsTold_7 : decode cX5_changeAsTold 7 = .ok (.iload_n 1, 1) := by decide +kernel
theorem dX5_changeAsTold_8 : decode cX5_changeAsTold 8 = .ok (.aaload, 1) := by decide +kernel
theorem dX5_changeAsTold_9 : decode cX5_changeAsTold 9 = .ok (.astore_n 2, 1) := by decide +kernel
theorem dX5_changeAsTold_10 : decode cX5_changeAsTold 10 = .ok (.aload_n 0, 1) := by decide +kernel
theorem dX5_changeAsTold_11 : decode cX5_changeAsTold 11 = .ok (.ldc 163, 2) := by decide +kernel
theorem dX5_changeAsTold_13 : decode cX5_changeAsTold 13 = .ok (.invokevirtual 165, 3) := by decide +kernel
theorem dX5_changeAsTold_16 : decode cX5_changeAsTold 16 = .ok (.ifCond .eq 10, 3) := by decide +kernel
theorem dX5_changeAsTold_19 : decode cX5_changeAsTold 19 = .ok (.aload_n 2, 1) := by decide +kernel
theorem dX5_changeAsTold_20 : decode cX5_changeAsTold 20 = .ok (.invokevirtual 169, 3) := by decide +kernel
theorem dX5_changeAsTold_23 : decode cX5_changeAsTold 23 = .ok (.goto 82, 3) := by decide +kernel
theorem dX5_changeAsTold_26 : decode cX5_changeAsTold 26 = .ok (.aload_n 0, 1) := by decide +kernel
theorem dX5_changeAsTold_27 : decode cX5_changeAsTold 27 = .ok (.ldc 172, 2) := by decide +kernel
theorem dX5_changeAsTold_29 : decode cX5_changeAsTold 29 = .ok (.invokevirtual 165, 3) := by decide +kernel
theorem dX5_changeAsTold_32 : decode cX5_changeAsTold 32 = .ok (.ifCond .eq 11, 3) := by decide +kernel
theorem dX5_changeAsTold_35 : decode cX5_changeAsTold 35 = .ok (.aload_n 0, 1) := by decide +kernel
theorem dX5_changeAsTold_36 : decode cX5_changeAsTold 36 = .ok (.aload_n 2, 1) := by decide +kernel
theorem dX5_changeAsTold_37 : decode cX5_changeAsTold 37 = .ok (.invokevirtual 174, 3) := by decide +kernel
theorem dX5_changeAsTold_40 : decode cX5_changeAsTold 40 = .ok (.goto 65, 3) := by decide +kernel
theorem dX5_changeAsTold_43 : decode cX5_changeAsTold 43 = .ok (.aload_n 0, 1) := by decide +kernel
theorem dX5_changeAsTold_44 : decode cX5_changeAsTold 44 = .ok (.ldc 177, 2) := by decide +kernel
theorem dX5_changeAsTold_46 : decode cX5_changeAsTold 46 = .ok (.invokevirtual 165, 3) := by decide +kernel
theorem dX5_changeAsTold_49 : decode cX5_changeAsTold 49 = .ok (.ifCond .eq 10, 3) := by decide +kernel
theorem dX5_changeAsTold_52 : decode cX5_changeAsTold 52 = .ok (.aload_n 2, 1) := by decide +kernel
theorem dX5_changeAsTold_53 : decode cX5_changeAsTold 53 = .ok (.invokestatic 179, 3) := by decide +kernel
theorem dX5_changeAsTold_56 : decode cX5_changeAsTold 56 = .ok (.goto 49, 3) := by decide +kernel
theorem dX5_changeAsTold_59 : decode cX5_changeAsTold 59 = .ok (.aload_n 0, 1) := by decide +kernel
theorem dX5_changeAsTold_60 : decode cX5_changeAsTold 60 = .ok (.ldc 182, 2) := by decide +kernel
theorem dX5_changeAsTold_62 : decode cX5_changeAsTold 62 = .ok (.invokevirtual 165, 3) := by decide +kernel
theorem dX5_changeAsTold_65 : decode cX5_changeAsTold 65 = .ok (.ifCond .eq 16, 3) := by decide +kernel
theorem dX5_changeAsTold_68 : decode cX5_changeAsTold 68 = .ok (.aload_n 2, 1) := by decide +kernel
theorem dX5_changeAsTold_69 : decode cX5_changeAsTold 69 = .ok (.bipush 10, 2) := by decide +kernel
theorem dX5_changeAsTold_71 : decode cX5_changeAsTold 71 = .ok (.bipush 13, 2) := by decide +kernel
theorem dX5_changeAsTold_73 : decode cX5_changeAsTold 73 = .ok (.bipush 10, 2) := by decide +kernel
theorem dX5_changeAsTold_75 : decode cX5_changeAsTold 75 = .ok (.invokevirtual 156, 3) := by decide +kernel
theorem dX5_changeAsTold_78 : decode cX5_changeAsTold 78 = .ok (.goto 27, 3) := by decide +kernel
theorem dX5_changeAsTold_81 : decode cX5_changeAsTold 81 = .ok (.aload_n 0, 1) := by decide +kernel
theorem dX5_changeAsTold_82 : decode cX5_changeAsTold 82 = .ok (.ldc 184, 2) := by decide +kernel
theorem dX5_changeAsTold_84 : decode cX5_changeAsTold 84 = .ok (.invokevirtual 165, 3) := by decide +kernel
theorem dX5_changeAsTold_87 : decode cX5_changeAsTold 87 = .ok (.ifCond .eq 15, 3) := by decide +kernel
theorem dX5_changeAsTold_90 : decode cX5_changeAsTold 90 = .ok (.aload_n 2, 1) := by decide +kernel
theorem dX5_changeAsTold_91 : decode cX5_changeAsTold 91 = .ok (.iconst 0, 1) := by decide +kernel
theorem dX5_changeAsTold_92 : decode cX5_changeAsTold 92 = .ok (.bipush 9, 2) := by decide +kernel
theorem dX5_changeAsTold_94 : decode cX5_changeAsTold 94 = .ok (.bipush 10, 2) := by decide +kernel
theorem dX5_changeAsTold_96 : decode cX5_changeAsTold 96 = .ok (.invokevirtual 156, 3) := by decide +kernel
theorem dX5_changeAsTold_99 : decode cX5_changeAsTold 99 = .ok (.goto 6, 3) := by decide +kernel
theorem dX5_changeAsTold_102 : decode cX5_changeAsTold 102 = .ok (.bipush (-5), 2) := by decide +kernel
theorem dX5_changeAsTold_104 : decode cX5_changeAsTold 104 = .ok (.ireturn, 1) := by decide +kernel
theorem dX5_changeAsTold_105 : decode cX5_changeAsTold 105 = .ok (.aload_n 2, 1) := by decide +kernel
theorem dX5_changeAsTold_106 : decode cX5_changeAsTold 106 = .ok (.invokevirtual 91, 3) := by decide +kernel
theorem dX5_changeAsTold_109 : decode cX5_changeAsTold 109 = .ok (.aload_n 2, 1) := by decide +kernel
theorem dX5_changeAsTold_110 : decode cX5_changeAsTold 110 = .ok (.getfield 70, 3) := by decide +kernel
theorem dX5_changeAsTold_113 : decode cX5_changeAsTold 113 = .ok (.ireturn, 1) := by decide +kernel
theorem dX5_swapLetters_0 : decode cX5_swapLetters 0 = .ok (.aload_n 0, 1) := by decide +kernel
theorem dX5_swapLetters_1 : decode cX5_swapLetters 1 = .ok (.getfield 12, 3) := by decide +kernel
theorem dX5_swapLetters_4 : decode cX5_swapLetters 4 = .ok (.getfield 63, 3) := by decide +kernel
theorem dX5_swapLetters_7 : decode cX5_swapLetters 7 = .ok (.iconst 1, 1) := by decide +kernel
theorem dX5_swapLetters_8 : decode cX5_swapLetters 8 = .ok (.if_icmp .le 9, 3) := by decide +kernel
theorem dX5_swapLetters_11 : decode cX5_swapLetters 11 = .ok (.aload_n 1, 1) := by decide +kernel
theorem dX5_swapLetters_12 : decode cX5_swapLetters 12 = .ok (.iconst 0, 1) := by decide +kernel
theorem dX5_swapLetters_13 : decode cX5_swapLetters 13 = .ok (.iconst 1, 1) := by decide +kernel
theorem dX5_swapLetters_14 : decode cX5_swapLetters 14 = .ok (.invokevirtual 186, 3) := by decide +kernel
theorem dX5_swapLetters_17 : decode cX5_swapLetters 17 = .ok (.return_, 1) := by decide +kernel
theorem dX5_dropLast_0 : decode cX5_dropLast 0 = .ok (.aload_n 0, 1) := by decide +kernel
theorem dX5_dropLast_1 : decode cX5_dropLast 1 = .ok (.getfield 70, 3) := by decide +kernel
theorem dX5_dropLast_4 : decode cX5_dropLast 4 = .ok (.iconst 1, 1) := by decide +kernel
theorem dX5_dropLast_5 : decode cX5_dropLast 5 = .ok (.if_icmp .le 7, 3) := by decide +kernel
theorem dX5_dropLast_8 : decode cX5_dropLast 8 = .ok (.aload_n 0, 1) := by decide +kernel
theorem dX5_dropLast_9 : decode cX5_dropLast 9 = .ok (.invokevirtual 190, 3) := by decide +kernel
theorem dX5_dropLast_12 : decode cX5_dropLast 12 = .ok (.return_, 1) := by decide +kernel
theorem dX5_matches_0 : decode cX5_matches 0 = .ok (.iload_n 1, 1) := by decide +kernel
theorem dX5_matches_1 : decode cX5_matches 1 = .ok (.iload_n 2, 1) := by decide +kernel
theorem dX5_matches_2 : decode cX5_matches 2 = .ok (.aload_n 0, 1) := by decide +kernel
theorem dX5_matches_3 : decode cX5_matches 3 = .ok (.invokevirtual 193, 3) := by decide +kernel
theorem dX5_matches_6 : decode cX5_matches 6 = .ok (.invokestatic 196, 3) := by decide +kernel
theorem dX5_matches_9 : decode cX5_matches 9 = .ok (.istore_n 3, 1) := by decide +kernel
theorem dX5_matches_10 : decode cX5_matches 10 = .ok (.iload_n 3, 1) := by decide +kernel
theorem dX5_matches_11 : decode cX5_matches 11 = .ok (.ifCond .eq 5, 3) := by decide +kernel
theorem dX5_matches_14 : decode cX5_matches 14 = .ok (.iload_n 3, 1) := by decide +kernel
theorem dX5_matches_15 : decode cX5_matches 15 = .ok (.ireturn, 1) := by decide +kernel
theorem dX5_matches_16 : decode cX5_matches 16 = .ok (.aload_n 0, 1) := by decide +kernel
theorem dX5_matches_17 : decode cX5_matches 17 = .ok (.getfield 43, 3) := by decide +kernel
theorem dX5_matches_20 : decode cX5_matches 20 = .ok (.aload_n 0, 1) := by decide +kernel
theorem dX5_matches_21 : decode cX5_matches 21 = .ok (.getfield 12, 3) := by decide +kernel
theorem dX5_matches_24 : decode cX5_matches 24 = .ok (.getfield 121, 3) := by decide +kernel
theorem dX5_matches_27 : decode cX5_matches 27 = .ok (.iload_n 1, 1) := by decide +kernel
theorem dX5_matches_28 : decode cX5_matches 28 = .ok (.aaload, 1) := by decide +kernel
theorem dX5_matches_29 : decode cX5_matches 29 = .ok (.aload_n 0, 1) := by decide +kernel
theorem dX5_matches_30 : decode cX5_matches 30 = .ok (.getfield 56, 3) := by decide +kernel
theorem dX5_matches_33 : decode cX5_matches 33 = .ok (.iload_n 2, 1) := by decide +kernel
theorem dX5_matches_34 : decode cX5_matches 34 = .ok (.invokevirtual 200, 3) := by decide +kernel
theorem dX5_matches_37 : decode cX5_matches 37 = .ok (.ifCond .eq 7, 3) := by decide +kernel
theorem dX5_matches_40 : decode cX5_matches 40 = .ok (.iconst 1, 1) := by decide +kernel
theorem dX5_matches_41 : decode cX5_matches 41 = .ok (.goto 4, 3) := by decide +kernel
theorem dX5_matches_44 : decode cX5_matches 44 = .ok (.iconst 0, 1) := by decide +kernel
theorem dX5_matches_45 : decode cX5_matches 45 = .ok (.ireturn, 1) := by decide +kernel
theorem dX5_matchCount_0 : decode cX5_matchCount 0 = .ok (.iload_n 1, 1) := by decide +kernel
theorem dX5_matchCount_1 : decode cX5_matchCount 1 = .ok (.iload_n 2, 1) := by decide +kernel
theorem dX5_matchCount_2 : decode cX5_matchCount 2 = .ok (.aload_n 0, 1) := by decide +kernel
theorem dX5_matchCount_3 : decode cX5_matchCount 3 = .ok (.invokevirtual 193, 3) := by decide +kernel
theorem dX5_matchCount_6 : decode cX5_matchCount 6 = .ok (.invokestatic 196, 3) := by decide +kernel
theorem dX5_matchCount_9 : decode cX5_matchCount 9 = .ok (.istore_n 3, 1) := by decide +kernel
theorem dX5_matchCount_10 : decode cX5_matchCount 10 = .ok (.iload_n 3, 1) := by decide +kernel
theorem dX5_matchCount_11 : decode cX5_matchCount 11 = .ok (.ifCond .eq 5, 3) := by decide +kernel
theorem dX5_matchCount_14 : decode cX5_matchCount 14 = .ok (.iload_n 3, 1) := by decide +kernel
theorem dX5_matchCount_15 : decode cX5_matchCount 15 = .ok (.ireturn, 1) := by decide +kernel
theorem dX5_matchCount_16 : decode cX5_matchCount 16 = .ok (.aload_n 0, 1) := by decide +kernel
theorem dX5_matchCount_17 : decode cX5_matchCount 17 = .ok (.getfield 43, 3) := by decide +kernel
theorem dX5_matchCount_20 : decode cX5_matchCount 20 = .ok (.aload_n 0, 1) := by decide +kernel
theorem dX5_matchCount_21 : decode cX5_matchCount 21 = .ok (.getfield 12, 3) := by decide +kernel
theorem dX5_matchCount_24 : decode cX5_matchCount 24 = .ok (.getfield 121, 3) := by decide +kernel
theorem dX5_matchCount_27 : decode cX5_matchCount 27 = .ok (.iload_n 1, 1) := by decide +kernel
theorem dX5_matchCount_28 : decode cX5_matchCount 28 = .ok (.aaload, 1) := by decide +kernel
theorem dX5_matchCount_29 : decode cX5_matchCount 29 = .ok (.aload_n 0, 1) := by decide +kernel
theorem dX5_matchCount_30 : decode cX5_matchCount 30 = .ok (.getfield 56, 3) := by decide +kernel
theorem dX5_matchCount_33 : decode cX5_matchCount 33 = .ok (.iload_n 2, 1) := by decide +kernel
theorem dX5_matchCount_34 : decode cX5_matchCount 34 = .ok (.invokevirtual 204, 3) := by decide +kernel
theorem dX5_matchCount_37 : decode cX5_matchCount 37 = .ok (.ireturn, 1) := by decide +kernel
theorem dX5_match_0 : decode cX5_match 0 = .ok (.iload_n 1, 1) := by decide +kernel
theorem dX5_match_1 : decode cX5_match 1 = .ok (.iload_n 2, 1) := by decide +kernel
theorem dX5_match_2 : decode cX5_match 2 = .ok (.aload_n 0, 1) := by decide +kernel
theorem dX5_match_3 : decode cX5_match 3 = .ok (.invokevirtual 193, 3) := by decide +kernel
theorem dX5_match_6 : decode cX5_match 6 = .ok (.invokestatic 196, 3) := by decide +kernel
theorem dX5_match_9 : decode cX5_match 9 = .ok (.istore_n 3, 1) := by decide +kernel
theorem dX5_match_10 : decode cX5_match 10 = .ok (.iload_n 3, 1) := by decide +kernel
theorem dX5_match_11 : decode cX5_match 11 = .ok (.ifCond .eq 5, 3) := by decide +kernel
theorem dX5_match_14 : decode cX5_match 14 = .ok (.iload_n 3, 1) := by decide +kernel
theorem dX5_match_15 : decode cX5_match 15 = .ok (.ireturn, 1) := by decide +kernel
theorem dX5_match_16 : decode cX5_match 16 = .ok (.aload_n 0, 1) := by decide +kernel
theorem dX5_match_17 : decode cX5_match 17 = .ok (.getfield 12, 3) := by decide +kernel
theorem dX5_match_20 : decode cX5_match 20 = .ok (.getfield 121, 3) := by decide +kernel
theorem dX5_match_23 : decode cX5_match 23 = .ok (.iload_n 1, 1) := by decide +kernel
theorem dX5_match_24 : decode cX5_match 24 = .ok (.aaload, 1) := by decide +kernel
theorem dX5_match_25 : decode cX5_match 25 = .ok (.astore 4, 2) := by decide +kernel
theorem dX5_match_27 : decode cX5_match 27 = .ok (.aload_n 0, 1) := by decide +kernel
theorem dX5_match_28 : decode cX5_match 28 = .ok (.getfield 43, 3) := by decide +kernel
theorem dX5_match_31 : decode cX5_match 31 = .ok (.aload 4, 2) := by decide +kernel
theorem dX5_match_33 : decode cX5_match 33 = .ok (.aload_n 0, 1) := by decide +kernel
theorem dX5_match_34 : decode cX5_match 34 = .ok (.getfield 56, 3) := by decide +kernel
theorem dX5_match_37 : decode cX5_match 37 = .ok (.iload_n 2, 1) := by decide +kernel
theorem dX5_match_38 : decode cX5_match 38 = .ok (.invokevirtual 200, 3) := by decide +kernel
theorem dX5_match_41 : decode cX5_match 41 = .ok (.ifCond .ne 6, 3) := by decide +kernel
theorem dX5_match_44 : decode cX5_match 44 = .ok (.bipush (-6), 2) := by decide +kernel
theorem dX5_match_46 : decode cX5_match 46 = .ok (.ireturn, 1) := by decide +kernel
theorem dX5_match_47 : decode cX5_match 47 = .ok (.aload 4, 2) := by decide +kernel
theorem dX5_match_49 : decode cX5_match 49 = .ok (.invokevirtual 125, 3) := by decide +kernel
theorem dX5_match_52 : decode cX5_match 52 = .ok (.iconst 4, 1) := by decide +kernel
theorem dX5_match_53 : decode cX5_match 53 = .ok (.invokestatic 208, 3) := by decide +kernel
theorem dX5_match_56 : decode cX5_match 56 = .ok (.istore 5, 2) := by decide +kernel
theorem dX5_match_58 : decode cX5_match 58 = .ok (.iconst 0, 1) := by decide +kernel
theorem dX5_match_59 : decode cX5_match 59 = .ok (.istore 6, 2) := by decide +kernel
theorem dX5_match_61 : decode cX5_match 61 = .ok (.iload 6, 2) := by decide +kernel
theorem dX5_match_63 : decode cX5_match 63 = .ok (.iload 5, 2) := by decide +kernel
theorem dX5_match_65 : decode cX5_match 65 = .ok (.if_icmp .ge 32, 3) := by decide +kernel
theorem dX5_match_68 : decode cX5_match 68 = .ok (.aload_n 0, 1) := by decide +kernel
theorem dX5_match_69 : decode cX5_match 69 = .ok (.getfield 43, 3) := by decide +kernel
theorem dX5_match_72 : decode cX5_match 72 = .ok (.iload 6, 2) := by decide +kernel
theorem dX5_match_74 : decode cX5_match 74 = .ok (.aload_n 0, 1) := by decide +kernel
theorem dX5_match_75 : decode cX5_match 75 = .ok (.getfield 56, 3) := by decide +kernel
theorem dX5_match_78 : decode cX5_match 78 = .ok (.aload_n 0, 1) := by decide +kernel
theorem dX5_match_79 : decode cX5_match 79 = .ok (.getfield 12, 3) := by decide +kernel
theorem dX5_match_82 : decode cX5_match 82 = .ok (.getfield 213, 3) := by decide +kernel
theorem dX5_match_85 : decode cX5_match 85 = .ok (.iload 6, 2) := by decide +kernel
theorem dX5_match_87 : decode cX5_match 87 = .ok (.aaload, 1) := by decide +kernel
theorem dX5_match_88 : decode cX5_match 88 = .ok (.invokevirtual 216, 3) := by decide +kernel
theorem dX5_match_91 : decode cX5_match 91 = .ok (.iinc 6 1, 3) := by decide +kernel
theorem dX5_match_94 : decode cX5_match 94 = .ok (.goto (-33), 3) := by decide +kernel
theorem dX5_match_97 : decode cX5_match 97 = .ok (.iload 5, 2) := by decide +kernel
theorem dX5_match_99 : decode cX5_match 99 = .ok (.ifCond .le 18, 3) := by decide +kernel
theorem dX5_match_102 : decode cX5_match 102 = .ok (.aload_n 0, 1) := by decide +kernel
theorem dX5_match_103 : decode cX5_match 103 = .ok (.getfield 12, 3) := by decide +kernel
theorem dX5_match_106 : decode cX5_match 106 = .ok (.getfield 213, 3) := by decide +kernel
theorem dX5_match_109 : decode cX5_match 109 = .ok (.iconst 0, 1) := by decide +kernel
theorem dX5_match_110 : decode cX5_match 110 = .ok (.aaload, 1) := by decide +kernel
theorem dX5_match_111 : decode cX5_match 111 = .ok (.getfield 70, 3) := by decide +kernel
theorem dX5_match_114 : decode cX5_match 114 = .ok (.goto 4, 3) := by decide +kernel
theorem dX5_match_117 : decode cX5_match 117 = .ok (.iconst 0, 1) := by decide +kernel
theorem dX5_match_118 : decode cX5_match 118 = .ok (.ireturn, 1) := by decide +kernel
theorem dX5_refusalOfMatching_0 : decode cX5_refusalOfMatching 0 = .ok (.iload_n 0, 1) := by decide +kernel
theorem dX5_refusalOfMatching_1 : decode cX5_refusalOfMatching 1 = .ok (.invokestatic 114, 3) := by decide +kernel
theorem dX5_refusalOfMatching_4 : decode cX5_refusalOfMatching 4 = .ok (.ifCond .ne 6, 3) := by decide +kernel
theorem dX5_refusalOfMatching_7 : decode cX5_refusalOfMatching 7 = .ok (.bipush (-2), 2) := by decide +kernel
theorem dX5_refusalOfMatching_9 : decode cX5_refusalOfMatching 9 = .ok (.ireturn, 1) := by decide +kernel
theorem dX5_refusalOfMatching_10 : decode cX5_refusalOfMatching 10 = .ok (.iload_n 1, 1) := by decide +kernel
theorem dX5_refusalOfMatching_11 : decode cX5_refusalOfMatching 11 = .ok (.invokestatic 220, 3) := by decide +kernel
theorem dX5_refusalOfMatching_14 : decode cX5_refusalOfMatching 14 = .ok (.ifCond .ne 5, 3) := by decide +kernel
theorem dX5_refusalOfMatching_17 : decode cX5_refusalOfMatching 17 = .ok (.iconst (-1), 1) := by decide +kernel
theorem dX5_refusalOfMatching_18 : decode cX5_refusalOfMatching 18 = .ok (.ireturn, 1) := by decide +kernel
theorem dX5_refusalOfMatching_19 : decode cX5_refusalOfMatching 19 = .ok (.iload_n 2, 1) := by decide +kernel
theorem dX5_refusalOfMatching_20 : decode cX5_refusalOfMatching 20 = .ok (.ifCond .eq 7, 3) := by decide +kernel
theorem dX5_refusalOfMatching_23 : decode cX5_refusalOfMatching 23 = .ok (.iconst 0, 1) := by decide +kernel
theorem dX5_refusalOfMatching_24 : decode cX5_refusalOfMatching 24 = .ok (.goto 5, 3) := by decide +kernel
theorem dX5_refusalOfMatching_27 : decode cX5_refusalOfMatching 27 = .ok (.bipush (-5), 2) := by decide +kernel
theorem dX5_refusalOfMatching_29 : decode cX5_refusalOfMatching 29 = .ok (.ireturn, 1) := by decide +kernel
theorem dX5_setImage_0 : decode cX5_setImage 0 = .ok (.aload_n 0, 1) := by decide +kernel
theorem dX5_setImage_1 : decode cX5_setImage 1 = .ok (.invokevirtual 193, 3) := by decide +kernel
theorem dX5_setImage_4 : decode cX5_setImage 4 = .ok (.istore_n 2, 1) := by decide +kernel
theorem dX5_setImage_5 : decode cX5_setImage 5 = .ok (.iload_n 1, 1) := by decide +kernel
theorem dX5_setImage_6 : decode cX5_setImage 6 = .ok (.invokestatic 149, 3) := by decide +kernel
theorem dX5_setImage_9 : decode cX5_setImage 9 = .ok (.ifCond .ne 6, 3) := by decide +kernel
theorem dX5_setImage_12 : decode cX5_setImage 12 = .ok (.bipush (-3), 2) := by decide +kernel
theorem dX5_setImage_14 : decode cX5_setImage 14 = .ok (.ireturn, 1) := by decide +kernel
theorem dX5_setImage_15 : decode cX5_setImage 15 = .ok (.iload_n 2, 1) := by decide +kernel
theorem dX5_setImage_16 : decode cX5_setImage 16 = .ok (.ifCond .ne 6, 3) := by decide +kernel
theorem dX5_setImage_19 : decode cX5_setImage 19 = .ok (.bipush (-5), 2) := by decide +kernel
theorem dX5_setImage_21 : decode cX5_setImage 21 = .ok (.ireturn, 1) := by decide +kernel
theorem dX5_setImage_22 : decode cX5_setImage 22 = .ok (.aload_n 0, 1) := by decide +kernel
theorem dX5_setImage_23 : decode cX5_setImage 23 = .ok (.getfield 12, 3) := by decide +kernel
theorem dX5_setImage_26 : decode cX5_setImage 26 = .ok (.getfield 213, 3) := by decide +kernel
theorem dX5_setImage_29 : decode cX5_setImage 29 = .ok (.iload_n 1, 1) := by decide +kernel
theorem dX5_setImage_30 : decode cX5_setImage 30 = .ok (.aaload, 1) := by decide +kernel
theorem dX5_setImage_31 : decode cX5_setImage 31 = .ok (.aload_n 0, 1) := by decide +kernel
theorem dX5_setImage_32 : decode cX5_setImage 32 = .ok (.getfield 56, 3) := by decide +kernel
theorem dX5_setImage_35 : decode cX5_setImage 35 = .ok (.invokevirtual 145, 3) := by decide +kernel
theorem dX5_setImage_38 : decode cX5_setImage 38 = .ok (.aload_n 0, 1) := by decide +kernel
theorem dX5_setImage_39 : decode cX5_setImage 39 = .ok (.getfield 56, 3) := by decide +kernel
theorem dX5_setImage_42 : decode cX5_setImage 42 = .ok (.getfield 70, 3) := by decide +kernel
theorem dX5_setImage_45 : decode cX5_setImage 45 = .ok (.ireturn, 1) := by decide +kernel
theorem dX5_imageLetter_0 : decode cX5_imageLetter 0 = .ok (.iload_n 1, 1) := by decide +kernel
theorem dX5_imageLetter_1 : decode cX5_imageLetter 1 = .ok (.invokestatic 149, 3) := by decide +kernel
theorem dX5_imageLetter_4 : decode cX5_imageLetter 4 = .ok (.ifCond .ne 6, 3) := by decide +kernel
theorem dX5_imageLetter_7 : decode cX5_imageLetter 7 = .ok (.bipush (-3), 2) := by decide +kernel
theorem dX5_imageLetter_9 : decode cX5_imageLetter 9 = .ok (.ireturn, 1) := by decide +kernel
theorem dX5_imageLetter_10 : decode cX5_imageLetter 10 = .ok (.aload_n 0, 1) := by decide +kernel
theorem dX5_imageLetter_11 : decode cX5_imageLetter 11 = .ok (.getfield 12, 3) := by decide +kernel
theorem dX5_imageLetter_14 : decode cX5_imageLetter 14 = .ok (.getfield 213, 3) := by decide +kernel
theorem dX5_imageLetter_17 : decode cX5_imageLetter 17 = .ok (.iload_n 1, 1) := by decide +kernel
theorem dX5_imageLetter_18 : decode cX5_imageLetter 18 = .ok (.aaload, 1) := by decide +kernel
theorem dX5_imageLetter_19 : decode cX5_imageLetter 19 = .ok (.iload_n 2, 1) := by decide +kernel
theorem dX5_imageLetter_20 : decode cX5_imageLetter 20 = .ok (.invokevirtual 94, 3) := by decide +kernel
theorem dX5_imageLetter_23 : decode cX5_imageLetter 23 = .ok (.istore_n 3, 1) := by decide +kernel
theorem dX5_imageLetter_24 : decode cX5_imageLetter 24 = .ok (.iload_n 3, 1) := by decide +kernel
theorem dX5_imageLetter_25 : decode cX5_imageLetter 25 = .ok (.iconst (-1), 1) := by decide +kernel
theorem dX5_imageLetter_26 : decode cX5_imageLetter 26 = .ok (.if_icmp .ne 8, 3) := by decide +kernel
theorem dX5_imageLetter_29 : decode cX5_imageLetter 29 = .ok (.bipush (-6), 2) := by decide +kernel
theorem dX5_imageLetter_31 : decode cX5_imageLetter 31 = .ok (.goto 4, 3) := by decide +kernel
theorem dX5_imageLetter_34 : decode cX5_imageLetter 34 = .ok (.iload_n 3, 1) := by decide +kernel
theorem dX5_imageLetter_35 : decode cX5_imageLetter 35 = .ok (.ireturn, 1) := by decide +kernel
theorem dX5_addProduced_0 : decode cX5_addProduced 0 = .ok (.iload_n 1, 1) := by decide +kernel
theorem dX5_addProduced_1 : decode cX5_addProduced 1 = .ok (.invokestatic 114, 3) := by decide +kernel
theorem dX5_addProduced_4 : decode cX5_addProduced 4 = .ok (.ifCond .ne 6, 3) := by decide +kernel
theorem dX5_addProduced_7 : decode cX5_addProduced 7 = .ok (.bipush (-2), 2) := by decide +kernel
theorem dX5_addProduced_9 : decode cX5_addProduced 9 = .ok (.ireturn, 1) := by decide +kernel
theorem dX5_addProduced_10 : decode cX5_addProduced 10 = .ok (.aload_n 0, 1) := by decide +kernel
theorem dX5_addProduced_11 : decode cX5_addProduced 11 = .ok (.aload_n 0, 1) := by decide +kernel
theorem dX5_addProduced_12 : decode cX5_addProduced 12 = .ok (.getfield 12, 3) := by decide +kernel
theorem dX5_addProduced_15 : decode cX5_addProduced 15 = .ok (.getfield 121, 3) := by decide +kernel
theorem dX5_addProduced_18 : decode cX5_addProduced 18 = .ok (.iload_n 1, 1) := by decide +kernel
theorem dX5_addProduced_19 : decode cX5_addProduced 19 = .ok (.aaload, 1) := by decide +kernel
theorem dX5_addProduced_20 : decode cX5_addProduced 20 = .ok (.invokevirtual 223, 3) := by decide +kernel
theorem dX5_addProduced_23 : decode cX5_addProduced 23 = .ok (.ifCond .eq 10, 3) := by decide +kernel
theorem dX5_addProduced_26 : decode cX5_addProduced 26 = .ok (.aload_n 0, 1) := by decide +kernel
theorem dX5_addProduced_27 : decode cX5_addProduced 27 = .ok (.invokevirtual 226, 3) := by decide +kernel
theorem dX5_addProduced_30 : decode cX5_addProduced 30 = .ok (.goto 5, 3) := by decide +kernel
theorem dX5_addProduced_33 : decode cX5_addProduced 33 = .ok (.bipush (-4), 2) := by decide +kernel
theorem dX5_addProduced_35 : decode cX5_addProduced 35 = .ok (.ireturn, 1) := by decide +kernel
theorem dX5_produce_0 : decode cX5_produce 0 = .ok (.aload_n 0, 1) := by decide +kernel
theorem dX5_produce_1 : decode cX5_produce 1 = .ok (.getfield 56, 3) := by decide +kernel
theorem dX5_produce_4 : decode cX5_produce 4 = .ok (.invokevirtual 77, 3) := by decide +kernel
theorem dX5_produce_7 : decode cX5_produce 7 = .ok (.iconst 1, 1) := by decide +kernel
theorem dX5_produce_8 : decode cX5_produce 8 = .ok (.istore_n 2, 1) := by decide +kernel
theorem dX5_produce_9 : decode cX5_produce 9 = .ok (.iconst 0, 1) := by decide +kernel
theorem dX5_produce_10 : decode cX5_produce 10 = .ok (.istore_n 3, 1) := by decide +kernel
theorem dX5_produce_11 : decode cX5_produce 11 = .ok (.iload_n 3, 1) := by decide +kernel
theorem dX5_produce_12 : decode cX5_produce 12 = .ok (.aload_n 1, 1) := by decide +kernel
theorem dX5_produce_13 : decode cX5_produce 13 = .ok (.getfield 70, 3) := by decide +kernel
theorem dX5_produce_16 : decode cX5_produce 16 = .ok (.if_icmp .ge 65, 3) := by decide +kernel
theorem dX5_produce_19 : decode cX5_produce 19 = .ok (.iload_n 2, 1) := by decide +kernel
theorem dX5_produce_20 : decode cX5_produce 20 = .ok (.ifCond .eq 61, 3) := by decide +kernel
theorem dX5_produce_23 : decode cX5_produce 23 = .ok (.aload_n 1, 1) := by decide +kernel
theorem dX5_produce_24 : decode cX5_produce 24 = .ok (.iload_n 3, 1) := by decide +kernel
theorem dX5_produce_25 : decode cX5_produce 25 = .ok (.invokevirtual 94, 3) := by decide +kernel
theorem dX5_produce_28 : decode cX5_produce 28 = .ok (.istore 4, 2) := by decide +kernel
theorem dX5_produce_30 : decode cX5_produce 30 = .ok (.iload 4, 2) := by decide +kernel
theorem dX5_produce_32 : decode cX5_produce 32 = .ok (.bipush 10, 2) := by decide +kernel
theorem dX5_produce_34 : decode cX5_produce 34 = .ok (.isub, 1) := by decide +kernel
theorem dX5_produce_35 : decode cX5_produce 35 = .ok (.istore 5, 2) := by decide +kernel
theorem dX5_produce_37 : decode cX5_produce 37 = .ok (.iload 5, 2) := by decide +kernel
theorem dX5_produce_39 : decode cX5_produce 39 = .ok (.invokestatic 149, 3) := by decide +kernel
theorem dX5_produce_42 : decode cX5_produce 42 = .ok (.ifCond .eq 23, 3) := by decide +kernel
theorem dX5_produce_45 : decode cX5_produce 45 = .ok (.aload_n 0, 1) := by decide +kernel
theorem dX5_produce_46 : decode cX5_produce 46 = .ok (.getfield 56, 3) := by decide +kernel
theorem dX5_produce_49 : decode cX5_produce 49 = .ok (.aload_n 0, 1) := by decide +kernel
theorem dX5_produce_50 : decode cX5_produce 50 = .ok (.getfield 12, 3) := by decide +kernel
theorem dX5_produce_53 : decode cX5_produce 53 = .ok (.getfield 213, 3) := by decide +kernel
theorem dX5_produce_56 : decode cX5_produce 56 = .ok (.iload 5, 2) := by decide +kernel
theorem dX5_produce_58 : decode cX5_produce 58 = .ok (.aaload, 1) := by decide +kernel
theorem dX5_produce_59 : decode cX5_produce 59 = .ok (.invokevirtual 229, 3) := by decide +kernel
theorem dX5_produce_62 : decode cX5_produce 62 = .ok (.goto 12, 3) := by decide +kernel
theorem dX5_produce_65 : decode cX5_produce 65 = .ok (.aload_n 0, 1) := by decide +kernel
theorem dX5_produce_66 : decode cX5_produce 66 = .ok (.getfield 56, 3) := by decide +kernel
theorem dX5_produce_69 : decode cX5_produce 69 = .ok (.iload 4, 2) := by decide +kernel
theorem dX5_produce_71 : decode cX5_produce 71 = .ok (.invokevirtual 73, 3) := by decide +kernel
theorem dX5_produce_74 : decode cX5_produce 74 = .ok (.istore_n 2, 1) := by decide +kernel
theorem dX5_produce_75 : decode cX5_produce 75 = .ok (.iinc 3 1, 3) := by decide +kernel
theorem dX5_produce_78 : decode cX5_produce 78 = .ok (.goto (-67), 3) := by decide +kernel
theorem dX5_produce_81 : decode cX5_produce 81 = .ok (.iload_n 2, 1) := by decide +kernel
theorem dX5_produce_82 : decode cX5_produce 82 = .ok (.ireturn, 1) := by decide +kernel
theorem dX5_addWord_0 : decode cX5_addWord 0 = .ok (.aload_n 0, 1) := by decide +kernel
theorem dX5_addWord_1 : decode cX5_addWord 1 = .ok (.invokevirtual 193, 3) := by decide +kernel
theorem dX5_addWord_4 : decode cX5_addWord 4 = .ok (.ifCond .eq 10, 3) := by decide +kernel
theorem dX5_addWord_7 : decode cX5_addWord 7 = .ok (.aload_n 0, 1) := by decide +kernel
theorem dX5_addWord_8 : decode cX5_addWord 8 = .ok (.invokevirtual 226, 3) := by decide +kernel
theorem dX5_addWord_11 : decode cX5_addWord 11 = .ok (.goto 5, 3) := by decide +kernel
theorem dX5_addWord_14 : decode cX5_addWord 14 = .ok (.bipush (-5), 2) := by decide +kernel
theorem dX5_addWord_16 : decode cX5_addWord 16 = .ok (.ireturn, 1) := by decide +kernel
theorem dX5_addToSample_0 : decode cX5_addToSample 0 = .ok (.aload_n 0, 1) := by decide +kernel
theorem dX5_addToSample_1 : decode cX5_addToSample 1 = .ok (.getfield 12, 3) := by decide +kernel
theorem dX5_addToSample_4 : decode cX5_addToSample 4 = .ok (.getfield 232, 3) := by decide +kernel
theorem dX5_addToSample_7 : decode cX5_addToSample 7 = .ok (.ifCond .lt 15, 3) := by decide +kernel
theorem dX5_addToSample_10 : decode cX5_addToSample 10 = .ok (.aload_n 0, 1) := by decide +kernel
theorem dX5_addToSample_11 : decode cX5_addToSample 11 = .ok (.getfield 12, 3) := by decide +kernel
theorem dX5_addToSample_14 : decode cX5_addToSample 14 = .ok (.getfield 232, 3) := by decide +kernel
theorem dX5_addToSample_17 : decode cX5_addToSample 17 = .ok (.bipush 6, 2) := by decide +kernel
theorem dX5_addToSample_19 : decode cX5_addToSample 19 = .ok (.if_icmp .lt 6, 3) := by decide +kernel
theorem dX5_addToSample_22 : decode cX5_addToSample 22 = .ok (.bipush (-4), 2) := by decide +kernel
theorem dX5_addToSample_24 : decode cX5_addToSample 24 = .ok (.ireturn, 1) := by decide +kernel
theorem dX5_addToSample_25 : decode cX5_addToSample 25 = .ok (.aload_n 0, 1) := by decide +kernel
theorem dX5_addToSample_26 : decode cX5_addToSample 26 = .ok (.getfield 12, 3) := by decide +kernel
theorem dX5_addToSample_29 : decode cX5_addToSample 29 = .ok (.getfield 235, 3) := by decide +kernel
theorem dX5_addToSample_32 : decode cX5_addToSample 32 = .ok (.aload_n 0, 1) := by decide +kernel
theorem dX5_addToSample_33 : decode cX5_addToSample 33 = .ok (.getfield 12, 3) := by decide +kernel
theorem dX5_addToSample_36 : decode cX5_addToSample 36 = .ok (.getfield 232, 3) := by decide +kernel
theorem dX5_addToSample_39 : decode cX5_addToSample 39 = .ok (.aaload, 1) := by decide +kernel
theorem dX5_addToSample_40 : decode cX5_addToSample 40 = .ok (.aload_n 0, 1) := by decide +kernel
theorem dX5_addToSample_41 : decode cX5_addToSample 41 = .ok (.getfield 56, 3) := by decide +kernel
theorem dX5_addToSample_44 : decode cX5_addToSample 44 = .ok (.invokevirtual 145, 3) := by decide +kernel
theorem dX5_addToSample_47 : decode cX5_addToSample 47 = .ok (.aload_n 0, 1) := by decide +kernel
theorem dX5_addToSample_48 : decode cX5_addToSample 48 = .ok (.getfield 12, 3) := by decide +kernel
theorem dX5_addToSample_51 : decode cX5_addToSample 51 = .ok (.dup, 1) := by decide +kernel
theorem dX5_addToSample_52 : decode cX5_addToSample 52 = .ok (.getfield 232, 3) := by decide +kernel
theorem dX5_addToSample_55 : decode cX5_addToSample 55 = .ok (.iconst 1, 1) := by decide +kernel
theorem dX5_addToSample_56 : decode cX5_addToSample 56 = .ok (.iadd, 1) := by decide +kernel
theorem dX5_addToSample_57 : decode cX5_addToSample 57 = .ok (.putfield 232, 3) := by decide +kernel
theorem dX5_addToSample_60 : decode cX5_addToSample 60 = .ok (.aload_n 0, 1) := by decide +kernel
theorem dX5_addToSample_61 : decode cX5_addToSample 61 = .ok (.getfield 12, 3) := by decide +kernel
theorem dX5_addToSample_64 : decode cX5_addToSample 64 = .ok (.getfield 232, 3) := by decide +kernel
theorem dX5_addToSample_67 : decode cX5_addToSample 67 = .ok (.ireturn, 1) := by decide +kernel
theorem dX5_removeWord_0 : decode cX5_removeWord 0 = .ok (.aload_n 0, 1) := by decide +kernel
theorem dX5_removeWord_1 : decode cX5_removeWord 1 = .ok (.iload_n 1, 1) := by decide +kernel
theorem dX5_removeWord_2 : decode cX5_removeWord 2 = .ok (.invokevirtual 238, 3) := by decide +kernel
theorem dX5_removeWord_5 : decode cX5_removeWord 5 = .ok (.ifCond .ne 6, 3) := by decide +kernel
theorem dX5_removeWord_8 : decode cX5_removeWord 8 = .ok (.bipush (-6), 2) := by decide +kernel
theorem dX5_removeWord_10 : decode cX5_removeWord 10 = .ok (.ireturn, 1) := by decide +kernel
theorem dX5_removeWord_11 : decode cX5_removeWord 11 = .ok (.iload_n 1, 1) := by decide +kernel
theorem dX5_removeWord_12 : decode cX5_removeWord 12 = .ok (.istore_n 2, 1) := by decide +kernel
theorem dX5_removeWord_13 : decode cX5_removeWord 13 = .ok (.iload_n 2, 1) := by decide +kernel
theorem dX5_removeWord_14 : decode cX5_removeWord 14 = .ok (.iconst 1, 1) := by decide +kernel
theorem dX5_removeWord_15 : decode cX5_removeWord 15 = .ok (.iadd, 1) := by decide +kernel
theorem dX5_removeWord_16 : decode cX5_removeWord 16 = .ok (.aload_n 0, 1) := by decide +kernel
theorem dX5_removeWord_17 : decode cX5_removeWord 17 = .ok (.getfield 12, 3) := by decide +kernel
theorem dX5_removeWord_20 : decode cX5_removeWord 20 = .ok (.getfield 232, 3) := by decide +kernel
theorem dX5_removeWord_23 : decode cX5_removeWord 23 = .ok (.if_icmp .ge 40, 3) := by decide +kernel
theorem dX5_removeWord_26 : decode cX5_removeWord 26 = .ok (.iload_n 2, 1) := by decide +kernel
theorem dX5_removeWord_27 : decode cX5_removeWord 27 = .ok (.iconst 1, 1) := by decide +kernel
theorem dX5_removeWord_28 : decode cX5_removeWord 28 = .ok (.iadd, 1) := by decide +kernel
theorem dX5_removeWord_29 : decode cX5_removeWord 29 = .ok (.bipush 6, 2) := by decide +kernel
theorem dX5_removeWord_31 : decode cX5_removeWord 31 = .ok (.if_icmp .ge 32, 3) := by decide +kernel
theorem dX5_removeWord_34 : decode cX5_removeWord 34 = .ok (.aload_n 0, 1) := by decide +kernel
theorem dX5_removeWord_35 : decode cX5_removeWord 35 = .ok (.getfield 12, 3) := by decide +kernel
theorem dX5_removeWord_38 : decode cX5_removeWord 38 = .ok (.getfield 235, 3) := by decide +kernel
theorem dX5_removeWord_41 : decode cX5_removeWord 41 = .ok (.iload_n 2, 1) := by decide +kernel
theorem dX5_removeWord_42 : decode cX5_removeWord 42 = .ok (.aaload, 1) := by decide +kernel
theorem dX5_removeWord_43 : decode cX5_removeWord 43 = .ok (.aload_n 0, 1) := by decide +kernel
theorem dX5_removeWord_44 : decode cX5_removeWord 44 = .ok (.getfield 12, 3) := by decide +kernel
theorem dX5_removeWord_47 : decode cX5_removeWord 47 = .ok (.getfield 235, 3) := by decide +kernel
theorem dX5_removeWord_50 : decode cX5_removeWord 50 = .ok (.iload_n 2, 1) := by decide +kernel
theorem dX5_removeWord_51 : decode cX5_removeWord 51 = .ok (.iconst 1, 1) := by decide +kernel
theorem dX5_removeWord_52 : decode cX5_removeWord 52 = .ok (.iadd, 1) := by decide +kernel
theorem dX5_removeWord_53 : decode cX5_removeWord 53 = .ok (.aaload, 1) := by decide +kernel
theorem dX5_removeWord_54 : decode cX5_removeWord 54 = .ok (.invokevirtual 145, 3) := by decide +kernel
theorem dX5_removeWord_57 : decode cX5_removeWord 57 = .ok (.iinc 2 1, 3) := by decide +kernel
theorem dX5_removeWord_60 : decode cX5_removeWord 60 = .ok (.goto (-47), 3) := by decide +kernel
theorem dX5_removeWord_63 : decode cX5_removeWord 63 = .ok (.aload_n 0, 1) := by decide +kernel
theorem dX5_removeWord_64 : decode cX5_removeWord 64 = .ok (.getfield 12, 3) := by decide +kernel
theorem dX5_removeWord_67 : decode cX5_removeWord 67 = .ok (.dup, 1) := by decide +kernel
theorem dX5_removeWord_68 : decode cX5_removeWord 68 = .ok (.getfield 232, 3) := by decide +kernel
theorem dX5_removeWord_71 : decode cX5_removeWord 71 = .ok (.iconst 1, 1) := by decide +kernel
theorem dX5_removeWord_72 : decode cX5_removeWord 72 = .ok (.isub, 1) := by decide +kernel
theorem dX5_removeWord_73 : decode cX5_removeWord 73 = .ok (.putfield 232, 3) := by decide +kernel
theorem dX5_removeWord_76 : decode cX5_removeWord 76 = .ok (.aload_n 0, 1) := by decide +kernel
theorem dX5_removeWord_77 : decode cX5_removeWord 77 = .ok (.getfield 12, 3) := by decide +kernel
theorem dX5_removeWord_80 : decode cX5_removeWord 80 = .ok (.getfield 232, 3) := by decide +kernel
theorem dX5_removeWord_83 : decode cX5_removeWord 83 = .ok (.ireturn, 1) := by decide +kernel
theorem dX5_sampleSize_0 : decode cX5_sampleSize 0 = .ok (.aload_n 0, 1) := by decide +kernel
theorem dX5_sampleSize_1 : decode cX5_sampleSize 1 = .ok (.getfield 12, 3) := by decide +kernel
theorem dX5_sampleSize_4 : decode cX5_sampleSize 4 = .ok (.getfield 232, 3) := by decide +kernel
theorem dX5_sampleSize_7 : decode cX5_sampleSize 7 = .ok (.ireturn, 1) := by decide +kernel
theorem dX5_sampleCode_0 : decode cX5_sampleCode 0 = .ok (.aload_n 0, 1) := by decide +kernel
theorem dX5_sampleCode_1 : decode cX5_sampleCode 1 = .ok (.iload_n 1, 1) := by decide +kernel
theorem dX5_sampleCode_2 : decode cX5_sampleCode 2 = .ok (.invokevirtual 238, 3) := by decide +kernel
theorem dX5_sampleCode_5 : decode cX5_sampleCode 5 = .ok (.ifCond .eq 18, 3) := by decide +kernel
theorem dX5_sampleCode_8 : decode cX5_sampleCode 8 = .ok (.aload_n 0, 1) := by decide +kernel
theorem dX5_sampleCode_9 : decode cX5_sampleCode 9 = .ok (.getfield 12, 3) := by decide +kernel
theorem dX5_sampleCode_12 : decode cX5_sampleCode 12 = .ok (.getfield 235, 3) := by decide +kernel
theorem dX5_sampleCode_15 : decode cX5_sampleCode 15 = .ok (.iload_n 1, 1) := by decide +kernel
theorem dX5_sampleCode_16 : decode cX5_sampleCode 16 = .ok (.aaload, 1) := by decide +kernel
theorem dX5_sampleCode_17 : decode cX5_sampleCode 17 = .ok (.invokevirtual 241, 3) := by decide +kernel
theorem dX5_sampleCode_20 : decode cX5_sampleCode 20 = .ok (.goto 6, 3) := by decide +kernel
theorem dX5_sampleCode_23 : decode cX5_sampleCode 23 = .ok (.ldc2_w 245, 3) := by decide +kernel
theorem dX5_sampleCode_26 : decode cX5_sampleCode 26 = .ok (.lreturn, 1) := by decide +kernel
theorem dX5_firstMisfit_0 : decode cX5_firstMisfit 0 = .ok (.iload_n 1, 1) := by decide +kernel
theorem dX5_firstMisfit_1 : decode cX5_firstMisfit 1 = .ok (.invokestatic 114, 3) := by decide +kernel
theorem dX5_firstMisfit_4 : decode cX5_firstMisfit 4 = .ok (.ifCond .ne 6, 3) := by decide +kernel
theorem dX5_firstMisfit_7 : decode cX5_firstMisfit 7 = .ok (.bipush (-2), 2) := by decide +kernel
theorem dX5_firstMisfit_9 : decode cX5_firstMisfit 9 = .ok (.ireturn, 1) := by decide +kernel
theorem dX5_firstMisfit_10 : decode cX5_firstMisfit 10 = .ok (.iload_n 2, 1) := by decide +kernel
theorem dX5_firstMisfit_11 : decode cX5_firstMisfit 11 = .ok (.invokestatic 220, 3) := by decide +kernel
theorem dX5_firstMisfit_14 : decode cX5_firstMisfit 14 = .ok (.ifCond .ne 5, 3) := by decide +kernel
theorem dX5_firstMisfit_17 : decode cX5_firstMisfit 17 = .ok (.iconst (-1), 1) := by decide +kernel
theorem dX5_firstMisfit_18 : decode cX5_firstMisfit 18 = .ok (.ireturn, 1) := by decide +kernel
theorem dX5_firstMisfit_19 : decode cX5_firstMisfit 19 = .ok (.iconst 0, 1) := by decide +kernel
theorem dX5_firstMisfit_20 : decode cX5_firstMisfit 20 = .ok (.istore_n 3, 1) := by decide +kernel
theorem dX5_firstMisfit_21 : decode cX5_firstMisfit 21 = .ok (.iload_n 3, 1) := by decide +kernel
theorem dX5_firstMisfit_22 : decode cX5_firstMisfit 22 = .ok (.aload_n 0, 1) := by decide +kernel
theorem dX5_firstMisfit_23 : decode cX5_firstMisfit 23 = .ok (.getfield 12, 3) := by decide +kernel
theorem dX5_firstMisfit_26 : decode cX5_firstMisfit 26 = .ok (.getfield 232, 3) := by decide +kernel
theorem dX5_firstMisfit_29 : decode cX5_firstMisfit 29 = .ok (.if_icmp .ge 46, 3) := by decide +kernel
theorem dX5_firstMisfit_32 : decode cX5_firstMisfit 32 = .ok (.iload_n 3, 1) := by decide +kernel
theorem dX5_firstMisfit_33 : decode cX5_firstMisfit 33 = .ok (.bipush 6, 2) := by decide +kernel
theorem dX5_firstMisfit_35 : decode cX5_firstMisfit 35 = .ok (.if_icmp .ge 40, 3) := by decide +kernel
theorem dX5_firstMisfit_38 : decode cX5_firstMisfit 38 = .ok (.aload_n 0, 1) := by decide +kernel
theorem dX5_firstMisfit_39 : decode cX5_firstMisfit 39 = .ok (.getfield 43, 3) := by decide +kernel
theorem dX5_firstMisfit_42 : decode cX5_firstMisfit 42 = .ok (.aload_n 0, 1) := by decide +kernel
theorem dX5_firstMisfit_43 : decode cX5_firstMisfit 43 = .ok (.getfield 12, 3) := by decide +kernel
theorem dX5_firstMisfit_46 : decode cX5_firstMisfit 46 = .ok (.getfield 121, 3) := by decide +kernel
theorem dX5_firstMisfit_49 : decode cX5_firstMisfit 49 = .ok (.iload_n 1, 1) := by decide +kernel
theorem dX5_firstMisfit_50 : decode cX5_firstMisfit 50 = .ok (.aaload, 1) := by decide +kernel
theorem dX5_firstMisfit_51 : decode cX5_firstMisfit 51 = .ok (.aload_n 0, 1) := by decide +kernel
theorem dX5_firstMisfit_52 : decode cX5_firstMisfit 52 = .ok (.getfield 12, 3) := by decide +kernel
theorem dX5_firstMisfit_55 : decode cX5_firstMisfit 55 = .ok (.getfield 235, 3) := by decide +kernel
theorem dX5_firstMisfit_58 : decode cX5_firstMisfit 58 = .ok (.iload_n 3, 1) := by decide +kernel
theorem dX5_firstMisfit_59 : decode cX5_firstMisfit 59 = .ok (.aaload, 1) := by decide +kernel
theorem dX5_firstMisfit_60 : decode cX5_firstMisfit 60 = .ok (.iload_n 2, 1) := by decide +kernel
theorem dX5_firstMisfit_61 : decode cX5_firstMisfit 61 = .ok (.invokevirtual 200, 3) := by decide +kernel
theorem dX5_firstMisfit_64 : decode cX5_firstMisfit 64 = .ok (.ifCond .ne 5, 3) := by decide +kernel
theorem dX5_firstMisfit_67 : decode cX5_firstMisfit 67 = .ok (.iload_n 3, 1) := by decide +kernel
theorem dX5_firstMisfit_68 : decode cX5_firstMisfit 68 = .ok (.ireturn, 1) := by decide +kernel
theorem dX5_firstMisfit_69 : decode cX5_firstMisfit 69 = .ok (.iinc 3 1, 3) := by decide +kernel
theorem dX5_firstMisfit_72 : decode cX5_firstMisfit 72 = .ok (.goto (-51), 3) := by decide +kernel
theorem dX5_firstMisfit_75 : decode cX5_firstMisfit 75 = .ok (.bipush (-6), 2) := by decide +kernel
theorem dX5_firstMisfit_77 : decode cX5_firstMisfit 77 = .ok (.ireturn, 1) := by decide +kernel
theorem dX5_isSampleIndex_0 : decode cX5_isSampleIndex 0 = .ok (.iload_n 1, 1) := by decide +kernel
theorem dX5_isSampleIndex_1 : decode cX5_isSampleIndex 1 = .ok (.ifCond .lt 24, 3) := by decide +kernel
theorem dX5_isSampleIndex_4 : decode cX5_isSampleIndex 4 = .ok (.iload_n 1, 1) := by decide +kernel
theorem dX5_isSampleIndex_5 : decode cX5_isSampleIndex 5 = .ok (.aload_n 0, 1) := by decide +kernel
theorem dX5_isSampleIndex_6 : decode cX5_isSampleIndex 6 = .ok (.getfield 12, 3) := by decide +kernel
theorem dX5_isSampleIndex_9 : decode cX5_isSampleIndex 9 = .ok (.getfield 232, 3) := by decide +kernel
theorem dX5_isSampleIndex_12 : decode cX5_isSampleIndex 12 = .ok (.if_icmp .ge 13, 3) := by decide +kernel
theorem dX5_isSampleIndex_15 : decode cX5_isSampleIndex 15 = .ok (.iload_n 1, 1) := by decide +kernel
theorem dX5_isSampleIndex_16 : decode cX5_isSampleIndex 16 = .ok (.bipush 6, 2) := by decide +kernel
theorem dX5_isSampleIndex_18 : decode cX5_isSampleIndex 18 = .ok (.if_icmp .ge 7, 3) := by decide +kernel
theorem dX5_isSampleIndex_21 : decode cX5_isSampleIndex 21 = .ok (.iconst 1, 1) := by decide +kernel
theorem dX5_isSampleIndex_22 : decode cX5_isSampleIndex 22 = .ok (.goto 4, 3) := by decide +kernel
theorem dX5_isSampleIndex_25 : decode cX5_isSampleIndex 25 = .ok (.iconst 0, 1) := by decide +kernel
theorem dX5_isSampleIndex_26 : decode cX5_isSampleIndex 26 = .ok (.ireturn, 1) := by decide +kernel
theorem dX5_isMoreGeneral_0 : decode cX5_isMoreGeneral 0 = .ok (.iload_n 1, 1) := by decide +kernel
theorem dX5_isMoreGeneral_1 : decode cX5_isMoreGeneral 1 = .ok (.invokestatic 114, 3) := by decide +kernel
theorem dX5_isMoreGeneral_4 : decode cX5_isMoreGeneral 4 = .ok (.ifCond .eq 10, 3) := by decide +kernel
theorem dX5_isMoreGeneral_7 : decode cX5_isMoreGeneral 7 = .ok (.iload_n 2, 1) := by decide +kernel
theorem dX5_isMoreGeneral_8 : decode cX5_isMoreGeneral 8 = .ok (.invokestatic 114, 3) := by decide +kernel
theorem dX5_isMoreGeneral_11 : decode cX5_isMoreGeneral 11 = .ok (.ifCond .ne 6, 3) := by decide +kernel
theorem dX5_isMoreGeneral_14 : decode cX5_isMoreGeneral 14 = .ok (.bipush (-2), 2) := by decide +kernel
theorem dX5_isMoreGeneral_16 : decode cX5_isMoreGeneral 16 = .ok (.ireturn, 1) := by decide +kernel
theorem dX5_isMoreGeneral_17 : decode cX5_isMoreGeneral 17 = .ok (.iload_n 3, 1) := by decide +kernel
theorem dX5_isMoreGeneral_18 : decode cX5_isMoreGeneral 18 = .ok (.invokestatic 220, 3) := by decide +kernel
theorem dX5_isMoreGeneral_21 : decode cX5_isMoreGeneral 21 = .ok (.ifCond .ne 5, 3) := by decide +kernel
theorem dX5_isMoreGeneral_24 : decode cX5_isMoreGeneral 24 = .ok (.iconst (-1), 1) := by decide +kernel
theorem dX5_isMoreGeneral_25 : decode cX5_isMoreGeneral 25 = .ok (.ireturn, 1) := by decide +kernel
theorem dX5_isMoreGeneral_26 : decode cX5_isMoreGeneral 26 = .ok (.aload_n 0, 1) := by decide +kernel
theorem dX5_isMoreGeneral_27 : decode cX5_isMoreGeneral 27 = .ok (.iload_n 1, 1) := by decide +kernel
theorem dX5_isMoreGeneral_28 : decode cX5_isMoreGeneral 28 = .ok (.iload_n 2, 1) := by decide +kernel
theorem dX5_isMoreGeneral_29 : decode cX5_isMoreGeneral 29 = .ok (.iload_n 3, 1) := by decide +kernel
theorem dX5_isMoreGeneral_30 : decode cX5_isMoreGeneral 30 = .ok (.invokevirtual 247, 3) := by decide +kernel
theorem dX5_isMoreGeneral_33 : decode cX5_isMoreGeneral 33 = .ok (.ifCond .eq 7, 3) := by decide +kernel
theorem dX5_isMoreGeneral_36 : decode cX5_isMoreGeneral 36 = .ok (.iconst 1, 1) := by decide +kernel
theorem dX5_isMoreGeneral_37 : decode cX5_isMoreGeneral 37 = .ok (.goto 4, 3) := by decide +kernel
theorem dX5_isMoreGeneral_40 : decode cX5_isMoreGeneral 40 = .ok (.iconst 0, 1) := by decide +kernel
theorem dX5_isMoreGeneral_41 : decode cX5_isMoreGeneral 41 = .ok (.ireturn, 1) := by decide +kernel
theorem dX5_chainBreak_0 : decode cX5_chainBreak 0 = .ok (.iload_n 1, 1) := by decide +kernel
theorem dX5_chainBreak_1 : decode cX5_chainBreak 1 = .ok (.invokestatic 114, 3) := by decide +kernel
theorem dX5_chainBreak_4 : decode cX5_chainBreak 4 = .ok (.ifCond .eq 10, 3) := by decide +kernel
theorem dX5_chainBreak_7 : decode cX5_chainBreak 7 = .ok (.iload_n 2, 1) := by decide +kernel
theorem dX5_chainBreak_8 : decode cX5_chainBreak 8 = .ok (.invokestatic 114, 3) := by decide +kernel
theorem dX5_chainBreak_11 : decode cX5_chainBreak 11 = .ok (.ifCond .ne 6, 3) := by decide +kernel
theorem dX5_chainBreak_14 : decode cX5_chainBreak 14 = .ok (.bipush (-2), 2) := by decide +kernel
theorem dX5_chainBreak_16 : decode cX5_chainBreak 16 = .ok (.ireturn, 1) := by decide +kernel
theorem dX5_chainBreak_17 : decode cX5_chainBreak 17 = .ok (.iload_n 2, 1) := by decide +kernel
theorem dX5_chainBreak_18 : decode cX5_chainBreak 18 = .ok (.iload_n 1, 1) := by decide +kernel
theorem dX5_chainBreak_19 : decode cX5_chainBreak 19 = .ok (.if_icmp .lt 10, 3) := by decide +kernel
theorem dX5_chainBreak_22 : decode cX5_chainBreak 22 = .ok (.iload_n 3, 1) := by decide +kernel
theorem dX5_chainBreak_23 : decode cX5_chainBreak 23 = .ok (.invokestatic 220, 3) := by decide +kernel
theorem dX5_chainBreak_26 : decode cX5_chainBreak 26 = .ok (.ifCond .ne 5, 3) := by decide +kernel
theorem dX5_chainBreak_29 : decode cX5_chainBreak 29 = .ok (.iconst (-1), 1) := by decide +kernel
theorem dX5_chainBreak_30 : decode cX5_chainBreak 30 = .ok (.ireturn, 1) := by decide +kernel
theorem dX5_chainBreak_31 : decode cX5_chainBreak 31 = .ok (.iload_n 1, 1) := by decide +kernel
theorem dX5_chainBreak_32 : decode cX5_chainBreak 32 = .ok (.istore 4, 2) := by decide +kernel
theorem dX5_chainBreak_34 : decode cX5_chainBreak 34 = .ok (.iload 4, 2) := by decide +kernel
theorem dX5_chainBreak_36 : decode cX5_chainBreak 36 = .ok (.iload_n 2, 1) := by decide +kernel
theorem dX5_chainBreak_37 : decode cX5_chainBreak 37 = .ok (.if_icmp .ge 40, 3) := by decide +kernel
theorem dX5_chainBreak_40 : decode cX5_chainBreak 40 = .ok (.aload_n 0, 1) := by decide +kernel
theorem dX5_chainBreak_41 : decode cX5_chainBreak 41 = .ok (.iload 4, 2) := by decide +kernel
theorem dX5_chainBreak_43 : decode cX5_chainBreak 43 = .ok (.iload 4, 2) := by decide +kernel
theorem dX5_chainBreak_45 : decode cX5_chainBreak 45 = .ok (.iconst 1, 1) := by decide +kernel
theorem dX5_chainBreak_46 : decode cX5_chainBreak 46 = .ok (.iadd, 1) := by decide +kernel
theorem dX5_chainBreak_47 : decode cX5_chainBreak 47 = .ok (.iload_n 3, 1) := by decide +kernel
theorem dX5_chainBreak_48 : decode cX5_chainBreak 48 = .ok (.invokevirtual 247, 3) := by decide +kernel
theorem dX5_chainBreak_51 : decode cX5_chainBreak 51 = .ok (.ifCond .eq 17, 3) := by decide +kernel
theorem dX5_chainBreak_54 : decode cX5_chainBreak 54 = .ok (.aload_n 0, 1) := by decide +kernel
theorem dX5_chainBreak_55 : decode cX5_chainBreak 55 = .ok (.iload 4, 2) := by decide +kernel
theorem dX5_chainBreak_57 : decode cX5_chainBreak 57 = .ok (.iconst 1, 1) := by decide +kernel
theorem dX5_chainBreak_58 : decode cX5_chainBreak 58 = .ok (.iadd, 1) := by decide +kernel
theorem dX5_chainBreak_59 : decode cX5_chainBreak 59 = .ok (.iload 4, 2) := by decide +kernel
theorem dX5_chainBreak_61 : decode cX5_chainBreak 61 = .ok (.iload_n 3, 1) := by decide +kernel
theorem dX5_chainBreak_62 : decode cX5_chainBreak 62 = .ok (.invokevirtual 247, 3) := by decide +kernel
theorem dX5_chainBreak_65 : decode cX5_chainBreak 65 = .ok (.ifCond .eq 6, 3) := by decide +kernel
theorem dX5_chainBreak_68 : decode cX5_chainBreak 68 = .ok (.iload 4, 2) := by decide +kernel
theorem dX5_chainBreak_70 : decode cX5_chainBreak 70 = .ok (.ireturn, 1) := by decide +kernel
theorem dX5_chainBreak_71 : decode cX5_chainBreak 71 = .ok (.iinc 4 1, 3) := by decide +kernel
theorem dX5_chainBreak_74 : decode cX5_chainBreak 74 = .ok (.goto (-40), 3) := by decide +kernel
theorem dX5_chainBreak_77 : decode cX5_chainBreak 77 = .ok (.bipush (-6), 2) := by decide +kernel
theorem dX5_chainBreak_79 : decode cX5_chainBreak 79 = .ok (.ireturn, 1) := by decide +kernel
theorem dX5_isAsGeneral_0 : decode cX5_isAsGeneral 0 = .ok (.aload_n 0, 1) := by decide +kernel
theorem dX5_isAsGeneral_1 : decode cX5_isAsGeneral 1 = .ok (.getfield 43, 3) := by decide +kernel
theorem dX5_isAsGeneral_4 : decode cX5_isAsGeneral 4 = .ok (.aload_n 0, 1) := by decide +kernel
theorem dX5_isAsGeneral_5 : decode cX5_isAsGeneral 5 = .ok (.getfield 12, 3) := by decide +kernel
theorem dX5_isAsGeneral_8 : decode cX5_isAsGeneral 8 = .ok (.getfield 121, 3) := by decide +kernel
theorem dX5_isAsGeneral_11 : decode cX5_isAsGeneral 11 = .ok (.iload_n 1, 1) := by decide +kernel
theorem dX5_isAsGeneral_12 : decode cX5_isAsGeneral 12 = .ok (.aaload, 1) := by decide +kernel
theorem dX5_isAsGeneral_13 : decode cX5_isAsGeneral 13 = .ok (.aload_n 0, 1) := by decide +kernel
theorem dX5_isAsGeneral_14 : decode cX5_isAsGeneral 14 = .ok (.getfield 12, 3) := by decide +kernel
theorem dX5_isAsGeneral_17 : decode cX5_isAsGeneral 17 = .ok (.getfield 121, 3) := by decide +kernel
theorem dX5_isAsGeneral_20 : decode cX5_isAsGeneral 20 = .ok (.iload_n 2, 1) := by decide +kernel
theorem dX5_isAsGeneral_21 : decode cX5_isAsGeneral 21 = .ok (.aaload, 1) := by decide +kernel
theorem dX5_isAsGeneral_22 : decode cX5_isAsGeneral 22 = .ok (.iload_n 3, 1) := by decide +kernel
theorem dX5_isAsGeneral_23 : decode cX5_isAsGeneral 23 = .ok (.invokevirtual 200, 3) := by decide +kernel
theorem dX5_isAsGeneral_26 : decode cX5_isAsGeneral 26 = .ok (.ireturn, 1) := by decide +kernel
theorem dX5_findPattern_0 : decode cX5_findPattern 0 = .ok (.iload_n 1, 1) := by decide +kernel
theorem dX5_findPattern_1 : decode cX5_findPattern 1 = .ok (.invokestatic 114, 3) := by decide +kernel
theorem dX5_findPattern_4 : decode cX5_findPattern 4 = .ok (.ifCond .ne 6, 3) := by decide +kernel
theorem dX5_findPattern_7 : decode cX5_findPattern 7 = .ok (.bipush (-2), 2) := by decide +kernel
theorem dX5_findPattern_9 : decode cX5_findPattern 9 = .ok (.ireturn, 1) := by decide +kernel
theorem dX5_findPattern_10 : decode cX5_findPattern 10 = .ok (.iload_n 2, 1) := by decide +kernel
theorem dX5_findPattern_11 : decode cX5_findPattern 11 = .ok (.iconst 1, 1) := by decide +kernel
theorem dX5_findPattern_12 : decode cX5_findPattern 12 = .ok (.if_icmp .lt 15, 3) := by decide +kernel
theorem dX5_findPattern_15 : decode cX5_findPattern 15 = .ok (.iload_n 2, 1) := by decide +kernel
theorem dX5_findPattern_16 : decode cX5_findPattern 16 = .ok (.iconst 5, 1) := by decide +kernel
theorem dX5_findPattern_17 : decode cX5_findPattern 17 = .ok (.if_icmp .gt 10, 3) := by decide +kernel
theorem dX5_findPattern_20 : decode cX5_findPattern 20 = .ok (.iload_n 3, 1) := by decide +kernel
theorem dX5_findPattern_21 : decode cX5_findPattern 21 = .ok (.invokestatic 220, 3) := by decide +kernel
theorem dX5_findPattern_24 : decode cX5_findPattern 24 = .ok (.ifCond .ne 5, 3) := by decide +kernel
theorem dX5_findPattern_27 : decode cX5_findPattern 27 = .ok (.iconst (-1), 1) := by decide +kernel
theorem dX5_findPattern_28 : decode cX5_findPattern 28 = .ok (.ireturn, 1) := by decide +kernel
theorem dX5_findPattern_29 : decode cX5_findPattern 29 = .ok (.aload_n 0, 1) := by decide +kernel
theorem dX5_findPattern_30 : decode cX5_findPattern 30 = .ok (.getfield 52, 3) := by decide +kernel
theorem dX5_findPattern_33 : decode cX5_findPattern 33 = .ok (.iload_n 2, 1) := by decide +kernel
theorem dX5_findPattern_34 : decode cX5_findPattern 34 = .ok (.iload_n 3, 1) := by decide +kernel
theorem dX5_findPattern_35 : decode cX5_findPattern 35 = .ok (.invokevirtual 251, 3) := by decide +kernel
theorem dX5_findPattern_38 : decode cX5_findPattern 38 = .ok (.ifCond .ne 6, 3) := by decide +kernel
theorem dX5_findPattern_41 : decode cX5_findPattern 41 = .ok (.bipush (-6), 2) := by decide +kernel
theorem dX5_findPattern_43 : decode cX5_findPattern 43 = .ok (.ireturn, 1) := by decide +kernel
theorem dX5_findPattern_44 : decode cX5_findPattern 44 = .ok (.aload_n 0, 1) := by decide +kernel
theorem dX5_findPattern_45 : decode cX5_findPattern 45 = .ok (.iload_n 1, 1) := by decide +kernel
theorem dX5_findPattern_46 : decode cX5_findPattern 46 = .ok (.aload_n 0, 1) := by decide +kernel
theorem dX5_findPattern_47 : decode cX5_findPattern 47 = .ok (.getfield 52, 3) := by decide +kernel
theorem dX5_findPattern_50 : decode cX5_findPattern 50 = .ok (.getfield 254, 3) := by decide +kernel
theorem dX5_findPattern_53 : decode cX5_findPattern 53 = .ok (.invokevirtual 117, 3) := by decide +kernel
theorem dX5_findPattern_56 : decode cX5_findPattern 56 = .ok (.pop, 1) := by decide +kernel
theorem dX5_findPattern_57 : decode cX5_findPattern 57 = .ok (.aload_n 0, 1) := by decide +kernel
theorem dX5_findPattern_58 : decode cX5_findPattern 58 = .ok (.getfield 52, 3) := by decide +kernel
theorem dX5_findPattern_61 : decode cX5_findPattern 61 = .ok (.getfield 254, 3) := by decide +kernel
theorem dX5_findPattern_64 : decode cX5_findPattern 64 = .ok (.invokevirtual 87, 3) := by decide +kernel
theorem dX5_findPattern_67 : decode cX5_findPattern 67 = .ok (.ireturn, 1) := by decide +kernel
theorem dX5_findOneVariable_0 : decode cX5_findOneVariable 0 = .ok (.iload_n 1, 1) := by decide +kernel
theorem dX5_findOneVariable_1 : decode cX5_findOneVariable 1 = .ok (.invokestatic 114, 3) := by decide +kernel
theorem dX5_findOneVariable_4 : decode cX5_findOneVariable 4 = .ok (.ifCond .ne 6, 3) := by decide +kernel
theorem dX5_findOneVariable_7 : decode cX5_findOneVariable 7 = .ok (.bipush (-2), 2) := by decide +kernel
theorem dX5_findOneVariable_9 : decode cX5_findOneVariable 9 = .ok (.ireturn, 1) := by decide +kernel
theorem dX5_findOneVariable_10 : decode cX5_findOneVariable 10 = .ok (.aload_n 0, 1) := by decide +kernel
theorem dX5_findOneVariable_11 : decode cX5_findOneVariable 11 = .ok (.getfield 52, 3) := by decide +kernel
theorem dX5_findOneVariable_14 : decode cX5_findOneVariable 14 = .ok (.invokevirtual 257, 3) := by decide +kernel
theorem dX5_findOneVariable_17 : decode cX5_findOneVariable 17 = .ok (.ifCond .eq 18, 3) := by decide +kernel
theorem dX5_findOneVariable_20 : decode cX5_findOneVariable 20 = .ok (.aload_n 0, 1) := by decide +kernel
theorem dX5_findOneVariable_21 : decode cX5_findOneVariable 21 = .ok (.iload_n 1, 1) := by decide +kernel
theorem dX5_findOneVariable_22 : decode cX5_findOneVariable 22 = .ok (.aload_n 0, 1) := by decide +kernel
theorem dX5_findOneVariable_23 : decode cX5_findOneVariable 23 = .ok (.getfield 52, 3) := by decide +kernel
theorem dX5_findOneVariable_26 : decode cX5_findOneVariable 26 = .ok (.getfield 254, 3) := by decide +kernel
theorem dX5_findOneVariable_29 : decode cX5_findOneVariable 29 = .ok (.invokevirtual 117, 3) := by decide +kernel
theorem dX5_findOneVariable_32 : decode cX5_findOneVariable 32 = .ok (.goto 5, 3) := by decide +kernel
theorem dX5_findOneVariable_35 : decode cX5_findOneVariable 35 = .ok (.bipush (-6), 2) := by decide +kernel
theorem dX5_findOneVariable_37 : decode cX5_findOneVariable 37 = .ok (.ireturn, 1) := by decide +kernel
theorem dX5_countWords_0 : decode cX5_countWords 0 = .ok (.iload_n 1, 1) := by decide +kernel
theorem dX5_countWords_1 : decode cX5_countWords 1 = .ok (.invokestatic 114, 3) := by decide +kernel
theorem dX5_countWords_4 : decode cX5_countWords 4 = .ok (.ifCond .ne 6, 3) := by decide +kernel
theorem dX5_countWords_7 : decode cX5_countWords 7 = .ok (.bipush (-2), 2) := by decide +kernel
theorem dX5_countWords_9 : decode cX5_countWords 9 = .ok (.ireturn, 1) := by decide +kernel
theorem dX5_countWords_10 : decode cX5_countWords 10 = .ok (.iload_n 2, 1) := by decide +kernel
theorem dX5_countWords_11 : decode cX5_countWords 11 = .ok (.invokestatic 220, 3) := by decide +kernel
theorem dX5_countWords_14 : decode cX5_countWords 14 = .ok (.ifCond .eq 13, 3) := by decide +kernel
theorem dX5_countWords_17 : decode cX5_countWords 17 = .ok (.iload_n 3, 1) := by decide +kernel
theorem dX5_countWords_18 : decode cX5_countWords 18 = .ok (.ifCond .lt 9, 3) := by decide +kernel
theorem dX5_countWords_21 : decode cX5_countWords 21 = .ok (.iload_n 3, 1) := by decide +kernel
theorem dX5_countWords_22 : decode cX5_countWords 22 = .ok (.bipush 6, 2) := by decide +kernel
theorem dX5_countWords_24 : decode cX5_countWords 24 = .ok (.if_icmp .le 5, 3) := by decide +kernel
theorem dX5_countWords_27 : decode cX5_countWords 27 = .ok (.iconst (-1), 1) := by decide +kernel
theorem dX5_countWords_28 : decode cX5_countWords 28 = .ok (.ireturn, 1) := by decide +kernel
theorem dX5_countWords_29 : decode cX5_countWords 29 = .ok (.iconst 0, 1) := by decide +kernel
theorem dX5_countWords_30 : decode cX5_countWords 30 = .ok (.istore 4, 2) := by decide +kernel
theorem dX5_countWords_32 : decode cX5_countWords 32 = .ok (.aload_n 0, 1) := by decide +kernel
theorem dX5_countWords_33 : decode cX5_countWords 33 = .ok (.iload_n 3, 1) := by decide +kernel
theorem dX5_countWords_34 : decode cX5_countWords 34 = .ok (.invokevirtual 260, 3) := by decide +kernel
theorem dX5_countWords_37 : decode cX5_countWords 37 = .ok (.istore 5, 2) := by decide +kernel
theorem dX5_countWords_39 : decode cX5_countWords 39 = .ok (.aload_n 0, 1) := by decide +kernel
theorem dX5_countWords_40 : decode cX5_countWords 40 = .ok (.getfield 59, 3) := by decide +kernel
theorem dX5_countWords_43 : decode cX5_countWords 43 = .ok (.iconst 0, 1) := by decide +kernel
theorem dX5_countWords_44 : decode cX5_countWords 44 = .ok (.iload_n 3, 1) := by decide +kernel
theorem dX5_countWords_45 : decode cX5_countWords 45 = .ok (.invokevirtual 263, 3) := by decide +kernel
theorem dX5_countWords_48 : decode cX5_countWords 48 = .ok (.iconst 0, 1) := by decide +kernel
theorem dX5_countWords_49 : decode cX5_countWords 49 = .ok (.istore 6, 2) := by decide +kernel
theorem dX5_countWords_51 : decode cX5_countWords 51 = .ok (.iload 6, 2) := by decide +kernel
theorem dX5_countWords_53 : decode cX5_countWords 53 = .ok (.iload 5, 2) := by decide +kernel
theorem dX5_countWords_55 : decode cX5_countWords 55 = .ok (.if_icmp .ge 50, 3) := by decide +kernel
theorem dX5_countWords_58 : decode cX5_countWords 58 = .ok (.aload_n 0, 1) := by decide +kernel
theorem dX5_countWords_59 : decode cX5_countWords 59 = .ok (.getfield 43, 3) := by decide +kernel
theorem dX5_countWords_62 : decode cX5_countWords 62 = .ok (.aload_n 0, 1) := by decide +kernel
theorem dX5_countWords_63 : decode cX5_countWords 63 = .ok (.getfield 12, 3) := by decide +kernel
theorem dX5_countWords_66 : decode cX5_countWords 66 = .ok (.getfield 121, 3) := by decide +kernel
theorem dX5_countWords_69 : decode cX5_countWords 69 = .ok (.iload_n 1, 1) := by decide +kernel
theorem dX5_countWords_70 : decode cX5_countWords 70 = .ok (.aaload, 1) := by decide +kernel
theorem dX5_countWords_71 : decode cX5_countWords 71 = .ok (.aload_n 0, 1) := by decide +kernel
theorem dX5_countWords_72 : decode cX5_countWords 72 = .ok (.getfield 59, 3) := by decide +kernel
theorem dX5_countWords_75 : decode cX5_countWords 75 = .ok (.iload_n 2, 1) := by decide +kernel
theorem dX5_countWords_76 : decode cX5_countWords 76 = .ok (.invokevirtual 200, 3) := by decide +kernel
theorem dX5_countWords_79 : decode cX5_countWords 79 = .ok (.ifCond .eq 6, 3) := by decide +kernel
theorem dX5_countWords_82 : decode cX5_countWords 82 = .ok (.iinc 4 1, 3) := by decide +kernel
theorem dX5_countWords_85 : decode cX5_countWords 85 = .ok (.aload_n 0, 1) := by decide +kernel
theorem dX5_countWords_86 : decode cX5_countWords 86 = .ok (.getfield 59, 3) := by decide +kernel
theorem dX5_countWords_89 : decode cX5_countWords 89 = .ok (.aload_n 0, 1) := by decide +kernel
theorem dX5_countWords_90 : decode cX5_countWords 90 = .ok (.getfield 12, 3) := by decide +kernel
theorem dX5_countWords_93 : decode cX5_countWords 93 = .ok (.getfield 63, 3) := by decide +kernel
theorem dX5_countWords_96 : decode cX5_countWords 96 = .ok (.invokevirtual 266, 3) := by decide +kernel
theorem dX5_countWords_99 : decode cX5_countWords 99 = .ok (.iinc 6 1, 3) := by decide +kernel
theorem dX5_countWords_102 : decode cX5_countWords 102 = .ok (.goto (-51), 3) := by decide +kernel
theorem dX5_countWords_105 : decode cX5_countWords 105 = .ok (.iload 4, 2) := by decide +kernel
theorem dX5_countWords_107 : decode cX5_countWords 107 = .ok (.ireturn, 1) := by decide +kernel
theorem dX5_difference_0 : decode cX5_difference 0 = .ok (.iload_n 1, 1) := by decide +kernel
theorem dX5_difference_1 : decode cX5_difference 1 = .ok (.invokestatic 114, 3) := by decide +kernel
theorem dX5_difference_4 : decode cX5_difference 4 = .ok (.ifCond .eq 10, 3) := by decide +kernel
theorem dX5_difference_7 : decode cX5_difference 7 = .ok (.iload_n 2, 1) := by decide +kernel
theorem dX5_difference_8 : decode cX5_difference 8 = .ok (.invokestatic 114, 3) := by decide +kernel
theorem dX5_difference_11 : decode cX5_difference 11 = .ok (.ifCond .ne 7, 3) := by decide +kernel
theorem dX5_difference_14 : decode cX5_difference 14 = .ok (.ldc2_w 245, 3) := by decide +kernel
theorem dX5_difference_17 : decode cX5_difference 17 = .ok (.lreturn, 1) := by decide +kernel
theorem dX5_difference_18 : decode cX5_difference 18 = .ok (.iload_n 3, 1) := by decide +kernel
theorem dX5_difference_19 : decode cX5_difference 19 = .ok (.invokestatic 220, 3) := by decide +kernel
theorem dX5_difference_22 : decode cX5_difference 22 = .ok (.ifCond .eq 15, 3) := by decide +kernel
theorem dX5_difference_25 : decode cX5_difference 25 = .ok (.iload 4, 2) := by decide +kernel
theorem dX5_difference_27 : decode cX5_difference 27 = .ok (.ifCond .lt 10, 3) := by decide +kernel
theorem dX5_difference_30 : decode cX5_difference 30 = .ok (.iload 4, 2) := by decide +kernel
theorem dX5_difference_32 : decode cX5_difference 32 = .ok (.bipush 6, 2) := by decide +kernel
theorem dX5_difference_34 : decode cX5_difference 34 = .ok (.if_icmp .le 7, 3) := by decide +kernel
theorem dX5_difference_37 : decode cX5_difference 37 = .ok (.ldc2_w 245, 3) := by decide +kernel
theorem dX5_difference_40 : decode cX5_difference 40 = .ok (.lreturn, 1) := by decide +kernel
theorem dX5_difference_41 : decode cX5_difference 41 = .ok (.iconst 0, 1) := by decide +kernel
theorem dX5_difference_42 : decode cX5_difference 42 = .ok (.istore 5, 2) := by decide +kernel
theorem dX5_difference_44 : decode cX5_difference 44 = .ok (.iload 5, 2) := by decide +kernel
theorem dX5_difference_46 : decode cX5_difference 46 = .ok (.iload 4, 2) := by decide +kernel
theorem dX5_difference_48 : decode cX5_difference 48 = .ok (.if_icmp .gt 45, 3) := by decide +kernel
theorem dX5_difference_51 : decode cX5_difference 51 = .ok (.aload_n 0, 1) := by decide +kernel
theorem dX5_difference_52 : decode cX5_difference 52 = .ok (.aload_n 0, 1) := by decide +kernel
theorem dX5_difference_53 : decode cX5_difference 53 = .ok (.getfield 12, 3) := by decide +kernel
theorem dX5_difference_56 : decode cX5_difference 56 = .ok (.getfield 121, 3) := by decide +kernel
theorem dX5_difference_59 : decode cX5_difference 59 = .ok (.iload_n 1, 1) := by decide +kernel
theorem dX5_difference_60 : decode cX5_difference 60 = .ok (.aaload, 1) := by decide +kernel
theorem dX5_difference_61 : decode cX5_difference 61 = .ok (.aload_n 0, 1) := by decide +kernel
theorem dX5_difference_62 : decode cX5_difference 62 = .ok (.getfield 12, 3) := by decide +kernel
theorem dX5_difference_65 : decode cX5_difference 65 = .ok (.getfield 121, 3) := by decide +kernel
theorem dX5_difference_68 : decode cX5_difference 68 = .ok (.iload_n 2, 1) := by decide +kernel
theorem dX5_difference_69 : decode cX5_difference 69 = .ok (.aaload, 1) := by decide +kernel
theorem dX5_difference_70 : decode cX5_difference 70 = .ok (.iload_n 3, 1) := by decide +kernel
theorem dX5_difference_71 : decode cX5_difference 71 = .ok (.iload 5, 2) := by decide +kernel
theorem dX5_difference_73 : decode cX5_difference 73 = .ok (.invokevirtual 269, 3) := by decide +kernel
theorem dX5_difference_76 : decode cX5_difference 76 = .ok (.ifCond .eq 11, 3) := by decide +kernel
theorem dX5_difference_79 : decode cX5_difference 79 = .ok (.aload_n 0, 1) := by decide +kernel
theorem dX5_difference_80 : decode cX5_difference 80 = .ok (.getfield 59, 3) := by decide +kernel
theorem dX5_difference_83 : decode cX5_difference 83 = .ok (.invokevirtual 241, 3) := by decide +kernel
theorem dX5_difference_86 : decode cX5_difference 86 = .ok (.lreturn, 1) := by decide +kernel
theorem dX5_difference_87 : decode cX5_difference 87 = .ok (.iinc 5 1, 3) := by decide +kernel
theorem dX5_difference_90 : decode cX5_difference 90 = .ok (.goto (-46), 3) := by decide +kernel
theorem dX5_difference_93 : decode cX5_difference 93 = .ok (.ldc2_w 245, 3) := by decide +kernel
theorem dX5_difference_96 : decode cX5_difference 96 = .ok (.lreturn, 1) := by decide +kernel
theorem dX5_findDifference_0 : decode cX5_findDifference 0 = .ok (.aload_n 0, 1) := by decide +kernel
theorem dX5_findDifference_1 : decode cX5_findDifference 1 = .ok (.iload 4, 2) := by decide +kernel
theorem dX5_findDifference_3 : decode cX5_findDifference 3 = .ok (.invokevirtual 260, 3) := by decide +kernel
theorem dX5_findDifference_6 : decode cX5_findDifference 6 = .ok (.istore 5, 2) := by decide +kernel
theorem dX5_findDifference_8 : decode cX5_findDifference 8 = .ok (.aload_n 0, 1) := by decide +kernel
theorem dX5_findDifference_9 : decode cX5_findDifference 9 = .ok (.getfield 59, 3) := by decide +kernel
theorem dX5_findDifference_12 : decode cX5_findDifference 12 = .ok (.iconst 0, 1) := by decide +kernel
theorem dX5_findDifference_13 : decode cX5_findDifference 13 = .ok (.iload 4, 2) := by decide +kernel
theorem dX5_findDifference_15 : decode cX5_findDifference 15 = .ok (.invokevirtual 263, 3) := by decide +kernel
theorem dX5_findDifference_18 : decode cX5_findDifference 18 = .ok (.iconst 0, 1) := by decide +kernel
theorem dX5_findDifference_19 : decode cX5_findDifference 19 = .ok (.istore 6, 2) := by decide +kernel
theorem dX5_findDifference_21 : decode cX5_findDifference 21 = .ok (.iload 6, 2) := by decide +kernel
theorem dX5_findDifference_23 : decode cX5_findDifference 23 = .ok (.iload 5, 2) := by decide +kernel
theorem dX5_findDifference_25 : decode cX5_findDifference 25 = .ok (.if_icmp .ge 57, 3) := by decide +kernel
theorem dX5_findDifference_28 : decode cX5_findDifference 28 = .ok (.aload_n 0, 1) := by decide +kernel
theorem dX5_findDifference_29 : decode cX5_findDifference 29 = .ok (.getfield 43, 3) := by decide +kernel
theorem dX5_findDifference_32 : decode cX5_findDifference 32 = .ok (.aload_n 1, 1) := by decide +kernel
theorem dX5_findDifference_33 : decode cX5_findDifference 33 = .ok (.aload_n 0, 1) := by decide +kernel
theorem dX5_findDifference_34 : decode cX5_findDifference 34 = .ok (.getfield 59, 3) := by decide +kernel
theorem dX5_findDifference_37 : decode cX5_findDifference 37 = .ok (.iload_n 3, 1) := by decide +kernel
theorem dX5_findDifference_38 : decode cX5_findDifference 38 = .ok (.invokevirtual 200, 3) := by decide +kernel
theorem dX5_findDifference_41 : decode cX5_findDifference 41 = .ok (.ifCond .eq 21, 3) := by decide +kernel
theorem dX5_findDifference_44 : decode cX5_findDifference 44 = .ok (.aload_n 0, 1) := by decide +kernel
theorem dX5_findDifference_45 : decode cX5_findDifference 45 = .ok (.getfield 43, 3) := by decide +kernel
theorem dX5_findDifference_48 : decode cX5_findDifference 48 = .ok (.aload_n 2, 1) := by decide +kernel
theorem dX5_findDifference_49 : decode cX5_findDifference 49 = .ok (.aload_n 0, 1) := by decide +kernel
theorem dX5_findDifference_50 : decode cX5_findDifference 50 = .ok (.getfield 59, 3) := by decide +kernel
theorem dX5_findDifference_53 : decode cX5_findDifference 53 = .ok (.iload_n 3, 1) := by decide +kernel
theorem dX5_findDifference_54 : decode cX5_findDifference 54 = .ok (.invokevirtual 200, 3) := by decide +kernel
theorem dX5_findDifference_57 : decode cX5_findDifference 57 = .ok (.ifCond .ne 5, 3) := by decide +kernel
theorem dX5_findDifference_60 : decode cX5_findDifference 60 = .ok (.iconst 1, 1) := by decide +kernel
theorem dX5_findDifference_61 : decode cX5_findDifference 61 = .ok (.ireturn, 1) := by decide +kernel
theorem dX5_findDifference_62 : decode cX5_findDifference 62 = .ok (.aload_n 0, 1) := by decide +kernel
theorem dX5_findDifference_63 : decode cX5_findDifference 63 = .ok (.getfield 59, 3) := by decide +kernel
theorem dX5_findDifference_66 : decode cX5_findDifference 66 = .ok (.aload_n 0, 1) := by decide +kernel
theorem dX5_findDifference_67 : decode cX5_findDifference 67 = .ok (.getfield 12, 3) := by decide +kernel
theorem dX5_findDifference_70 : decode cX5_findDifference 70 = .ok (.getfield 63, 3) := by decide +kernel
theorem dX5_findDifference_73 : decode cX5_findDifference 73 = .ok (.invokevirtual 266, 3) := by decide +kernel
theorem dX5_findDifference_76 : decode cX5_findDifference 76 = .ok (.iinc 6 1, 3) := by decide +kernel
theorem dX5_findDifference_79 : decode cX5_findDifference 79 = .ok (.goto (-58), 3) := by decide +kernel
theorem dX5_findDifference_82 : decode cX5_findDifference 82 = .ok (.iconst 0, 1) := by decide +kernel
theorem dX5_findDifference_83 : decode cX5_findDifference 83 = .ok (.ireturn, 1) := by decide +kernel
theorem dX5_wordsOfLength_0 : decode cX5_wordsOfLength 0 = .ok (.iconst 1, 1) := by decide +kernel
theorem dX5_wordsOfLength_1 : decode cX5_wordsOfLength 1 = .ok (.istore_n 2, 1) := by decide +kernel
theorem dX5_wordsOfLength_2 : decode cX5_wordsOfLength 2 = .ok (.iconst 0, 1) := by decide +kernel
theorem dX5_wordsOfLength_3 : decode cX5_wordsOfLength 3 = .ok (.istore_n 3, 1) := by decide +kernel
theorem dX5_wordsOfLength_4 : decode cX5_wordsOfLength 4 = .ok (.iload_n 3, 1) := by decide +kernel
theorem dX5_wordsOfLength_5 : decode cX5_wordsOfLength 5 = .ok (.iload_n 1, 1) := by decide +kernel
theorem dX5_wordsOfLength_6 : decode cX5_wordsOfLength 6 = .ok (.if_icmp .ge 19, 3) := by decide +kernel
theorem dX5_wordsOfLength_9 : decode cX5_wordsOfLength 9 = .ok (.iload_n 2, 1) := by decide +kernel
theorem dX5_wordsOfLength_10 : decode cX5_wordsOfLength 10 = .ok (.aload_n 0, 1) := by decide +kernel
theorem dX5_wordsOfLength_11 : decode cX5_wordsOfLength 11 = .ok (.getfield 12, 3) := by decide +kernel
theorem dX5_wordsOfLength_14 : decode cX5_wordsOfLength 14 = .ok (.getfield 63, 3) := by decide +kernel
theorem dX5_wordsOfLength_17 : decode cX5_wordsOfLength 17 = .ok (.imul, 1) := by decide +kernel
theorem dX5_wordsOfLength_18 : decode cX5_wordsOfLength 18 = .ok (.istore_n 2, 1) := by decide +kernel
theorem dX5_wordsOfLength_19 : decode cX5_wordsOfLength 19 = .ok (.iinc 3 1, 3) := by decide +kernel
theorem dX5_wordsOfLength_22 : decode cX5_wordsOfLength 22 = .ok (.goto (-18), 3) := by decide +kernel
theorem dX5_wordsOfLength_25 : decode cX5_wordsOfLength 25 = .ok (.iload_n 2, 1) := by decide +kernel
theorem dX5_wordsOfLength_26 : decode cX5_wordsOfLength 26 = .ok (.ireturn, 1) := by decide +kernel
theorem dX5_allocate_0 : decode cX5_allocate 0 = .ok (.iload_n 1, 1) := by decide +kernel
theorem dX5_allocate_1 : decode cX5_allocate 1 = .ok (.invokestatic 273, 3) := by decide +kernel
theorem dX5_allocate_4 : decode cX5_allocate 4 = .ok (.ifCond .eq 18, 3) := by decide +kernel
theorem dX5_allocate_7 : decode cX5_allocate 7 = .ok (.iload_n 2, 1) := by decide +kernel
theorem dX5_allocate_8 : decode cX5_allocate 8 = .ok (.ifCond .lt 14, 3) := by decide +kernel
theorem dX5_allocate_11 : decode cX5_allocate 11 = .ok (.iload_n 2, 1) := by decide +kernel
theorem dX5_allocate_12 : decode cX5_allocate 12 = .ok (.iconst 3, 1) := by decide +kernel
theorem dX5_allocate_13 : decode cX5_allocate 13 = .ok (.if_icmp .gt 9, 3) := by decide +kernel
theorem dX5_allocate_16 : decode cX5_allocate 16 = .ok (.iload_n 3, 1) := by decide +kernel
theorem dX5_allocate_17 : decode cX5_allocate 17 = .ok (.bipush 40, 2) := by decide +kernel
theorem dX5_allocate_19 : decode cX5_allocate 19 = .ok (.if_icmp .le 5, 3) := by decide +kernel
theorem dX5_allocate_22 : decode cX5_allocate 22 = .ok (.iconst (-1), 1) := by decide +kernel
theorem dX5_allocate_23 : decode cX5_allocate 23 = .ok (.ireturn, 1) := by decide +kernel
theorem dX5_allocate_24 : decode cX5_allocate 24 = .ok (.iload_n 3, 1) := by decide +kernel
theorem dX5_allocate_25 : decode cX5_allocate 25 = .ok (.ifCond .ge 6, 3) := by decide +kernel
theorem dX5_allocate_28 : decode cX5_allocate 28 = .ok (.bipush (-14), 2) := by decide +kernel
theorem dX5_allocate_30 : decode cX5_allocate 30 = .ok (.ireturn, 1) := by decide +kernel
theorem dX5_allocate_31 : decode cX5_allocate 31 = .ok (.aload_n 0, 1) := by decide +kernel
theorem dX5_allocate_32 : decode cX5_allocate 32 = .ok (.getfield 36, 3) := by decide +kernel
theorem dX5_allocate_35 : decode cX5_allocate 35 = .ok (.iload_n 1, 1) := by decide +kernel
theorem dX5_allocate_36 : decode cX5_allocate 36 = .ok (.aaload, 1) := by decide +kernel
theorem dX5_allocate_37 : decode cX5_allocate 37 = .ok (.iload_n 2, 1) := by decide +kernel
theorem dX5_allocate_38 : decode cX5_allocate 38 = .ok (.putfield 276, 3) := by decide +kernel
theorem dX5_allocate_41 : decode cX5_allocate 41 = .ok (.aload_n 0, 1) := by decide +kernel
theorem dX5_allocate_42 : decode cX5_allocate 42 = .ok (.getfield 36, 3) := by decide +kernel
theorem dX5_allocate_45 : decode cX5_allocate 45 = .ok (.iload_n 1, 1) := by decide +kernel
theorem dX5_allocate_46 : decode cX5_allocate 46 = .ok (.aaload, 1) := by decide +kernel
theorem dX5_allocate_47 : decode cX5_allocate 47 = .ok (.getfield 279, 3) := by decide +kernel
theorem dX5_allocate_50 : decode cX5_allocate 50 = .ok (.iconst 0, 1) := by decide +kernel
theorem dX5_allocate_51 : decode cX5_allocate 51 = .ok (.iload_n 3, 1) := by decide +kernel
theorem dX5_allocate_52 : decode cX5_allocate 52 = .ok (.invokevirtual 263, 3) := by decide +kernel
theorem dX5_allocate_55 : decode cX5_allocate 55 = .ok (.iload_n 3, 1) := by decide +kernel
theorem dX5_allocate_56 : decode cX5_allocate 56 = .ok (.ireturn, 1) := by decide +kernel
theorem dX5_release_0 : decode cX5_release 0 = .ok (.iload_n 1, 1) := by decide +kernel
theorem dX5_release_1 : decode cX5_release 1 = .ok (.invokestatic 273, 3) := by decide +kernel
theorem dX5_release_4 : decode cX5_release 4 = .ok (.ifCond .ne 5, 3) := by decide +kernel
theorem dX5_release_7 : decode cX5_release 7 = .ok (.iconst (-1), 1) := by decide +kernel
theorem dX5_release_8 : decode cX5_release 8 = .ok (.ireturn, 1) := by decide +kernel
theorem dX5_release_9 : decode cX5_release 9 = .ok (.aload_n 0, 1) := by decide +kernel
theorem dX5_release_10 : decode cX5_release 10 = .ok (.getfield 36, 3) := by decide +kernel
theorem dX5_release_13 : decode cX5_release 13 = .ok (.iload_n 1, 1) := by decide +kernel
theorem dX5_release_14 : decode cX5_release 14 = .ok (.aaload, 1) := by decide +kernel
theorem dX5_release_15 : decode cX5_release 15 = .ok (.getfield 276, 3) := by decide +kernel
theorem dX5_release_18 : decode cX5_release 18 = .ok (.iconst (-1), 1) := by decide +kernel
theorem dX5_release_19 : decode cX5_release 19 = .ok (.if_icmp .eq 7, 3) := by decide +kernel
theorem dX5_release_22 : decode cX5_release 22 = .ok (.iconst 1, 1) := by decide +kernel
theorem dX5_release_23 : decode cX5_release 23 = .ok (.goto 4, 3) := by decide +kernel
theorem dX5_release_26 : decode cX5_release 26 = .ok (.iconst 0, 1) := by decide +kernel
theorem dX5_release_27 : decode cX5_release 27 = .ok (.istore_n 2, 1) := by decide +kernel
theorem dX5_release_28 : decode cX5_release 28 = .ok (.aload_n 0, 1) := by decide +kernel
theorem dX5_release_29 : decode cX5_release 29 = .ok (.getfield 36, 3) := by decide +kernel
theorem dX5_release_32 : decode cX5_release 32 = .ok (.iload_n 1, 1) := by decide +kernel
theorem dX5_release_33 : decode cX5_release 33 = .ok (.aaload, 1) := by decide +kernel
theorem dX5_release_34 : decode cX5_release 34 = .ok (.iconst (-1), 1) := by decide +kernel
theorem dX5_release_35 : decode cX5_release 35 = .ok (.putfield 276, 3) := by decide +kernel
theorem dX5_release_38 : decode cX5_release 38 = .ok (.iload_n 2, 1) := by decide +kernel
theorem dX5_release_39 : decode cX5_release 39 = .ok (.ifCond .eq 7, 3) := by decide +kernel
theorem dX5_release_42 : decode cX5_release 42 = .ok (.iconst 1, 1) := by decide +kernel
theorem dX5_release_43 : decode cX5_release 43 = .ok (.goto 4, 3) := by decide +kernel
theorem dX5_release_46 : decode cX5_release 46 = .ok (.iconst 0, 1) := by decide +kernel
theorem dX5_release_47 : decode cX5_release 47 = .ok (.ireturn, 1) := by decide +kernel
theorem dX5_putElement_0 : decode cX5_putElement 0 = .ok (.iload_n 1, 1) := by decide +kernel
theorem dX5_putElement_1 : decode cX5_putElement 1 = .ok (.invokestatic 273, 3) := by decide +kernel
theorem dX5_putElement_4 : decode cX5_putElement 4 = .ok (.ifCond .ne 5, 3) := by decide +kernel
theorem dX5_putElement_7 : decode cX5_putElement 7 = .ok (.iconst (-1), 1) := by decide +kernel
theorem dX5_putElement_8 : decode cX5_putElement 8 = .ok (.ireturn, 1) := by decide +kernel
theorem dX5_putElement_9 : decode cX5_putElement 9 = .ok (.aload_n 0, 1) := by decide +kernel
theorem dX5_putElement_10 : decode cX5_putElement 10 = .ok (.getfield 36, 3) := by decide +kernel
theorem dX5_putElement_13 : decode cX5_putElement 13 = .ok (.iload_n 1, 1) := by decide +kernel
theorem dX5_putElement_14 : decode cX5_putElement 14 = .ok (.aaload, 1) := by decide +kernel
theorem dX5_putElement_15 : decode cX5_putElement 15 = .ok (.astore 5, 2) := by decide +kernel
theorem dX5_putElement_17 : decode cX5_putElement 17 = .ok (.aload 5, 2) := by decide +kernel
theorem dX5_putElement_19 : decode cX5_putElement 19 = .ok (.getfield 276, 3) := by decide +kernel
theorem dX5_putElement_22 : decode cX5_putElement 22 = .ok (.iconst (-1), 1) := by decide +kernel
theorem dX5_putElement_23 : decode cX5_putElement 23 = .ok (.if_icmp .ne 6, 3) := by decide +kernel
theorem dX5_putElement_26 : decode cX5_putElement 26 = .ok (.bipush (-11), 2) := by decide +kernel
theorem dX5_putElement_28 : decode cX5_putElement 28 = .ok (.ireturn, 1) := by decide +kernel
theorem dX5_putElement_29 : decode cX5_putElement 29 = .ok (.aload 5, 2) := by decide +kernel
theorem dX5_putElement_31 : decode cX5_putElement 31 = .ok (.getfield 279, 3) := by decide +kernel
theorem dX5_putElement_34 : decode cX5_putElement 34 = .ok (.iload_n 2, 1) := by decide +kernel
theorem dX5_putElement_35 : decode cX5_putElement 35 = .ok (.invokevirtual 282, 3) := by decide +kernel
theorem dX5_putElement_38 : decode cX5_putElement 38 = .ok (.ifCond .ne 6, 3) := by decide +kernel
theorem dX5_putElement_41 : decode cX5_putElement 41 = .ok (.bipush (-13), 2) := by decide +kernel
theorem dX5_putElement_43 : decode cX5_putElement 43 = .ok (.ireturn, 1) := by decide +kernel
theorem dX5_putElement_44 : decode cX5_putElement 44 = .ok (.aload 5, 2) := by decide +kernel
theorem dX5_putElement_46 : decode cX5_putElement 46 = .ok (.getfield 279, 3) := by decide +kernel
theorem dX5_putElement_49 : decode cX5_putElement 49 = .ok (.iload_n 2, 1) := by decide +kernel
theorem dX5_putElement_50 : decode cX5_putElement 50 = .ok (.lload_n 3, 1) := by decide +kernel
theorem dX5_putElement_51 : decode cX5_putElement 51 = .ok (.aload 5, 2) := by decide +kernel
theorem dX5_putElement_53 : decode cX5_putElement 53 = .ok (.getfield 276, 3) := by decide +kernel
theorem dX5_putElement_56 : decode cX5_putElement 56 = .ok (.invokestatic 285, 3) := by decide +kernel
theorem dX5_putElement_59 : decode cX5_putElement 59 = .ok (.invokevirtual 289, 3) := by decide +kernel
theorem dX5_putElement_62 : decode cX5_putElement 62 = .ok (.iconst 1, 1) := by decide +kernel
theorem dX5_putElement_63 : decode cX5_putElement 63 = .ok (.ireturn, 1) := by decide +kernel
theorem dX5_narrowed_0 : decode cX5_narrowed 0 = .ok (.iload_n 2, 1) := by decide +kernel
theorem dX5_narrowed_1 : decode cX5_narrowed 1 = .ok (.tableswitch 38 0 2 #[27, 31, 35], 27) := by decide +kernel
theorem dX5_narrowed_28 : decode cX5_narrowed 28 = .ok (.lload_n 0, 1) := by decide +kernel
theorem dX5_narrowed_29 : decode cX5_narrowed 29 = .ok (.l2i, 1) := by decide +kernel
theorem dX5_narrowed_30 : decode cX5_narrowed 30 = .ok (.i2b, 1) := by decide +kernel
theorem dX5_narrowed_31 : decode cX5_narrowed 31 = .ok (.ireturn, 1) := by decide +kernel
theorem dX5_narrowed_32 : decode cX5_narrowed 32 = .ok (.lload_n 0, 1) := by decide +kernel
theorem dX5_narrowed_33 : decode cX5_narrowed 33 = .ok (.l2i, 1) := by decide +kernel
theorem dX5_narrowed_34 : decode cX5_narrowed 34 = .ok (.i2c, 1) := by decide +kernel
theorem dX5_narrowed_35 : decode cX5_narrowed 35 = .ok (.ireturn, 1) := by decide +kernel
theorem dX5_narrowed_36 : decode cX5_narrowed 36 = .ok (.lload_n 0, 1) := by decide +kernel
theorem dX5_narrowed_37 : decode cX5_narrowed 37 = .ok (.l2i, 1) := by decide +kernel
theorem dX5_narrowed_38 : decode cX5_narrowed 38 = .ok (.ireturn, 1) := by decide +kernel
theorem dX5_narrowed_39 : decode cX5_narrowed 39 = .ok (.lload_n 0, 1) := by decide +kernel
theorem dX5_narrowed_40 : decode cX5_narrowed 40 = .ok (.lconst 0, 1) := by decide +kernel
theorem dX5_narrowed_41 : decode cX5_narrowed 41 = .ok (.lcmp, 1) := by decide +kernel
theorem dX5_narrowed_42 : decode cX5_narrowed 42 = .ok (.ifCond .eq 7, 3) := by decide +kernel
theorem dX5_narrowed_45 : decode cX5_narrowed 45 = .ok (.iconst 1, 1) := by decide +kernel
theorem dX5_narrowed_46 : decode cX5_narrowed 46 = .ok (.goto 4, 3) := by decide +kernel
theorem dX5_narrowed_49 : decode cX5_narrowed 49 = .ok (.iconst 0, 1) := by decide +kernel
theorem dX5_narrowed_50 : decode cX5_narrowed 50 = .ok (.ireturn, 1) := by decide +kernel
theorem dX5_element_0 : decode cX5_element 0 = .ok (.iload_n 1, 1) := by decide +kernel
theorem dX5_element_1 : decode cX5_element 1 = .ok (.invokestatic 273, 3) := by decide +kernel
theorem dX5_element_4 : decode cX5_element 4 = .ok (.ifCond .eq 16, 3) := by decide +kernel
theorem dX5_element_7 : decode cX5_element 7 = .ok (.aload_n 0, 1) := by decide +kernel
theorem dX5_element_8 : decode cX5_element 8 = .ok (.getfield 36, 3) := by decide +kernel
theorem dX5_element_11 : decode cX5_element 11 = .ok (.iload_n 1, 1) := by decide +kernel
theorem dX5_element_12 : decode cX5_element 12 = .ok (.aaload, 1) := by decide +kernel
theorem dX5_element_13 : decode cX5_element 13 = .ok (.getfield 276, 3) := by decide +kernel
theorem dX5_element_16 : decode cX5_element 16 = .ok (.iconst (-1), 1) := by decide +kernel
theorem dX5_element_17 : decode cX5_element 17 = .ok (.if_icmp .ne 7, 3) := by decide +kernel
theorem dX5_element_20 : decode cX5_element 20 = .ok (.ldc2_w 245, 3) := by decide +kernel
theorem dX5_element_23 : decode cX5_element 23 = .ok (.lreturn, 1) := by decide +kernel
theorem dX5_element_24 : decode cX5_element 24 = .ok (.aload_n 0, 1) := by decide +kernel
theorem dX5_element_25 : decode cX5_element 25 = .ok (.getfield 36, 3) := by decide +kernel
theorem dX5_element_28 : decode cX5_element 28 = .ok (.iload_n 1, 1) := by decide +kernel
theorem dX5_element_29 : decode cX5_element 29 = .ok (.aaload, 1) := by decide +kernel
theorem dX5_element_30 : decode cX5_element 30 = .ok (.getfield 279, 3) := by decide +kernel
theorem dX5_element_33 : decode cX5_element 33 = .ok (.astore_n 3, 1) := by decide +kernel
theorem dX5_element_34 : decode cX5_element 34 = .ok (.aload_n 3, 1) := by decide +kernel
theorem dX5_element_35 : decode cX5_element 35 = .ok (.iload_n 2, 1) := by decide +kernel
theorem dX5_element_36 : decode cX5_element 36 = .ok (.invokevirtual 282, 3) := by decide +kernel
theorem dX5_element_39 : decode cX5_element 39 = .ok (.ifCond .eq 12, 3) := by decide +kernel
theorem dX5_element_42 : decode cX5_element 42 = .ok (.aload_n 3, 1) := by decide +kernel
theorem dX5_element_43 : decode cX5_element 43 = .ok (.iload_n 2, 1) := by decide +kernel
theorem dX5_element_44 : decode cX5_element 44 = .ok (.invokevirtual 94, 3) := by decide +kernel
theorem dX5_element_47 : decode cX5_element 47 = .ok (.i2l, 1) := by decide +kernel
theorem dX5_element_48 : decode cX5_element 48 = .ok (.goto 6, 3) := by decide +kernel
theorem dX5_element_51 : decode cX5_element 51 = .ok (.ldc2_w 245, 3) := by decide +kernel
theorem dX5_element_54 : decode cX5_element 54 = .ok (.lreturn, 1) := by decide +kernel
theorem dX5_copyElements_0 : decode cX5_copyElements 0 = .ok (.iload_n 1, 1) := by decide +kernel
theorem dX5_copyElements_1 : decode cX5_copyElements 1 = .ok (.invokestatic 273, 3) := by decide +kernel
theorem dX5_copyElements_4 : decode cX5_copyElements 4 = .ok (.ifCond .eq 10, 3) := by decide +kernel
theorem dX5_copyElements_7 : decode cX5_copyElements 7 = .ok (.iload_n 3, 1) := by decide +kernel
theorem dX5_copyElements_8 : decode cX5_copyElements 8 = .ok (.invokestatic 273, 3) := by decide +kernel
theorem dX5_copyElements_11 : decode cX5_copyElements 11 = .ok (.ifCond .ne 5, 3) := by decide +kernel
theorem dX5_copyElements_14 : decode cX5_copyElements 14 = .ok (.iconst (-1), 1) := by decide +kernel
theorem dX5_copyElements_15 : decode cX5_copyElements 15 = .ok (.ireturn, 1) := by decide +kernel
theorem dX5_copyElements_16 : decode cX5_copyElements 16 = .ok (.aload_n 0, 1) := by decide +kernel
theorem dX5_copyElements_17 : decode cX5_copyElements 17 = .ok (.getfield 36, 3) := by decide +kernel
theorem dX5_copyElements_20 : decode cX5_copyElements 20 = .ok (.iload_n 1, 1) := by decide +kernel
theorem dX5_copyElements_21 : decode cX5_copyElements 21 = .ok (.aaload, 1) := by decide +kernel
theorem dX5_copyElements_22 : decode cX5_copyElements 22 = .ok (.astore 6, 2) := by decide +kernel
theorem dX5_copyElements_24 : decode cX5_copyElements 24 = .ok (.aload_n 0, 1) := by decide +kernel
theorem dX5_copyElements_25 : decode cX5_copyElements 25 = .ok (.getfield 36, 3) := by decide +kernel
theorem dX5_copyElements_28 : decode cX5_copyElements 28 = .ok (.iload_n 3, 1) := by decide +kernel
theorem dX5_copyElements_29 : decode cX5_copyElements 29 = .ok (.aaload, 1) := by decide +kernel
theorem dX5_copyElements_30 : decode cX5_copyElements 30 = .ok (.astore 7, 2) := by decide +kernel
theorem dX5_copyElements_32 : decode cX5_copyElements 32 = .ok (.aload 6, 2) := by decide +kernel
theorem dX5_copyElements_34 : decode cX5_copyElements 34 = .ok (.getfield 276, 3) := by decide +kernel
theorem dX5_copyElements_37 : decode cX5_copyElements 37 = .ok (.iconst (-1), 1) := by decide +kernel
theorem dX5_copyElements_38 : decode cX5_copyElements 38 = .ok (.if_icmp .eq 12, 3) := by decide +kernel
theorem dX5_copyElements_41 : decode cX5_copyElements 41 = .ok (.aload 7, 2) := by decide +kernel
theorem dX5_copyElements_43 : decode cX5_copyElements 43 = .ok (.getfield 276, 3) := by decide +kernel
theorem dX5_copyElements_46 : decode cX5_copyElements 46 = .ok (.iconst (-1), 1) := by decide +kernel
theorem dX5_copyElements_47 : decode cX5_copyElements 47 = .ok (.if_icmp .ne 6, 3) := by decide +kernel
theorem dX5_copyElements_50 : decode cX5_copyElements 50 = .ok (.bipush (-11), 2) := by decide +kernel
theorem dX5_copyElements_52 : decode cX5_copyElements 52 = .ok (.ireturn, 1) := by decide +kernel
theorem dX5_copyElements_53 : decode cX5_copyElements 53 = .ok (.aload 6, 2) := by decide +kernel
theorem dX5_copyElements_55 : decode cX5_copyElements 55 = .ok (.getfield 276, 3) := by decide +kernel
theorem dX5_copyElements_58 : decode cX5_copyElements 58 = .ok (.aload 7, 2) := by decide +kernel
theorem dX5_copyElements_60 : decode cX5_copyElements 60 = .ok (.getfield 276, 3) := by decide +kernel
theorem dX5_copyElements_63 : decode cX5_copyElements 63 = .ok (.if_icmp .eq 6, 3) := by decide +kernel
theorem dX5_copyElements_66 : decode cX5_copyElements 66 = .ok (.bipush (-12), 2) := by decide +kernel
theorem dX5_copyElements_68 : decode cX5_copyElements 68 = .ok (.ireturn, 1) := by decide +kernel
theorem dX5_copyElements_69 : decode cX5_copyElements 69 = .ok (.aload 6, 2) := by decide +kernel
theorem dX5_copyElements_71 : decode cX5_copyElements 71 = .ok (.getfield 279, 3) := by decide +kernel
theorem dX5_copyElements_74 : decode cX5_copyElements 74 = .ok (.iload_n 2, 1) := by decide +kernel
theorem dX5_copyElements_75 : decode cX5_copyElements 75 = .ok (.iload 5, 2) := by decide +kernel
theorem dX5_copyElements_77 : decode cX5_copyElements 77 = .ok (.invokevirtual 292, 3) := by decide +kernel
theorem dX5_copyElements_80 : decode cX5_copyElements 80 = .ok (.ifCond .eq 18, 3) := by decide +kernel
theorem dX5_copyElements_83 : decode cX5_copyElements 83 = .ok (.aload 7, 2) := by decide +kernel
theorem dX5_copyElements_85 : decode cX5_copyElements 85 = .ok (.getfield 279, 3) := by decide +kernel
theorem dX5_copyElements_88 : decode cX5_copyElements 88 = .ok (.iload 4, 2) := by decide +kernel
theorem dX5_copyElements_90 : decode cX5_copyElements 90 = .ok (.iload 5, 2) := by decide +kernel
theorem dX5_copyElements_92 : decode cX5_copyElements 92 = .ok (.invokevirtual 292, 3) := by decide +kernel
theorem dX5_copyElements_95 : decode cX5_copyElements 95 = .ok (.ifCond .ne 6, 3) := by decide +kernel
theorem dX5_copyElements_98 : decode cX5_copyElements 98 = .ok (.bipush (-13), 2) := by decide +kernel
theorem dX5_copyElements_100 : decode cX5_copyElements 100 = .ok (.ireturn, 1) := by decide +kernel
theorem dX5_copyElements_101 : decode cX5_copyElements 101 = .ok (.aload 6, 2) := by decide +kernel
theorem dX5_copyElements_103 : decode cX5_copyElements 103 = .ok (.getfield 279, 3) := by decide +kernel
theorem dX5_copyElements_106 : decode cX5_copyElements 106 = .ok (.getfield 295, 3) := by decide +kernel
theorem dX5_copyElements_109 : decode cX5_copyElements 109 = .ok (.iload_n 2, 1) := by decide +kernel
theorem dX5_copyElements_110 : decode cX5_copyElements 110 = .ok (.aload 7, 2) := by decide +kernel
theorem dX5_copyElements_112 : decode cX5_copyElements 112 = .ok (.getfield 279, 3) := by decide +kernel
theorem dX5_copyElements_115 : decode cX5_copyElements 115 = .ok (.getfield 295, 3) := by decide +kernel
theorem dX5_copyElements_118 : decode cX5_copyElements 118 = .ok (.iload 4, 2) := by decide +kernel
theorem dX5_copyElements_120 : decode cX5_copyElements 120 = .ok (.iload 5, 2) := by decide +kernel
theorem dX5_copyElements_122 : decode cX5_copyElements 122 = .ok (.invokestatic 299, 3) := by decide +kernel
theorem dX5_copyElements_125 : decode cX5_copyElements 125 = .ok (.iload 5, 2) := by decide +kernel
theorem dX5_copyElements_127 : decode cX5_copyElements 127 = .ok (.ireturn, 1) := by decide +kernel
theorem dX5_loadPattern_0 : decode cX5_loadPattern 0 = .ok (.iload_n 1, 1) := by decide +kernel
theorem dX5_loadPattern_1 : decode cX5_loadPattern 1 = .ok (.invokestatic 114, 3) := by decide +kernel
theorem dX5_loadPattern_4 : decode cX5_loadPattern 4 = .ok (.ifCond .ne 6, 3) := by decide +kernel
theorem dX5_loadPattern_7 : decode cX5_loadPattern 7 = .ok (.bipush (-2), 2) := by decide +kernel
theorem dX5_loadPattern_9 : decode cX5_loadPattern 9 = .ok (.ireturn, 1) := by decide +kernel
theorem dX5_loadPattern_10 : decode cX5_loadPattern 10 = .ok (.iload_n 2, 1) := by decide +kernel
theorem dX5_loadPattern_11 : decode cX5_loadPattern 11 = .ok (.invokestatic 273, 3) := by decide +kernel
theorem dX5_loadPattern_14 : decode cX5_loadPattern 14 = .ok (.ifCond .ne 5, 3) := by decide +kernel
theorem dX5_loadPattern_17 : decode cX5_loadPattern 17 = .ok (.iconst (-1), 1) := by decide +kernel
theorem dX5_loadPattern_18 : decode cX5_loadPattern 18 = .ok (.ireturn, 1) := by decide +kernel
theorem dX5_loadPattern_19 : decode cX5_loadPattern 19 = .ok (.aload_n 0, 1) := by decide +kernel
theorem dX5_loadPattern_20 : decode cX5_loadPattern 20 = .ok (.getfield 36, 3) := by decide +kernel
theorem dX5_loadPattern_23 : decode cX5_loadPattern 23 = .ok (.iload_n 2, 1) := by decide +kernel
theorem dX5_loadPattern_24 : decode cX5_loadPattern 24 = .ok (.aaload, 1) := by decide +kernel
theorem dX5_loadPattern_25 : decode cX5_loadPattern 25 = .ok (.getfield 276, 3) := by decide +kernel
theorem dX5_loadPattern_28 : decode cX5_loadPattern 28 = .ok (.iconst (-1), 1) := by decide +kernel
theorem dX5_loadPattern_29 : decode cX5_loadPattern 29 = .ok (.if_icmp .ne 6, 3) := by decide +kernel
theorem dX5_loadPattern_32 : decode cX5_loadPattern 32 = .ok (.bipush (-11), 2) := by decide +kernel
theorem dX5_loadPattern_34 : decode cX5_loadPattern 34 = .ok (.ireturn, 1) := by decide +kernel
theorem dX5_loadPattern_35 : decode cX5_loadPattern 35 = .ok (.aload_n 0, 1) := by decide +kernel
theorem dX5_loadPattern_36 : decode cX5_loadPattern 36 = .ok (.getfield 36, 3) := by decide +kernel
theorem dX5_loadPattern_39 : decode cX5_loadPattern 39 = .ok (.iload_n 2, 1) := by decide +kernel
theorem dX5_loadPattern_40 : decode cX5_loadPattern 40 = .ok (.aaload, 1) := by decide +kernel
theorem dX5_loadPattern_41 : decode cX5_loadPattern 41 = .ok (.getfield 276, 3) := by decide +kernel
theorem dX5_loadPattern_44 : decode cX5_loadPattern 44 = .ok (.iconst 1, 1) := by decide +kernel
theorem dX5_loadPattern_45 : decode cX5_loadPattern 45 = .ok (.if_icmp .eq 6, 3) := by decide +kernel
theorem dX5_loadPattern_48 : decode cX5_loadPattern 48 = .ok (.bipush (-12), 2) := by decide +kernel
theorem dX5_loadPattern_50 : decode cX5_loadPattern 50 = .ok (.ireturn, 1) := by decide +kernel
theorem dX5_loadPattern_51 : decode cX5_loadPattern 51 = .ok (.aload_n 0, 1) := by decide +kernel
theorem dX5_loadPattern_52 : decode cX5_loadPattern 52 = .ok (.aload_n 0, 1) := by decide +kernel
theorem dX5_loadPattern_53 : decode cX5_loadPattern 53 = .ok (.getfield 36, 3) := by decide +kernel
theorem dX5_loadPattern_56 : decode cX5_loadPattern 56 = .ok (.iload_n 2, 1) := by decide +kernel
theorem dX5_loadPattern_57 : decode cX5_loadPattern 57 = .ok (.aaload, 1) := by decide +kernel
theorem dX5_loadPattern_58 : decode cX5_loadPattern 58 = .ok (.getfield 279, 3) := by decide +kernel
theorem dX5_loadPattern_61 : decode cX5_loadPattern 61 = .ok (.invokevirtual 80, 3) := by decide +kernel
theorem dX5_loadPattern_64 : decode cX5_loadPattern 64 = .ok (.ifCond .eq 15, 3) := by decide +kernel
theorem dX5_loadPattern_67 : decode cX5_loadPattern 67 = .ok (.aload_n 0, 1) := by decide +kernel
theorem dX5_loadPattern_68 : decode cX5_loadPattern 68 = .ok (.iload_n 1, 1) := by decide +kernel
theorem dX5_loadPattern_69 : decode cX5_loadPattern 69 = .ok (.aload_n 0, 1) := by decide +kernel
theorem dX5_loadPattern_70 : decode cX5_loadPattern 70 = .ok (.getfield 56, 3) := by decide +kernel
theorem dX5_loadPattern_73 : decode cX5_loadPattern 73 = .ok (.invokevirtual 117, 3) := by decide +kernel
theorem dX5_loadPattern_76 : decode cX5_loadPattern 76 = .ok (.goto 5, 3) := by decide +kernel
theorem dX5_loadPattern_79 : decode cX5_loadPattern 79 = .ok (.bipush (-5), 2) := by decide +kernel
theorem dX5_loadPattern_81 : decode cX5_loadPattern 81 = .ok (.ireturn, 1) := by decide +kernel
theorem dX5_isSlot_0 : decode cX5_isSlot 0 = .ok (.iload_n 0, 1) := by decide +kernel
theorem dX5_isSlot_1 : decode cX5_isSlot 1 = .ok (.ifCond .lt 12, 3) := by decide +kernel
theorem dX5_isSlot_4 : decode cX5_isSlot 4 = .ok (.iload_n 0, 1) := by decide +kernel
theorem dX5_isSlot_5 : decode cX5_isSlot 5 = .ok (.iconst 4, 1) := by decide +kernel
theorem dX5_isSlot_6 : decode cX5_isSlot 6 = .ok (.if_icmp .ge 7, 3) := by decide +kernel
theorem dX5_isSlot_9 : decode cX5_isSlot 9 = .ok (.iconst 1, 1) := by decide +kernel
theorem dX5_isSlot_10 : decode cX5_isSlot 10 = .ok (.goto 4, 3) := by decide +kernel
theorem dX5_isSlot_13 : decode cX5_isSlot 13 = .ok (.iconst 0, 1) := by decide +kernel
theorem dX5_isSlot_14 : decode cX5_isSlot 14 = .ok (.ireturn, 1) := by decide +kernel
theorem dX5_snapshot_0 : decode cX5_snapshot 0 = .ok (.aload_n 0, 1) := by decide +kernel
theorem dX5_snapshot_1 : decode cX5_snapshot 1 = .ok (.getfield 18, 3) := by decide +kernel
theorem dX5_snapshot_4 : decode cX5_snapshot 4 = .ok (.aload_n 0, 1) := by decide +kernel
theorem dX5_snapshot_5 : decode cX5_snapshot 5 = .ok (.getfield 12, 3) := by decide +kernel
theorem dX5_snapshot_8 : decode cX5_snapshot 8 = .ok (.invokevirtual 305, 3) := by decide +kernel
theorem dX5_snapshot_11 : decode cX5_snapshot 11 = .ok (.aload_n 0, 1) := by decide +kernel
theorem dX5_snapshot_12 : decode cX5_snapshot 12 = .ok (.iconst 1, 1) := by decide +kernel
theorem dX5_snapshot_13 : decode cX5_snapshot 13 = .ok (.putfield 21, 3) := by decide +kernel
theorem dX5_snapshot_16 : decode cX5_snapshot 16 = .ok (.aload_n 0, 1) := by decide +kernel
theorem dX5_snapshot_17 : decode cX5_snapshot 17 = .ok (.getfield 12, 3) := by decide +kernel
theorem dX5_snapshot_20 : decode cX5_snapshot 20 = .ok (.getfield 232, 3) := by decide +kernel
theorem dX5_snapshot_23 : decode cX5_snapshot 23 = .ok (.ireturn, 1) := by decide +kernel
theorem dX5_restore_0 : decode cX5_restore 0 = .ok (.aload_n 0, 1) := by decide +kernel
theorem dX5_restore_1 : decode cX5_restore 1 = .ok (.getfield 21, 3) := by decide +kernel
theorem dX5_restore_4 : decode cX5_restore 4 = .ok (.ifCond .ne 6, 3) := by decide +kernel
theorem dX5_restore_7 : decode cX5_restore 7 = .ok (.bipush (-6), 2) := by decide +kernel
theorem dX5_restore_9 : decode cX5_restore 9 = .ok (.ireturn, 1) := by decide +kernel
theorem dX5_restore_10 : decode cX5_restore 10 = .ok (.aload_n 0, 1) := by decide +kernel
theorem dX5_restore_11 : decode cX5_restore 11 = .ok (.getfield 12, 3) := by decide +kernel
theorem dX5_restore_14 : decode cX5_restore 14 = .ok (.aload_n 0, 1) := by decide +kernel
theorem dX5_restore_15 : decode cX5_restore 15 = .ok (.getfield 18, 3) := by decide +kernel
theorem dX5_restore_18 : decode cX5_restore 18 = .ok (.invokevirtual 305, 3) := by decide +kernel
theorem dX5_restore_21 : decode cX5_restore 21 = .ok (.aload_n 0, 1) := by decide +kernel
theorem dX5_restore_22 : decode cX5_restore 22 = .ok (.getfield 12, 3) := by decide +kernel
theorem dX5_restore_25 : decode cX5_restore 25 = .ok (.getfield 232, 3) := by decide +kernel
theorem dX5_restore_28 : decode cX5_restore 28 = .ok (.ireturn, 1) := by decide +kernel
end
section
theorem dX6_init_0 : decode cX6_init 0 = .ok (.aload_n 0, 1) := by decide +kernel
theorem dX6_init_1 : decode cX6_init 1 = .ok (.invokespecial 3, 3) := by decide +kernel
theorem dX6_init_4 : decode cX6_init 4 = .ok (.aload_n 0, 1) := by decide +kernel
theorem dX6_init_5 : decode cX6_init 5 = .ok (.iconst 2, 1) := by decide +kernel
theorem dX6_init_6 : decode cX6_init 6 = .ok (.putfield 9, 3) := by decide +kernel
theorem dX6_init_9 : decode cX6_init 9 = .ok (.aload_n 0, 1) := by decide +kernel
theorem dX6_init_10 : decode cX6_init 10 = .ok (.bipush 48, 2) := by decide +kernel
theorem dX6_init_12 : decode cX6_init 12 = .ok (.newarray .int, 2) := by decide +kernel
theorem dX6_init_14 : decode cX6_init 14 = .ok (.putfield 15, 3) := by decide +kernel
theorem dX6_init_17 : decode cX6_init 17 = .ok (.aload_n 0, 1) := by decide +kernel
theorem dX6_init_18 : decode cX6_init 18 = .ok (.bipush 6, 2) := by decide +kernel
theorem dX6_init_20 : decode cX6_init 20 = .ok (.newarray .int, 2) := by decide +kernel
theorem dX6_init_22 : decode cX6_init 22 = .ok (.putfield 19, 3) := by decide +kernel
theorem dX6_init_25 : decode cX6_init 25 = .ok (.aload_n 0, 1) := by decide +kernel
theorem dX6_init_26 : decode cX6_init 26 = .ok (.bipush 48, 2) := by decide +kernel
theorem dX6_init_28 : decode cX6_init 28 = .ok (.newarray .int, 2) := by decide +kernel
theorem dX6_init_30 : decode cX6_init 30 = .ok (.putfield 22, 3) := by decide +kernel
theorem dX6_init_33 : decode cX6_init 33 = .ok (.aload_n 0, 1) := by decide +kernel
theorem dX6_init_34 : decode cX6_init 34 = .ok (.bipush 6, 2) := by decide +kernel
theorem dX6_init_36 : decode cX6_init 36 = .ok (.newarray .int, 2) := by decide +kernel
theorem dX6_init_38 : decode cX6_init 38 = .ok (.putfield 25, 3) := by decide +kernel
theorem dX6_init_41 : decode cX6_init 41 = .ok (.aload_n 0, 1) := by decide +kernel
theorem dX6_init_42 : decode cX6_init 42 = .ok (.bipush 32, 2) := by decide +kernel
theorem dX6_init_44 : decode cX6_init 44 = .ok (.newarray .int, 2) := by decide +kernel
theorem dX6_init_46 : decode cX6_init 46 = .ok (.putfield 28, 3) := by decide +kernel
theorem dX6_init_49 : decode cX6_init 49 = .ok (.aload_n 0, 1) := by decide +kernel
theorem dX6_init_50 : decode cX6_init 50 = .ok (.iconst 4, 1) := by decide +kernel
theorem dX6_init_51 : decode cX6_init 51 = .ok (.newarray .int, 2) := by decide +kernel
theorem dX6_init_53 : decode cX6_init 53 = .ok (.putfield 31, 3) := by decide +kernel
theorem dX6_init_56 : decode cX6_init 56 = .ok (.aload_n 0, 1) := by decide +kernel
theorem dX6_init_57 : decode cX6_init 57 = .ok (.bipush 20, 2) := by decide +kernel
theorem dX6_init_59 : decode cX6_init 59 = .ok (.newarray .int, 2) := by decide +kernel
theorem dX6_init_61 : decode cX6_init 61 = .ok (.putfield 34, 3) := by decide +kernel
theorem dX6_init_64 : decode cX6_init 64 = .ok (.aload_n 0, 1) := by decide +kernel
theorem dX6_init_65 : decode cX6_init 65 = .ok (.bipush 8, 2) := by decide +kernel
theorem dX6_init_67 : decode cX6_init 67 = .ok (.newarray .int, 2) := by decide +kernel
theorem dX6_init_69 : decode cX6_init 69 = .ok (.putfield 37, 3) := by decide +kernel
theorem dX6_init_72 : decode cX6_init 72 = .ok (.aload_n 0, 1) := by decide +kernel
theorem dX6_init_73 : decode cX6_init 73 = .ok (.iconst 4, 1) := by decide +kernel
theorem dX6_init_74 : decode cX6_init 74 = .ok (.newarray .int, 2) := by decide +kernel
theorem dX6_init_76 : decode cX6_init 76 = .ok (.putfield 40, 3) := by decide +kernel
theorem dX6_init_79 : decode cX6_init 79 = .ok (.aload_n 0, 1) := by decide +kernel
theorem dX6_init_80 : decode cX6_init 80 = .ok (.iconst 4, 1) := by decide +kernel
theorem dX6_init_81 : decode cX6_init 81 = .ok (.newarray .int, 2) := by decide +kernel
theorem dX6_init_83 : decode cX6_init 83 = .ok (.putfield 43, 3) := by decide +kernel
theorem dX6_init_86 : decode cX6_init 86 = .ok (.aload_n 0, 1) := by decide +kernel
theorem dX6_init_87 : decode cX6_init 87 = .ok (.iconst 4, 1) := by decide +kernel
theorem dX6_init_88 : decode cX6_init 88 = .ok (.newarray .int, 2) := by decide +kernel
theorem dX6_init_90 : decode cX6_init 90 = .ok (.putfield 46, 3) := by decide +kernel
theorem dX6_init_93 : decode cX6_init 93 = .ok (.aload_n 0, 1) := by decide +kernel
theorem dX6_init_94 : decode cX6_init 94 = .ok (.iconst 4, 1) := by decide +kernel
theorem dX6_init_95 : decode cX6_init 95 = .ok (.newarray .int, 2) := by decide +kernel
theorem dX6_init_97 : decode cX6_init 97 = .ok (.putfield 49, 3) := by decide +kernel
theorem dX6_init_100 : decode cX6_init 100 = .ok (.aload_n 0, 1) := by decide +kernel
theorem dX6_init_101 : decode cX6_init 101 = .ok (.iconst 4, 1) := by decide +kernel
theorem dX6_init_102 : decode cX6_init 102 = .ok (.newarray .int, 2) := by decide +kernel
theorem dX6_init_104 : decode cX6_init 104 = .ok (.putfield 52, 3) := by decide +kernel
theorem dX6_init_107 : decode cX6_init 107 = .ok (.aload_n 0, 1) := by decide +kernel
theorem dX6_init_108 : decode cX6_init 108 = .ok (.bipush 8, 2) := by decide +kernel
theorem dX6_init_110 : decode cX6_init 110 = .ok (.newarray .int, 2) := by decide +kernel
theorem dX6_init_112 : decode cX6_init 112 = .ok (.putfield 55, 3) := by decide +kernel
theorem dX6_init_115 : decode cX6_init 115 = .ok (.aload_n 0, 1) := by decide +kernel
theorem dX6_init_116 : decode cX6_init 116 = .ok (.bipush 8, 2) := by decide +kernel
theorem dX6_init_118 : decode cX6_init 118 = .ok (.newarray .int, 2) := by decide +kernel
theorem dX6_init_120 : decode cX6_init 120 = .ok (.putfield 58, 3) := by decide +kernel
theorem dX6_init_123 : decode cX6_init 123 = .ok (.aload_n 0, 1) := by decide +kernel
theorem dX6_init_124 : decode cX6_init 124 = .ok (.bipush 8, 2) := by decide +kernel
theorem dX6_init_126 : decode cX6_init 126 = .ok (.newarray .int, 2) := by decide +kernel
theorem dX6_init_128 : decode cX6_init 128 = .ok (.putfield 61, 3) := by decide +kernel
theorem dX6_init_131 : decode cX6_init 131 = .ok (.aload_n 0, 1) := by decide +kernel
theorem dX6_init_132 : decode cX6_init 132 = .ok (.iconst 4, 1) := by decide +kernel
theorem dX6_init_133 : decode cX6_init 133 = .ok (.newarray .int, 2) := by decide +kernel
theorem dX6_init_135 : decode cX6_init 135 = .ok (.dup, 1) := by decide +kernel
theorem dX6_init_136 : decode cX6_init 136 = .ok (.iconst 0, 1) := by decide +kernel
theorem dX6_init_137 : decode cX6_init 137 = .ok (.iconst (-1), 1) := by decide +kernel
theorem dX6_init_138 : decode cX6_init 138 = .ok (.iastore, 1) := by decide +kernel
theorem dX6_init_139 : decode cX6_init 139 = .ok (.dup, 1) := by decide +kernel
theorem dX6_init_140 : decode cX6_init 140 = .ok (.iconst 1, 1) := by decide +kernel
theorem dX6_init_141 : decode cX6_init 141 = .ok (.iconst (-1), 1) := by decide +kernel
theorem dX6_init_142 : decode cX6_init 142 = .ok (.iastore, 1) := by decide +kernel
theorem dX6_init_143 : decode cX6_init 143 = .ok (.dup, 1) := by decide +kernel
theorem dX6_init_144 : decode cX6_init 144 = .ok (.iconst 2, 1) := by decide +kernel
theorem dX6_init_145 : decode cX6_init 145 = .ok (.iconst (-1), 1) := by decide +kernel
theorem dX6_init_146 : decode cX6_init 146 = .ok (.iastore, 1) := by decide +kernel
theorem dX6_init_147 : decode cX6_init 147 = .ok (.dup, 1) := by decide +kernel
theorem dX6_init_148 : decode cX6_init 148 = .ok (.iconst 3, 1) := by decide +kernel
theorem dX6_init_149 : decode cX6_init 149 = .ok (.iconst (-1), 1) := by decide +kernel
theorem dX6_init_150 : decode cX6_init 150 = .ok (.iastore, 1) := by decide +kernel
theorem dX6_init_151 : decode cX6_init 151 = .ok (.putfield 64, 3) := by decide +kernel
theorem dX6_init_154 : decode cX6_init 154 = .ok (.aload_n 0, 1) := by decide +kernel
theorem dX6_init_155 : decode cX6_init 155 = .ok (.iconst 4, 1) := by decide +kernel
theorem dX6_init_156 : decode cX6_init 156 = .ok (.newarray .int, 2) := by decide +kernel
theorem dX6_init_158 : decode cX6_init 158 = .ok (.putfield 67, 3) := by decide +kernel
theorem dX6_init_161 : decode cX6_init 161 = .ok (.aload_n 0, 1) := by decide +kernel
theorem dX6_init_162 : decode cX6_init 162 = .ok (.sipush 160, 3) := by decide +kernel
theorem dX6_init_165 : decode cX6_init 165 = .ok (.newarray .long, 2) := by decide +kernel
theorem dX6_init_167 : decode cX6_init 167 = .ok (.putfield 70, 3) := by decide +kernel
theorem dX6_init_170 : decode cX6_init 170 = .ok (.aload_n 0, 1) := by decide +kernel
theorem dX6_init_171 : decode cX6_init 171 = .ok (.bipush 40, 2) := by decide +kernel
theorem dX6_init_173 : decode cX6_init 173 = .ok (.newarray .long, 2) := by decide +kernel
theorem dX6_init_175 : decode cX6_init 175 = .ok (.putfield 74, 3) := by decide +kernel
theorem dX6_init_178 : decode cX6_init 178 = .ok (.aload_n 0, 1) := by decide +kernel
theorem dX6_init_179 : decode cX6_init 179 = .ok (.bipush 48, 2) := by decide +kernel
theorem dX6_init_181 : decode cX6_init 181 = .ok (.newarray .int, 2) := by decide +kernel
theorem dX6_init_183 : decode cX6_init 183 = .ok (.putfield 77, 3) := by decide +kernel
theorem dX6_init_186 : decode cX6_init 186 = .ok (.aload_n 0, 1) := by decide +kernel
theorem dX6_init_187 : decode cX6_init 187 = .ok (.bipush 6, 2) := by decide +kernel
theorem dX6_init_189 : decode cX6_init 189 = .ok (.newarray .int, 2) := by decide +kernel
theorem dX6_init_191 : decode cX6_init 191 = .ok (.putfield 80, 3) := by decide +kernel
theorem dX6_init_194 : decode cX6_init 194 = .ok (.aload_n 0, 1) := by decide +kernel
theorem dX6_init_195 : decode cX6_init 195 = .ok (.bipush 48, 2) := by decide +kernel
theorem dX6_init_197 : decode cX6_init 197 = .ok (.newarray .int, 2) := by decide +kernel
theorem dX6_init_199 : decode cX6_init 199 = .ok (.putfield 83, 3) := by decide +kernel
theorem dX6_init_202 : decode cX6_init 202 = .ok (.aload_n 0, 1) := by decide +kernel
theorem dX6_init_203 : decode cX6_init 203 = .ok (.bipush 6, 2) := by decide +kernel
theorem dX6_init_205 : decode cX6_init 205 = .ok (.newarray .int, 2) := by decide +kernel
theorem dX6_init_207 : decode cX6_init 207 = .ok (.putfield 86, 3) := by decide +kernel
theorem dX6_init_210 : decode cX6_init 210 = .ok (.aload_n 0, 1) := by decide +kernel
theorem dX6_init_211 : decode cX6_init 211 = .ok (.bipush 32, 2) := by decide +kernel
theorem dX6_init_213 : decode cX6_init 213 = .ok (.newarray .int, 2) := by decide +kernel
theorem dX6_init_215 : decode cX6_init 215 = .ok (.putfield 89, 3) := by decide +kernel
theorem dX6_init_218 : decode cX6_init 218 = .ok (.aload_n 0, 1) := by decide +kernel
theorem dX6_init_219 : decode cX6_init 219 = .ok (.iconst 4, 1) := by decide +kernel
theorem dX6_init_220 : decode cX6_init 220 = .ok (.newarray .int, 2) := by decide +kernel
theorem dX6_init_222 : decode cX6_init 222 = .ok (.putfield 92, 3) := by decide +kernel
theorem dX6_init_225 : decode cX6_init 225 = .ok (.aload_n 0, 1) := by decide +kernel
theorem dX6_init_226 : decode cX6_init 226 = .ok (.invokevirtual 95, 3) := by decide +kernel
theorem dX6_init_229 : decode cX6_init 229 = .ok (.return_, 1) := by decide +kernel
theorem dX6_clear_0 : decode cX6_clear 0 = .ok (.iconst 0, 1) := by decide +kernel
theorem dX6_clear_1 : decode cX6_clear 1 = .ok (.istore_n 1, 1) := by decide +kernel
theorem dX6_clear_2 : decode cX6_clear 2 = .ok (.iload_n 1, 1) := by decide +kernel
theorem dX6_clear_3 : decode cX6_clear 3 = .ok (.bipush 6, 2) := by decide +kernel
theorem dX6_clear_5 : decode cX6_clear 5 = .ok (.if_icmp .ge 27, 3) := by decide +kernel
theorem dX6_clear_8 : decode cX6_clear 8 = .ok (.aload_n 0, 1) := by decide +kernel
theorem dX6_clear_9 : decode cX6_clear 9 = .ok (.getfield 15, 3) := by decide +kernel
theorem dX6_clear_12 : decode cX6_clear 12 = .ok (.bipush 8, 2) := by decide +kernel
theorem dX6_clear_14 : decode cX6_clear 14 = .ok (.iload_n 1, 1) := by decide +kernel
theorem dX6_clear_15 : decode cX6_clear 15 = .ok (.imul, 1) := by decide +kernel
theorem dX6_clear_16 : decode cX6_clear 16 = .ok (.bipush 10, 2) := by decide +kernel
theorem dX6_clear_18 : decode cX6_clear 18 = .ok (.iastore, 1) := by decide +kernel
theorem dX6_clear_19 : decode cX6_clear 19 = .ok (.aload_n 0, 1) := by decide +kernel
theorem dX6_clear_20 : decode cX6_clear 20 = .ok (.getfield 19, 3) := by decide +kernel
theorem dX6_clear_23 : decode cX6_clear 23 = .ok (.iload_n 1, 1) := by decide +kernel
theorem dX6_clear_24 : decode cX6_clear 24 = .ok (.iconst 1, 1) := by decide +kernel
theorem dX6_clear_25 : decode cX6_clear 25 = .ok (.iastore, 1) := by decide +kernel
theorem dX6_clear_26 : decode cX6_clear 26 = .ok (.iinc 1 1, 3) := by decide +kernel
theorem dX6_clear_29 : decode cX6_clear 29 = .ok (.goto (-27), 3) := by decide +kernel
theorem dX6_clear_32 : decode cX6_clear 32 = .ok (.iconst 0, 1) := by decide +kernel
theorem dX6_clear_33 : decode cX6_clear 33 = .ok (.istore_n 1, 1) := by decide +kernel
theorem dX6_clear_34 : decode cX6_clear 34 = .ok (.iload_n 1, 1) := by decide +kernel
theorem dX6_clear_35 : decode cX6_clear 35 = .ok (.iconst 4, 1) := by decide +kernel
theorem dX6_clear_36 : decode cX6_clear 36 = .ok (.if_icmp .ge 26, 3) := by decide +kernel
theorem dX6_clear_39 : decode cX6_clear 39 = .ok (.aload_n 0, 1) := by decide +kernel
theorem dX6_clear_40 : decode cX6_clear 40 = .ok (.getfield 28, 3) := by decide +kernel
theorem dX6_clear_43 : decode cX6_clear 43 = .ok (.bipush 8, 2) := by decide +kernel
theorem dX6_clear_45 : decode cX6_clear 45 = .ok (.iload_n 1, 1) := by decide +kernel
theorem dX6_clear_46 : decode cX6_clear 46 = .ok (.imul, 1) := by decide +kernel
theorem dX6_clear_47 : decode cX6_clear 47 = .ok (.iconst 0, 1) := by decide +kernel
theorem dX6_clear_48 : decode cX6_clear 48 = .ok (.iastore, 1) := by decide +kernel
theorem dX6_clear_49 : decode cX6_clear 49 = .ok (.aload_n 0, 1) := by decide +kernel
theorem dX6_clear_50 : decode cX6_clear 50 = .ok (.getfield 31, 3) := by decide +kernel
theorem dX6_clear_53 : decode cX6_clear 53 = .ok (.iload_n 1, 1) := by decide +kernel
theorem dX6_clear_54 : decode cX6_clear 54 = .ok (.iconst 1, 1) := by decide +kernel
theorem dX6_clear_55 : decode cX6_clear 55 = .ok (.iastore, 1) := by decide +kernel
theorem dX6_clear_56 : decode cX6_clear 56 = .ok (.iinc 1 1, 3) := by decide +kernel
theorem dX6_clear_59 : decode cX6_clear 59 = .ok (.goto (-25), 3) := by decide +kernel
theorem dX6_clear_62 : decode cX6_clear 62 = .ok (.aload_n 0, 1) := by decide +kernel
theorem dX6_clear_63 : decode cX6_clear 63 = .ok (.iconst 0, 1) := by decide +kernel
theorem dX6_clear_64 : decode cX6_clear 64 = .ok (.putfield 98, 3) := by decide +kernel
theorem dX6_clear_67 : decode cX6_clear 67 = .ok (.return_, 1) := by decide +kernel
theorem dX6_in_0 : decode cX6_in 0 = .ok (.iload_n 0, 1) := by decide +kernel
theorem dX6_in_1 : decode cX6_in 1 = .ok (.iload_n 1, 1) := by decide +kernel
theorem dX6_in_2 : decode cX6_in 2 = .ok (.if_icmp .lt 12, 3) := by decide +kernel
theorem dX6_in_5 : decode cX6_in 5 = .ok (.iload_n 0, 1) := by decide +kernel
theorem dX6_in_6 : decode cX6_in 6 = .ok (.iload_n 2, 1) := by decide +kernel
theorem dX6_in_7 : decode cX6_in 7 = .ok (.if_icmp .gt 7, 3) := by decide +kernel
theorem dX6_in_10 : decode cX6_in 10 = .ok (.iconst 1, 1) := by decide +kernel
theorem dX6_in_11 : decode cX6_in 11 = .ok (.goto 4, 3) := by decide +kernel
theorem dX6_in_14 : decode cX6_in 14 = .ok (.iconst 0, 1) := by decide +kernel
theorem dX6_in_15 : decode cX6_in 15 = .ok (.ireturn, 1) := by decide +kernel
theorem dX6_isRegister_0 : decode cX6_isRegister 0 = .ok (.iload_n 0, 1) := by decide +kernel
theorem dX6_isRegister_1 : decode cX6_isRegister 1 = .ok (.iconst 0, 1) := by decide +kernel
theorem dX6_isRegister_2 : decode cX6_isRegister 2 = .ok (.iconst 5, 1) := by decide +kernel
theorem dX6_isRegister_3 : decode cX6_isRegister 3 = .ok (.invokestatic 101, 3) := by decide +kernel
theorem dX6_isRegister_6 : decode cX6_isRegister 6 = .ok (.ireturn, 1) := by decide +kernel
theorem dX6_isMode_0 : decode cX6_isMode 0 = .ok (.iload_n 0, 1) := by decide +kernel
theorem dX6_isMode_1 : decode cX6_isMode 1 = .ok (.iconst 0, 1) := by decide +kernel
theorem dX6_isMode_2 : decode cX6_isMode 2 = .ok (.iconst 1, 1) := by decide +kernel
theorem dX6_isMode_3 : decode cX6_isMode 3 = .ok (.invokestatic 101, 3) := by decide +kernel
theorem dX6_isMode_6 : decode cX6_isMode 6 = .ok (.ireturn, 1) := by decide +kernel
theorem dX6_reset_0 : decode cX6_reset 0 = .ok (.iload_n 1, 1) := by decide +kernel
theorem dX6_reset_1 : decode cX6_reset 1 = .ok (.iconst 1, 1) := by decide +kernel
theorem dX6_reset_2 : decode cX6_reset 2 = .ok (.iconst 3, 1) := by decide +kernel
theorem dX6_reset_3 : decode cX6_reset 3 = .ok (.invokestatic 101, 3) := by decide +kernel
theorem dX6_reset_6 : decode cX6_reset 6 = .ok (.ifCond .ne 5, 3) := by decide +kernel
theorem dX6_reset_9 : decode cX6_reset 9 = .ok (.iconst (-1), 1) := by decide +kernel
theorem dX6_reset_10 : decode cX6_reset 10 = .ok (.ireturn, 1) := by decide +kernel
theorem dX6_reset_11 : decode cX6_reset 11 = .ok (.aload_n 0, 1) := by decide +kernel
theorem dX6_reset_12 : decode cX6_reset 12 = .ok (.getfield 9, 3) := by decide +kernel
theorem dX6_reset_15 : decode cX6_reset 15 = .ok (.istore_n 2, 1) := by decide +kernel
theorem dX6_reset_16 : decode cX6_reset 16 = .ok (.aload_n 0, 1) := by decide +kernel
theorem dX6_reset_17 : decode cX6_reset 17 = .ok (.iload_n 1, 1) := by decide +kernel
theorem dX6_reset_18 : decode cX6_reset 18 = .ok (.putfield 9, 3) := by decide +kernel
theorem dX6_reset_21 : decode cX6_reset 21 = .ok (.aload_n 0, 1) := by decide +kernel
theorem dX6_reset_22 : decode cX6_reset 22 = .ok (.invokevirtual 95, 3) := by decide +kernel
theorem dX6_reset_25 : decode cX6_reset 25 = .ok (.iload_n 2, 1) := by decide +kernel
theorem dX6_reset_26 : decode cX6_reset 26 = .ok (.ireturn, 1) := by decide +kernel
theorem dX6_letters_0 : decode cX6_letters 0 = .ok (.aload_n 0, 1) := by decide +kernel
theorem dX6_letters_1 : decode cX6_letters 1 = .ok (.getfield 9, 3) := by decide +kernel
theorem dX6_letters_4 : decode cX6_letters 4 = .ok (.ireturn, 1) := by decide +kernel
theorem dX6_append_0 : decode cX6_append 0 = .ok (.iload_n 1, 1) := by decide +kernel
theorem dX6_append_1 : decode cX6_append 1 = .ok (.iconst 0, 1) := by decide +kernel
theorem dX6_append_2 : decode cX6_append 2 = .ok (.bipush 127, 2) := by decide +kernel
theorem dX6_append_4 : decode cX6_append 4 = .ok (.invokestatic 101, 3) := by decide +kernel
theorem dX6_append_7 : decode cX6_append 7 = .ok (.ifCond .eq 13, 3) := by decide +kernel
theorem dX6_append_10 : decode cX6_append 10 = .ok (.iload_n 2, 1) := by decide +kernel
theorem dX6_append_11 : decode cX6_append 11 = .ok (.iconst 1, 1) := by decide +kernel
theorem dX6_append_12 : decode cX6_append 12 = .ok (.bipush 20, 2) := by decide +kernel
theorem dX6_append_14 : decode cX6_append 14 = .ok (.invokestatic 101, 3) := by decide +kernel
theorem dX6_append_17 : decode cX6_append 17 = .ok (.ifCond .ne 5, 3) := by decide +kernel
theorem dX6_append_20 : decode cX6_append 20 = .ok (.iconst (-1), 1) := by decide +kernel
theorem dX6_append_21 : decode cX6_append 21 = .ok (.ireturn, 1) := by decide +kernel
theorem dX6_append_22 : decode cX6_append 22 = .ok (.aload_n 0, 1) := by decide +kernel
theorem dX6_append_23 : decode cX6_append 23 = .ok (.getfield 105, 3) := by decide +kernel
theorem dX6_append_26 : decode cX6_append 26 = .ok (.iload_n 2, 1) := by decide +kernel
theorem dX6_append_27 : decode cX6_append 27 = .ok (.iadd, 1) := by decide +kernel
theorem dX6_append_28 : decode cX6_append 28 = .ok (.bipush 20, 2) := by decide +kernel
theorem dX6_append_30 : decode cX6_append 30 = .ok (.if_icmp .le 6, 3) := by decide +kernel
theorem dX6_append_33 : decode cX6_append 33 = .ok (.bipush (-4), 2) := by decide +kernel
theorem dX6_append_35 : decode cX6_append 35 = .ok (.ireturn, 1) := by decide +kernel
theorem dX6_append_36 : decode cX6_append 36 = .ok (.iconst 0, 1) := by decide +kernel
theorem dX6_append_37 : decode cX6_append 37 = .ok (.istore_n 3, 1) := by decide +kernel
theorem dX6_append_38 : decode cX6_append 38 = .ok (.iload_n 3, 1) := by decide +kernel
theorem dX6_append_39 : decode cX6_append 39 = .ok (.iload_n 2, 1) := by decide +kernel
theorem dX6_append_40 : decode cX6_append 40 = .ok (.if_icmp .ge 29, 3) := by decide +kernel
theorem dX6_append_43 : decode cX6_append 43 = .ok (.aload_n 0, 1) := by decide +kernel
theorem dX6_append_44 : decode cX6_append 44 = .ok (.getfield 34, 3) := by decide +kernel
theorem dX6_append_47 : decode cX6_append 47 = .ok (.aload_n 0, 1) := by decide +kernel
theorem dX6_append_48 : decode cX6_append 48 = .ok (.getfield 105, 3) := by decide +kernel
theorem dX6_append_51 : decode cX6_append 51 = .ok (.iload_n 1, 1) := by decide +kernel
theorem dX6_append_52 : decode cX6_append 52 = .ok (.iastore, 1) := by decide +kernel
theorem dX6_append_53 : decode cX6_append 53 = .ok (.aload_n 0, 1) := by decide +kernel
theorem dX6_append_54 : decode cX6_append 54 = .ok (.dup, 1) := by decide +kernel
theorem dX6_append_55 : decode cX6_append 55 = .ok (.getfield 105, 3) := by decide +kernel
theorem dX6_append_58 : decode cX6_append 58 = .ok (.iconst 1, 1) := by decide +kernel
theorem dX6_append_59 : decode cX6_append 59 = .ok (.iadd, 1) := by decide +kernel
theorem dX6_append_60 : decode cX6_append 60 = .ok (.putfield 105, 3) := by decide +kernel
theorem dX6_append_63 : decode cX6_append 63 = .ok (.iinc 3 1, 3) := by decide +kernel
theorem dX6_append_66 : decode cX6_append 66 = .ok (.goto (-28), 3) := by decide +kernel
theorem dX6_append_69 : decode cX6_append 69 = .ok (.aload_n 0, 1) := by decide +kernel
theorem dX6_append_70 : decode cX6_append 70 = .ok (.getfield 105, 3) := by decide +kernel
theorem dX6_append_73 : decode cX6_append 73 = .ok (.ireturn, 1) := by decide +kernel
theorem dX6_clearInput_0 : decode cX6_clearInput 0 = .ok (.aload_n 0, 1) := by decide +kernel
theorem dX6_clearInput_1 : decode cX6_clearInput 1 = .ok (.getfield 105, 3) := by decide +kernel
theorem dX6_clearInput_4 : decode cX6_clearInput 4 = .ok (.istore_n 1, 1) := by decide +kernel
theorem dX6_clearInput_5 : decode cX6_clearInput 5 = .ok (.aload_n 0, 1) := by decide +kernel
theorem dX6_clearInput_6 : decode cX6_clearInput 6 = .ok (.iconst 0, 1) := by decide +kernel
theorem dX6_clearInput_7 : decode cX6_clearInput 7 = .ok (.putfield 105, 3) := by decide +kernel
theorem dX6_clearInput_10 : decode cX6_clearInput 10 = .ok (.iload_n 1, 1) := by decide +kernel
theorem dX6_clearInput_11 : decode cX6_clearInput 11 = .ok (.ireturn, 1) := by decide +kernel
theorem dX6_codeOf_0 : decode cX6_codeOf 0 = .ok (.iload_n 1, 1) := by decide +kernel
theorem dX6_codeOf_1 : decode cX6_codeOf 1 = .ok (.bipush 97, 2) := by decide +kernel
theorem dX6_codeOf_3 : decode cX6_codeOf 3 = .ok (.bipush 97, 2) := by decide +kernel
theorem dX6_codeOf_5 : decode cX6_codeOf 5 = .ok (.aload_n 0, 1) := by decide +kernel
theorem dX6_codeOf_6 : decode cX6_codeOf 6 = .ok (.getfield 9, 3) := by decide +kernel
theorem dX6_codeOf_9 : decode cX6_codeOf 9 = .ok (.iadd, 1) := by decide +kernel
theorem dX6_codeOf_10 : decode cX6_codeOf 10 = .ok (.iconst 1, 1) := by decide +kernel
theorem dX6_codeOf_11 : decode cX6_codeOf 11 = .ok (.isub, 1) := by decide +kernel
theorem dX6_codeOf_12 : decode cX6_codeOf 12 = .ok (.invokestatic 101, 3) := by decide +kernel
theorem dX6_codeOf_15 : decode cX6_codeOf 15 = .ok (.ifCond .eq 8, 3) := by decide +kernel
theorem dX6_codeOf_18 : decode cX6_codeOf 18 = .ok (.iload_n 1, 1) := by decide +kernel
theorem dX6_codeOf_19 : decode cX6_codeOf 19 = .ok (.bipush 97, 2) := by decide +kernel
theorem dX6_codeOf_21 : decode cX6_codeOf 21 = .ok (.isub, 1) := by decide +kernel
theorem dX6_codeOf_22 : decode cX6_codeOf 22 = .ok (.ireturn, 1) := by decide +kernel
theorem dX6_codeOf_23 : decode cX6_codeOf 23 = .ok (.iload_n 1, 1) := by decide +kernel
theorem dX6_codeOf_24 : decode cX6_codeOf 24 = .ok (.bipush 88, 2) := by decide +kernel
theorem dX6_codeOf_26 : decode cX6_codeOf 26 = .ok (.if_icmp .ne 8, 3) := by decide +kernel
theorem dX6_codeOf_29 : decode cX6_codeOf 29 = .ok (.bipush 10, 2) := by decide +kernel
theorem dX6_codeOf_31 : decode cX6_codeOf 31 = .ok (.goto 37, 3) := by decide +kernel
theorem dX6_codeOf_34 : decode cX6_codeOf 34 = .ok (.iload_n 1, 1) := by decide +kernel
theorem dX6_codeOf_35 : decode cX6_codeOf 35 = .ok (.bipush 89, 2) := by decide +kernel
theorem dX6_codeOf_37 : decode cX6_codeOf 37 = .ok (.if_icmp .ne 8, 3) := by decide +kernel
theorem dX6_codeOf_40 : decode cX6_codeOf 40 = .ok (.bipush 11, 2) := by decide +kernel
theorem dX6_codeOf_42 : decode cX6_codeOf 42 = .ok (.goto 26, 3) := by decide +kernel
theorem dX6_codeOf_45 : decode cX6_codeOf 45 = .ok (.iload_n 1, 1) := by decide +kernel
theorem dX6_codeOf_46 : decode cX6_codeOf 46 = .ok (.bipush 90, 2) := by decide +kernel
theorem dX6_codeOf_48 : decode cX6_codeOf 48 = .ok (.if_icmp .ne 8, 3) := by decide +kernel
theorem dX6_codeOf_51 : decode cX6_codeOf 51 = .ok (.bipush 12, 2) := by decide +kernel
theorem dX6_codeOf_53 : decode cX6_codeOf 53 = .ok (.goto 15, 3) := by decide +kernel
theorem dX6_codeOf_56 : decode cX6_codeOf 56 = .ok (.iload_n 1, 1) := by decide +kernel
theorem dX6_codeOf_57 : decode cX6_codeOf 57 = .ok (.bipush 87, 2) := by decide +kernel
theorem dX6_codeOf_59 : decode cX6_codeOf 59 = .ok (.if_icmp .ne 8, 3) := by decide +kernel
theorem dX6_codeOf_62 : decode cX6_codeOf 62 = .ok (.bipush 13, 2) := by decide +kernel
theorem dX6_codeOf_64 : decode cX6_codeOf 64 = .ok (.goto 4, 3) := by decide +kernel
theorem dX6_codeOf_67 : decode cX6_codeOf 67 = .ok (.iconst (-1), 1) := by decide +kernel
theorem dX6_codeOf_68 : decode cX6_codeOf 68 = .ok (.ireturn, 1) := by decide +kernel
theorem dX6_takeInput_0 : decode cX6_takeInput 0 = .ok (.aload_n 0, 1) := by decide +kernel
theorem dX6_takeInput_1 : decode cX6_takeInput 1 = .ok (.getfield 105, 3) := by decide +kernel
theorem dX6_takeInput_4 : decode cX6_takeInput 4 = .ok (.bipush 8, 2) := by decide +kernel
theorem dX6_takeInput_6 : decode cX6_takeInput 6 = .ok (.if_icmp .gt 18, 3) := by decide +kernel
theorem dX6_takeInput_9 : decode cX6_takeInput 9 = .ok (.iload_n 1, 1) := by decide +kernel
theorem dX6_takeInput_10 : decode cX6_takeInput 10 = .ok (.ifCond .eq 10, 3) := by decide +kernel
theorem dX6_takeInput_13 : decode cX6_takeInput 13 = .ok (.aload_n 0, 1) := by decide +kernel
theorem dX6_takeInput_14 : decode cX6_takeInput 14 = .ok (.getfield 105, 3) := by decide +kernel
theorem dX6_takeInput_17 : decode cX6_takeInput 17 = .ok (.ifCond .le 7, 3) := by decide +kernel
theorem dX6_takeInput_20 : decode cX6_takeInput 20 = .ok (.iconst 1, 1) := by decide +kernel
theorem dX6_takeInput_21 : decode cX6_takeInput 21 = .ok (.goto 4, 3) := by decide +kernel
theorem dX6_takeInput_24 : decode cX6_takeInput 24 = .ok (.iconst 0, 1) := by decide +kernel
theorem dX6_takeInput_25 : decode cX6_takeInput 25 = .ok (.istore_n 2, 1) := by decide +kernel
theorem dX6_takeInput_26 : decode cX6_takeInput 26 = .ok (.iconst 0, 1) := by decide +kernel
theorem dX6_takeInput_27 : decode cX6_takeInput 27 = .ok (.istore_n 3, 1) := by decide +kernel
theorem dX6_takeInput_28 : decode cX6_takeInput 28 = .ok (.iload_n 3, 1) := by decide +kernel
theorem dX6_takeInput_29 : decode cX6_takeInput 29 = .ok (.aload_n 0, 1) := by decide +kernel
theorem dX6_takeInput_30 : decode cX6_takeInput 30 = .ok (.getfield 105, 3) := by decide +kernel
theorem dX6_takeInput_33 : decode cX6_takeInput 33 = .ok (.if_icmp .ge 59, 3) := by decide +kernel
theorem dX6_takeInput_36 : decode cX6_takeInput 36 = .ok (.iload_n 2, 1) := by decide +kernel
theorem dX6_takeInput_37 : decode cX6_takeInput 37 = .ok (.ifCond .eq 55, 3) := by decide +kernel
theorem dX6_takeInput_40 : decode cX6_takeInput 40 = .ok (.aload_n 0, 1) := by decide +kernel
theorem dX6_takeInput_41 : decode cX6_takeInput 41 = .ok (.getfield 37, 3) := by decide +kernel
theorem dX6_takeInput_44 : decode cX6_takeInput 44 = .ok (.iload_n 3, 1) := by decide +kernel
theorem dX6_takeInput_45 : decode cX6_takeInput 45 = .ok (.aload_n 0, 1) := by decide +kernel
theorem dX6_takeInput_46 : decode cX6_takeInput 46 = .ok (.aload_n 0, 1) := by decide +kernel
theorem dX6_takeInput_47 : decode cX6_takeInput 47 = .ok (.getfield 34, 3) := by decide +kernel
theorem dX6_takeInput_50 : decode cX6_takeInput 50 = .ok (.iload_n 3, 1) := by decide +kernel
theorem dX6_takeInput_51 : decode cX6_takeInput 51 = .ok (.iaload, 1) := by decide +kernel
theorem dX6_takeInput_52 : decode cX6_takeInput 52 = .ok (.invokevirtual 108, 3) := by decide +kernel
theorem dX6_takeInput_55 : decode cX6_takeInput 55 = .ok (.iastore, 1) := by decide +kernel
theorem dX6_takeInput_56 : decode cX6_takeInput 56 = .ok (.aload_n 0, 1) := by decide +kernel
theorem dX6_takeInput_57 : decode cX6_takeInput 57 = .ok (.getfield 37, 3) := by decide +kernel
theorem dX6_takeInput_60 : decode cX6_takeInput 60 = .ok (.iload_n 3, 1) := by decide +kernel
theorem dX6_takeInput_61 : decode cX6_takeInput 61 = .ok (.iaload, 1) := by decide +kernel
theorem dX6_takeInput_62 : decode cX6_takeInput 62 = .ok (.ifCond .lt 22, 3) := by decide +kernel
theorem dX6_takeInput_65 : decode cX6_takeInput 65 = .ok (.iload_n 1, 1) := by decide +kernel
theorem dX6_takeInput_66 : decode cX6_takeInput 66 = .ok (.ifCond .ne 14, 3) := by decide +kernel
theorem dX6_takeInput_69 : decode cX6_takeInput 69 = .ok (.aload_n 0, 1) := by decide +kernel
theorem dX6_takeInput_70 : decode cX6_takeInput 70 = .ok (.getfield 37, 3) := by decide +kernel
theorem dX6_takeInput_73 : decode cX6_takeInput 73 = .ok (.iload_n 3, 1) := by decide +kernel
theorem dX6_takeInput_74 : decode cX6_takeInput 74 = .ok (.iaload, 1) := by decide +kernel
theorem dX6_takeInput_75 : decode cX6_takeInput 75 = .ok (.bipush 10, 2) := by decide +kernel
theorem dX6_takeInput_77 : decode cX6_takeInput 77 = .ok (.if_icmp .ge 7, 3) := by decide +kernel
theorem dX6_takeInput_80 : decode cX6_takeInput 80 = .ok (.iconst 1, 1) := by decide +kernel
theorem dX6_takeInput_81 : decode cX6_takeInput 81 = .ok (.goto 4, 3) := by decide +kernel
theorem dX6_takeInput_84 : decode cX6_takeInput 84 = .ok (.iconst 0, 1) := by decide +kernel
theorem dX6_takeInput_85 : decode cX6_takeInput 85 = .ok (.istore_n 2, 1) := by decide +kernel
theorem dX6_takeInput_86 : decode cX6_takeInput 86 = .ok (.iinc 3 1, 3) := by decide +kernel
theorem dX6_takeInput_89 : decode cX6_takeInput 89 = .ok (.goto (-61), 3) := by decide +kernel
theorem dX6_takeInput_92 : decode cX6_takeInput 92 = .ok (.aload_n 0, 1) := by decide +kernel
theorem dX6_takeInput_93 : decode cX6_takeInput 93 = .ok (.aload_n 0, 1) := by decide +kernel
theorem dX6_takeInput_94 : decode cX6_takeInput 94 = .ok (.getfield 105, 3) := by decide +kernel
theorem dX6_takeInput_97 : decode cX6_takeInput 97 = .ok (.putfield 112, 3) := by decide +kernel
theorem dX6_takeInput_100 : decode cX6_takeInput 100 = .ok (.aload_n 0, 1) := by decide +kernel
theorem dX6_takeInput_101 : decode cX6_takeInput 101 = .ok (.iconst 0, 1) := by decide +kernel
theorem dX6_takeInput_102 : decode cX6_takeInput 102 = .ok (.putfield 105, 3) := by decide +kernel
theorem dX6_takeInput_105 : decode cX6_takeInput 105 = .ok (.iload_n 2, 1) := by decide +kernel
theorem dX6_takeInput_106 : decode cX6_takeInput 106 = .ok (.ireturn, 1) := by decide +kernel
theorem dX6_inputIs_0 : decode cX6_inputIs 0 = .ok (.aload_n 0, 1) := by decide +kernel
theorem dX6_inputIs_1 : decode cX6_inputIs 1 = .ok (.getfield 105, 3) := by decide +kernel
theorem dX6_inputIs_4 : decode cX6_inputIs 4 = .ok (.aload_n 1, 1) := by decide +kernel
theorem dX6_inputIs_5 : decode cX6_inputIs 5 = .ok (.invokevirtual 115, 3) := by decide +kernel
theorem dX6_inputIs_8 : decode cX6_inputIs 8 = .ok (.if_icmp .ne 7, 3) := by decide +kernel
theorem dX6_inputIs_11 : decode cX6_inputIs 11 = .ok (.iconst 1, 1) := by decide +kernel
theorem dX6_inputIs_12 : decode cX6_inputIs 12 = .ok (.goto 4, 3) := by decide +kernel
theorem dX6_inputIs_15 : decode cX6_inputIs 15 = .ok (.iconst 0, 1) := by decide +kernel
theorem dX6_inputIs_16 : decode cX6_inputIs 16 = .ok (.istore_n 2, 1) := by decide +kernel
theorem dX6_inputIs_17 : decode cX6_inputIs 17 = .ok (.iconst 0, 1) := by decide +kernel
theorem dX6_inputIs_18 : decode cX6_inputIs 18 = .ok (.istore_n 3, 1) := by decide +kernel
theorem dX6_inputIs_19 : decode cX6_inputIs 19 = .ok (.iload_n 3, 1) := by decide +kernel
theorem dX6_inputIs_20 : decode cX6_inputIs 20 = .ok (.aload_n 0, 1) := by decide +kernel
theorem dX6_inputIs_21 : decode cX6_inputIs 21 = .ok (.getfield 105, 3) := by decide +kernel
theorem dX6_inputIs_24 : decode cX6_inputIs 24 = .ok (.if_icmp .ge 33, 3) := by decide +kernel
theorem dX6_inputIs_27 : decode cX6_inputIs 27 = .ok (.iload_n 2, 1) := by decide +kernel
theorem dX6_inputIs_28 : decode cX6_inputIs 28 = .ok (.ifCond .eq 29, 3) := by decide +kernel
theorem dX6_inputIs_31 : decode cX6_inputIs 31 = .ok (.aload_n 0, 1) := by decide +kernel
theorem dX6_inputIs_32 : decode cX6_inputIs 32 = .ok (.getfield 34, 3) := by decide +kernel
theorem dX6_inputIs_35 : decode cX6_inputIs 35 = .ok (.iload_n 3, 1) := by decide +kernel
theorem dX6_inputIs_36 : decode cX6_inputIs 36 = .ok (.iaload, 1) := by decide +kernel
theorem dX6_inputIs_37 : decode cX6_inputIs 37 = .ok (.aload_n 1, 1) := by decide +kernel
theorem dX6_inputIs_38 : decode cX6_inputIs 38 = .ok (.iload_n 3, 1) := by decide +kernel
theorem dX6_inputIs_39 : decode cX6_inputIs 39 = .ok (.invokevirtual 121, 3) := by decide +kernel
theorem dX6_inputIs_42 : decode cX6_inputIs 42 = .ok (.if_icmp .ne 7, 3) := by decide +kernel
theorem dX6_inputIs_45 : decode cX6_inputIs 45 = .ok (.iconst 1, 1) := by decide +kernel
theorem dX6_inputIs_46 : decode cX6_inputIs 46 = .ok (.goto 4, 3) := by decide +kernel
theorem dX6_inputIs_49 : decode cX6_inputIs 49 = .ok (.iconst 0, 1) := by decide +kernel
theorem dX6_inputIs_50 : decode cX6_inputIs 50 = .ok (.istore_n 2, 1) := by decide +kernel
theorem dX6_inputIs_51 : decode cX6_inputIs 51 = .ok (.iinc 3 1, 3) := by decide +kernel
theorem dX6_inputIs_54 : decode cX6_inputIs 54 = .ok (.goto (-35), 3) := by decide +kernel
theorem dX6_inputIs_57 : decode cX6_inputIs 57 = .ok (.iload_n 2, 1) := by decide +kernel
theorem dX6_inputIs_58 : decode cX6_inputIs 58 = .ok (.ireturn, 1) := by decide +kernel
theorem dX6_normalize_0 : decode cX6_normalize 0 = .ok (.iconst 0, 1) := by decide +kernel
theorem dX6_normalize_1 : decode cX6_normalize 1 = .ok (.istore_n 2, 1) := by decide +kernel
theorem dX6_normalize_2 : decode cX6_normalize 2 = .ok (.iload_n 2, 1) := by decide +kernel
theorem dX6_normalize_3 : decode cX6_normalize 3 = .ok (.iconst 4, 1) := by decide +kernel
theorem dX6_normalize_4 : decode cX6_normalize 4 = .ok (.if_icmp .ge 16, 3) := by decide +kernel
theorem dX6_normalize_7 : decode cX6_normalize 7 = .ok (.aload_n 0, 1) := by decide +kernel
theorem dX6_normalize_8 : decode cX6_normalize 8 = .ok (.getfield 40, 3) := by decide +kernel
theorem dX6_normalize_11 : decode cX6_normalize 11 = .ok (.iload_n 2, 1) := by decide +kernel
theorem dX6_normalize_12 : decode cX6_normalize 12 = .ok (.iconst (-1), 1) := by decide +kernel
theorem dX6_normalize_13 : decode cX6_normalize 13 = .ok (.iastore, 1) := by decide +kernel
theorem dX6_normalize_14 : decode cX6_normalize 14 = .ok (.iinc 2 1, 3) := by decide +kernel
theorem dX6_normalize_17 : decode cX6_normalize 17 = .ok (.goto (-15), 3) := by decide +kernel
theorem dX6_normalize_20 : decode cX6_normalize 20 = .ok (.bipush 10, 2) := by decide +kernel
theorem dX6_normalize_22 : decode cX6_normalize 22 = .ok (.istore_n 2, 1) := by decide +kernel
theorem dX6_normalize_23 : decode cX6_normalize 23 = .ok (.bipush 8, 2) := by decide +kernel
theorem dX6_normalize_25 : decode cX6_normalize 25 = .ok (.iload_n 1, 1) := by decide +kernel
theorem dX6_normalize_26 : decode cX6_normalize 26 = .ok (.imul, 1) := by decide +kernel
theorem dX6_normalize_27 : decode cX6_normalize 27 = .ok (.istore_n 3, 1) := by decide +kernel
theorem dX6_normalize_28 : decode cX6_normalize 28 = .ok (.iload_n 3, 1) := by decide +kernel
theorem dX6_normalize_29 : decode cX6_normalize 29 = .ok (.bipush 8, 2) := by decide +kernel
theorem dX6_normalize_31 : decode cX6_normalize 31 = .ok (.iload_n 1, 1) := by decide +kernel
theorem dX6_normalize_32 : decode cX6_normalize 32 = .ok (.imul, 1) := by decide +kernel
theorem dX6_normalize_33 : decode cX6_normalize 33 = .ok (.aload_n 0, 1) := by decide +kernel
theorem dX6_normalize_34 : decode cX6_normalize 34 = .ok (.getfield 19, 3) := by decide +kernel
theorem dX6_normalize_37 : decode cX6_normalize 37 = .ok (.iload_n 1, 1) := by decide +kernel
theorem dX6_normalize_38 : decode cX6_normalize 38 = .ok (.iaload, 1) := by decide +kernel
theorem dX6_normalize_39 : decode cX6_normalize 39 = .ok (.iadd, 1) := by decide +kernel
theorem dX6_normalize_40 : decode cX6_normalize 40 = .ok (.if_icmp .ge 65, 3) := by decide +kernel
theorem dX6_normalize_43 : decode cX6_normalize 43 = .ok (.aload_n 0, 1) := by decide +kernel
theorem dX6_normalize_44 : decode cX6_normalize 44 = .ok (.getfield 15, 3) := by decide +kernel
theorem dX6_normalize_47 : decode cX6_normalize 47 = .ok (.iload_n 3, 1) := by decide +kernel
theorem dX6_normalize_48 : decode cX6_normalize 48 = .ok (.iaload, 1) := by decide +kernel
theorem dX6_normalize_49 : decode cX6_normalize 49 = .ok (.bipush 10, 2) := by decide +kernel
theorem dX6_normalize_51 : decode cX6_normalize 51 = .ok (.if_icmp .lt 48, 3) := by decide +kernel
theorem dX6_normalize_54 : decode cX6_normalize 54 = .ok (.aload_n 0, 1) := by decide +kernel
theorem dX6_normalize_55 : decode cX6_normalize 55 = .ok (.getfield 15, 3) := by decide +kernel
theorem dX6_normalize_58 : decode cX6_normalize 58 = .ok (.iload_n 3, 1) := by decide +kernel
theorem dX6_normalize_59 : decode cX6_normalize 59 = .ok (.iaload, 1) := by decide +kernel
theorem dX6_normalize_60 : decode cX6_normalize 60 = .ok (.bipush 10, 2) := by decide +kernel
theorem dX6_normalize_62 : decode cX6_normalize 62 = .ok (.isub, 1) := by decide +kernel
theorem dX6_normalize_63 : decode cX6_normalize 63 = .ok (.istore 4, 2) := by decide +kernel
theorem dX6_normalize_65 : decode cX6_normalize 65 = .ok (.aload_n 0, 1) := by decide +kernel
theorem dX6_normalize_66 : decode cX6_normalize 66 = .ok (.getfield 40, 3) := by decide +kernel
theorem dX6_normalize_69 : decode cX6_normalize 69 = .ok (.iload 4, 2) := by decide +kernel
theorem dX6_normalize_71 : decode cX6_normalize 71 = .ok (.iaload, 1) := by decide +kernel
theorem dX6_normalize_72 : decode cX6_normalize 72 = .ok (.ifCond .ge 14, 3) := by decide +kernel
theorem dX6_normalize_75 : decode cX6_normalize 75 = .ok (.aload_n 0, 1) := by decide +kernel
theorem dX6_normalize_76 : decode cX6_normalize 76 = .ok (.getfield 40, 3) := by decide +kernel
theorem dX6_normalize_79 : decode cX6_normalize 79 = .ok (.iload 4, 2) := by decide +kernel
theorem dX6_normalize_81 : decode cX6_normalize 81 = .ok (.iload_n 2, 1) := by decide +kernel
theorem dX6_normalize_82 : decode cX6_normalize 82 = .ok (.iastore, 1) := by decide +kernel
theorem dX6_normalize_83 : decode cX6_normalize 83 = .ok (.iinc 2 1, 3) := by decide +kernel
theorem dX6_normalize_86 : decode cX6_normalize 86 = .ok (.aload_n 0, 1) := by decide +kernel
theorem dX6_normalize_87 : decode cX6_normalize 87 = .ok (.getfield 15, 3) := by decide +kernel
theorem dX6_normalize_90 : decode cX6_normalize 90 = .ok (.iload_n 3, 1) := by decide +kernel
theorem dX6_normalize_91 : decode cX6_normalize 91 = .ok (.aload_n 0, 1) := by decide +kernel
theorem dX6_normalize_92 : decode cX6_normalize 92 = .ok (.getfield 40, 3) := by decide +kernel
theorem dX6_normalize_95 : decode cX6_normalize 95 = .ok (.iload 4, 2) := by decide +kernel
theorem dX6_normalize_97 : decode cX6_normalize 97 = .ok (.iaload, 1) := by decide +kernel
theorem dX6_normalize_98 : decode cX6_normalize 98 = .ok (.iastore, 1) := by decide +kernel
theorem dX6_normalize_99 : decode cX6_normalize 99 = .ok (.iinc 3 1, 3) := by decide +kernel
theorem dX6_normalize_102 : decode cX6_normalize 102 = .ok (.goto (-74), 3) := by decide +kernel
theorem dX6_normalize_105 : decode cX6_normalize 105 = .ok (.return_, 1) := by decide +kernel
theorem dX6_store_0 : decode cX6_store 0 = .ok (.aload_n 0, 1) := by decide +kernel
theorem dX6_store_1 : decode cX6_store 1 = .ok (.getfield 37, 3) := by decide +kernel
theorem dX6_store_4 : decode cX6_store 4 = .ok (.iconst 0, 1) := by decide +kernel
theorem dX6_store_5 : decode cX6_store 5 = .ok (.aload_n 0, 1) := by decide +kernel
theorem dX6_store_6 : decode cX6_store 6 = .ok (.getfield 15, 3) := by decide +kernel
theorem dX6_store_9 : decode cX6_store 9 = .ok (.bipush 8, 2) := by decide +kernel
theorem dX6_store_11 : decode cX6_store 11 = .ok (.iload_n 1, 1) := by decide +kernel
theorem dX6_store_12 : decode cX6_store 12 = .ok (.imul, 1) := by decide +kernel
theorem dX6_store_13 : decode cX6_store 13 = .ok (.aload_n 0, 1) := by decide +kernel
theorem dX6_store_14 : decode cX6_store 14 = .ok (.getfield 112, 3) := by decide +kernel
theorem dX6_store_17 : decode cX6_store 17 = .ok (.invokestatic 125, 3) := by decide +kernel
theorem dX6_store_20 : decode cX6_store 20 = .ok (.aload_n 0, 1) := by decide +kernel
theorem dX6_store_21 : decode cX6_store 21 = .ok (.getfield 19, 3) := by decide +kernel
theorem dX6_store_24 : decode cX6_store 24 = .ok (.iload_n 1, 1) := by decide +kernel
theorem dX6_store_25 : decode cX6_store 25 = .ok (.aload_n 0, 1) := by decide +kernel
theorem dX6_store_26 : decode cX6_store 26 = .ok (.getfield 112, 3) := by decide +kernel
theorem dX6_store_29 : decode cX6_store 29 = .ok (.iastore, 1) := by decide +kernel
theorem dX6_store_30 : decode cX6_store 30 = .ok (.aload_n 0, 1) := by decide +kernel
theorem dX6_store_31 : decode cX6_store 31 = .ok (.iload_n 1, 1) := by decide +kernel
theorem dX6_store_32 : decode cX6_store 32 = .ok (.invokevirtual 131, 3) := by decide +kernel
theorem dX6_store_35 : decode cX6_store 35 = .ok (.aload_n 0, 1) := by decide +kernel
theorem dX6_store_36 : decode cX6_store 36 = .ok (.getfield 112, 3) := by decide +kernel
theorem dX6_store_39 : decode cX6_store 39 = .ok (.ireturn, 1) := by decide +kernel
theorem dX6_setPattern_0 : decode cX6_setPattern 0 = .ok (.aload_n 0, 1) := by decide +kernel
theorem dX6_setPattern_1 : decode cX6_setPattern 1 = .ok (.iconst 1, 1) := by decide +kernel
theorem dX6_setPattern_2 : decode cX6_setPattern 2 = .ok (.invokevirtual 135, 3) := by decide +kernel
theorem dX6_setPattern_5 : decode cX6_setPattern 5 = .ok (.istore_n 2, 1) := by decide +kernel
theorem dX6_setPattern_6 : decode cX6_setPattern 6 = .ok (.iload_n 1, 1) := by decide +kernel
theorem dX6_setPattern_7 : decode cX6_setPattern 7 = .ok (.invokestatic 139, 3) := by decide +kernel
theorem dX6_setPattern_10 : decode cX6_setPattern 10 = .ok (.ifCond .ne 6, 3) := by decide +kernel
theorem dX6_setPattern_13 : decode cX6_setPattern 13 = .ok (.bipush (-2), 2) := by decide +kernel
theorem dX6_setPattern_15 : decode cX6_setPattern 15 = .ok (.ireturn, 1) := by decide +kernel
theorem dX6_setPattern_16 : decode cX6_setPattern 16 = .ok (.iload_n 2, 1) := by decide +kernel
theorem dX6_setPattern_17 : decode cX6_setPattern 17 = .ok (.ifCond .eq 11, 3) := by decide +kernel
theorem dX6_setPattern_20 : decode cX6_setPattern 20 = .ok (.aload_n 0, 1) := by decide +kernel
theorem dX6_setPattern_21 : decode cX6_setPattern 21 = .ok (.iload_n 1, 1) := by decide +kernel
theorem dX6_setPattern_22 : decode cX6_setPattern 22 = .ok (.invokevirtual 143, 3) := by decide +kernel
theorem dX6_setPattern_25 : decode cX6_setPattern 25 = .ok (.goto 5, 3) := by decide +kernel
theorem dX6_setPattern_28 : decode cX6_setPattern 28 = .ok (.bipush (-5), 2) := by decide +kernel
theorem dX6_setPattern_30 : decode cX6_setPattern 30 = .ok (.ireturn, 1) := by decide +kernel
theorem dX6_copy_0 : decode cX6_copy 0 = .ok (.iload_n 1, 1) := by decide +kernel
theorem dX6_copy_1 : decode cX6_copy 1 = .ok (.invokestatic 139, 3) := by decide +kernel
theorem dX6_copy_4 : decode cX6_copy 4 = .ok (.ifCond .eq 10, 3) := by decide +kernel
theorem dX6_copy_7 : decode cX6_copy 7 = .ok (.iload_n 2, 1) := by decide +kernel
theorem dX6_copy_8 : decode cX6_copy 8 = .ok (.invokestatic 139, 3) := by decide +kernel
theorem dX6_copy_11 : decode cX6_copy 11 = .ok (.ifCond .ne 6, 3) := by decide +kernel
theorem dX6_copy_14 : decode cX6_copy 14 = .ok (.bipush (-2), 2) := by decide +kernel
theorem dX6_copy_16 : decode cX6_copy 16 = .ok (.ireturn, 1) := by decide +kernel
theorem dX6_copy_17 : decode cX6_copy 17 = .ok (.aload_n 0, 1) := by decide +kernel
theorem dX6_copy_18 : decode cX6_copy 18 = .ok (.getfield 15, 3) := by decide +kernel
theorem dX6_copy_21 : decode cX6_copy 21 = .ok (.bipush 8, 2) := by decide +kernel
theorem dX6_copy_23 : decode cX6_copy 23 = .ok (.iload_n 2, 1) := by decide +kernel
theorem dX6_copy_24 : decode cX6_copy 24 = .ok (.imul, 1) := by decide +kernel
theorem dX6_copy_25 : decode cX6_copy 25 = .ok (.aload_n 0, 1) := by decide +kernel
theorem dX6_copy_26 : decode cX6_copy 26 = .ok (.getfield 15, 3) := by decide +kernel
theorem dX6_copy_29 : decode cX6_copy 29 = .ok (.bipush 8, 2) := by decide +kernel
theorem dX6_copy_31 : decode cX6_copy 31 = .ok (.iload_n 1, 1) := by decide +kernel
theorem dX6_copy_32 : decode cX6_copy 32 = .ok (.imul, 1) := by decide +kernel
theorem dX6_copy_33 : decode cX6_copy 33 = .ok (.bipush 8, 2) := by decide +kernel
theorem dX6_copy_35 : decode cX6_copy 35 = .ok (.invokestatic 125, 3) := by decide +kernel
theorem dX6_copy_38 : decode cX6_copy 38 = .ok (.aload_n 0, 1) := by decide +kernel
theorem dX6_copy_39 : decode cX6_copy 39 = .ok (.getfield 19, 3) := by decide +kernel
theorem dX6_copy_42 : decode cX6_copy 42 = .ok (.iload_n 1, 1) := by decide +kernel
theorem dX6_copy_43 : decode cX6_copy 43 = .ok (.aload_n 0, 1) := by decide +kernel
theorem dX6_copy_44 : decode cX6_copy 44 = .ok (.getfield 19, 3) := by decide +kernel
theorem dX6_copy_47 : decode cX6_copy 47 = .ok (.iload_n 2, 1) := by decide +kernel
theorem dX6_copy_48 : decode cX6_copy 48 = .ok (.iaload, 1) := by decide +kernel
theorem dX6_copy_49 : decode cX6_copy 49 = .ok (.iastore, 1) := by decide +kernel
theorem dX6_copy_50 : decode cX6_copy 50 = .ok (.aload_n 0, 1) := by decide +kernel
theorem dX6_copy_51 : decode cX6_copy 51 = .ok (.getfield 19, 3) := by decide +kernel
theorem dX6_copy_54 : decode cX6_copy 54 = .ok (.iload_n 1, 1) := by decide +kernel
theorem dX6_copy_55 : decode cX6_copy 55 = .ok (.iaload, 1) := by decide +kernel
theorem dX6_copy_56 : decode cX6_copy 56 = .ok (.ireturn, 1) := by decide +kernel
theorem dX6_length_0 : decode cX6_length 0 = .ok (.iload_n 1, 1) := by decide +kernel
theorem dX6_length_1 : decode cX6_length 1 = .ok (.invokestatic 139, 3) := by decide +kernel
theorem dX6_length_4 : decode cX6_length 4 = .ok (.ifCond .eq 12, 3) := by decide +kernel
theorem dX6_length_7 : decode cX6_length 7 = .ok (.aload_n 0, 1) := by decide +kernel
theorem dX6_length_8 : decode cX6_length 8 = .ok (.getfield 19, 3) := by decide +kernel
theorem dX6_length_11 : decode cX6_length 11 = .ok (.iload_n 1, 1) := by decide +kernel
theorem dX6_length_12 : decode cX6_length 12 = .ok (.iaload, 1) := by decide +kernel
theorem dX6_length_13 : decode cX6_length 13 = .ok (.goto 5, 3) := by decide +kernel
theorem dX6_length_16 : decode cX6_length 16 = .ok (.bipush (-2), 2) := by decide +kernel
theorem dX6_length_18 : decode cX6_length 18 = .ok (.ireturn, 1) := by decide +kernel
theorem dX6_symbol_0 : decode cX6_symbol 0 = .ok (.iload_n 1, 1) := by decide +kernel
theorem dX6_symbol_1 : decode cX6_symbol 1 = .ok (.invokestatic 139, 3) := by decide +kernel
theorem dX6_symbol_4 : decode cX6_symbol 4 = .ok (.ifCond .ne 6, 3) := by decide +kernel
theorem dX6_symbol_7 : decode cX6_symbol 7 = .ok (.bipush (-2), 2) := by decide +kernel
theorem dX6_symbol_9 : decode cX6_symbol 9 = .ok (.ireturn, 1) := by decide +kernel
theorem dX6_symbol_10 : decode cX6_symbol 10 = .ok (.iload_n 2, 1) := by decide +kernel
theorem dX6_symbol_11 : decode cX6_symbol 11 = .ok (.iconst 0, 1) := by decide +kernel
theorem dX6_symbol_12 : decode cX6_symbol 12 = .ok (.aload_n 0, 1) := by decide +kernel
theorem dX6_symbol_13 : decode cX6_symbol 13 = .ok (.getfield 19, 3) := by decide +kernel
theorem dX6_symbol_16 : decode cX6_symbol 16 = .ok (.iload_n 1, 1) := by decide +kernel
theorem dX6_symbol_17 : decode cX6_symbol 17 = .ok (.iaload, 1) := by decide +kernel
theorem dX6_symbol_18 : decode cX6_symbol 18 = .ok (.iconst 1, 1) := by decide +kernel
theorem dX6_symbol_19 : decode cX6_symbol 19 = .ok (.isub, 1) := by decide +kernel
theorem dX6_symbol_20 : decode cX6_symbol 20 = .ok (.invokestatic 101, 3) := by decide +kernel
theorem dX6_symbol_23 : decode cX6_symbol 23 = .ok (.ifCond .eq 17, 3) := by decide +kernel
theorem dX6_symbol_26 : decode cX6_symbol 26 = .ok (.aload_n 0, 1) := by decide +kernel
theorem dX6_symbol_27 : decode cX6_symbol 27 = .ok (.getfield 15, 3) := by decide +kernel
theorem dX6_symbol_30 : decode cX6_symbol 30 = .ok (.bipush 8, 2) := by decide +kernel
theorem dX6_symbol_32 : decode cX6_symbol 32 = .ok (.iload_n 1, 1) := by decide +kernel
theorem dX6_symbol_33 : decode cX6_symbol 33 = .ok (.imul, 1) := by decide +kernel
theorem dX6_symbol_34 : decode cX6_symbol 34 = .ok (.iload_n 2, 1) := by decide +kernel
theorem dX6_symbol_35 : decode cX6_symbol 35 = .ok (.iadd, 1) := by decide +kernel
theorem dX6_symbol_36 : decode cX6_symbol 36 = .ok (.iaload, 1) := by decide +kernel
theorem dX6_symbol_37 : decode cX6_symbol 37 = .ok (.goto 5, 3) := by decide +kernel
theorem dX6_symbol_40 : decode cX6_symbol 40 = .ok (.bipush (-6), 2) := by decide +kernel
theorem dX6_symbol_42 : decode cX6_symbol 42 = .ok (.ireturn, 1) := by decide +kernel
theorem dX6_countOf_0 : decode cX6_countOf 0 = .ok (.iconst 0, 1) := by decide +kernel
theorem dX6_countOf_1 : decode cX6_countOf 1 = .ok (.istore 4, 2) := by decide +kernel
theorem dX6_countOf_3 : decode cX6_countOf 3 = .ok (.iload_n 2, 1) := by decide +kernel
theorem dX6_countOf_4 : decode cX6_countOf 4 = .ok (.istore 5, 2) := by decide +kernel
theorem dX6_countOf_6 : decode cX6_countOf 6 = .ok (.iload 5, 2) := by decide +kernel
theorem dX6_countOf_8 : decode cX6_countOf 8 = .ok (.iload_n 2, 1) := by decide +kernel
theorem dX6_countOf_9 : decode cX6_countOf 9 = .ok (.iload_n 3, 1) := by decide +kernel
theorem dX6_countOf_10 : decode cX6_countOf 10 = .ok (.iadd, 1) := by decide +kernel
theorem dX6_countOf_11 : decode cX6_countOf 11 = .ok (.if_icmp .ge 27, 3) := by decide +kernel
theorem dX6_countOf_14 : decode cX6_countOf 14 = .ok (.iload 4, 2) := by decide +kernel
theorem dX6_countOf_16 : decode cX6_countOf 16 = .ok (.aload_n 1, 1) := by decide +kernel
theorem dX6_countOf_17 : decode cX6_countOf 17 = .ok (.iload 5, 2) := by decide +kernel
theorem dX6_countOf_19 : decode cX6_countOf 19 = .ok (.iaload, 1) := by decide +kernel
theorem dX6_countOf_20 : decode cX6_countOf 20 = .ok (.iload_n 0, 1) := by decide +kernel
theorem dX6_countOf_21 : decode cX6_countOf 21 = .ok (.if_icmp .ne 7, 3) := by decide +kernel
theorem dX6_countOf_24 : decode cX6_countOf 24 = .ok (.iconst 1, 1) := by decide +kernel
theorem dX6_countOf_25 : decode cX6_countOf 25 = .ok (.goto 4, 3) := by decide +kernel
theorem dX6_countOf_28 : decode cX6_countOf 28 = .ok (.iconst 0, 1) := by decide +kernel
theorem dX6_countOf_29 : decode cX6_countOf 29 = .ok (.iadd, 1) := by decide +kernel
theorem dX6_countOf_30 : decode cX6_countOf 30 = .ok (.istore 4, 2) := by decide +kernel
theorem dX6_countOf_32 : decode cX6_countOf 32 = .ok (.iinc 5 1, 3) := by decide +kernel
theorem dX6_countOf_35 : decode cX6_countOf 35 = .ok (.goto (-29), 3) := by decide +kernel
theorem dX6_countOf_38 : decode cX6_countOf 38 = .ok (.iload 4, 2) := by decide +kernel
theorem dX6_countOf_40 : decode cX6_countOf 40 = .ok (.ireturn, 1) := by decide +kernel
theorem dX6_variablesIn_0 : decode cX6_variablesIn 0 = .ok (.iconst 0, 1) := by decide +kernel
theorem dX6_variablesIn_1 : decode cX6_variablesIn 1 = .ok (.istore_n 3, 1) := by decide +kernel
theorem dX6_variablesIn_2 : decode cX6_variablesIn 2 = .ok (.bipush 10, 2) := by decide +kernel
theorem dX6_variablesIn_4 : decode cX6_variablesIn 4 = .ok (.istore 4, 2) := by decide +kernel
theorem dX6_variablesIn_6 : decode cX6_variablesIn 6 = .ok (.iload 4, 2) := by decide +kernel
theorem dX6_variablesIn_8 : decode cX6_variablesIn 8 = .ok (.bipush 14, 2) := by decide +kernel
theorem dX6_variablesIn_10 : decode cX6_variablesIn 10 = .ok (.if_icmp .ge 28, 3) := by decide +kernel
theorem dX6_variablesIn_13 : decode cX6_variablesIn 13 = .ok (.iload_n 3, 1) := by decide +kernel
theorem dX6_variablesIn_14 : decode cX6_variablesIn 14 = .ok (.iload 4, 2) := by decide +kernel
theorem dX6_variablesIn_16 : decode cX6_variablesIn 16 = .ok (.aload_n 0, 1) := by decide +kernel
theorem dX6_variablesIn_17 : decode cX6_variablesIn 17 = .ok (.iload_n 1, 1) := by decide +kernel
theorem dX6_variablesIn_18 : decode cX6_variablesIn 18 = .ok (.iload_n 2, 1) := by decide +kernel
theorem dX6_variablesIn_19 : decode cX6_variablesIn 19 = .ok (.invokestatic 146, 3) := by decide +kernel
theorem dX6_variablesIn_22 : decode cX6_variablesIn 22 = .ok (.ifCond .le 7, 3) := by decide +kernel
theorem dX6_variablesIn_25 : decode cX6_variablesIn 25 = .ok (.iconst 1, 1) := by decide +kernel
theorem dX6_variablesIn_26 : decode cX6_variablesIn 26 = .ok (.goto 4, 3) := by decide +kernel
theorem dX6_variablesIn_29 : decode cX6_variablesIn 29 = .ok (.iconst 0, 1) := by decide +kernel
theorem dX6_variablesIn_30 : decode cX6_variablesIn 30 = .ok (.iadd, 1) := by decide +kernel
theorem dX6_variablesIn_31 : decode cX6_variablesIn 31 = .ok (.istore_n 3, 1) := by decide +kernel
theorem dX6_variablesIn_32 : decode cX6_variablesIn 32 = .ok (.iinc 4 1, 3) := by decide +kernel
theorem dX6_variablesIn_35 : decode cX6_variablesIn 35 = .ok (.goto (-29), 3) := by decide +kernel
theorem dX6_variablesIn_38 : decode cX6_variablesIn 38 = .ok (.iload_n 3, 1) := by decide +kernel
theorem dX6_variablesIn_39 : decode cX6_variablesIn 39 = .ok (.ireturn, 1) := by decide +kernel
theorem dX6_lettersIn_0 : decode cX6_lettersIn 0 = .ok (.iconst 0, 1) := by decide +kernel
theorem dX6_lettersIn_1 : decode cX6_lettersIn 1 = .ok (.istore_n 3, 1) := by decide +kernel
theorem dX6_lettersIn_2 : decode cX6_lettersIn 2 = .ok (.iload_n 1, 1) := by decide +kernel
theorem dX6_lettersIn_3 : decode cX6_lettersIn 3 = .ok (.istore 4, 2) := by decide +kernel
theorem dX6_lettersIn_5 : decode cX6_lettersIn 5 = .ok (.iload 4, 2) := by decide +kernel
theorem dX6_lettersIn_7 : decode cX6_lettersIn 7 = .ok (.iload_n 1, 1) := by decide +kernel
theorem dX6_lettersIn_8 : decode cX6_lettersIn 8 = .ok (.iload_n 2, 1) := by decide +kernel
theorem dX6_lettersIn_9 : decode cX6_lettersIn 9 = .ok (.iadd, 1) := by decide +kernel
theorem dX6_lettersIn_10 : decode cX6_lettersIn 10 = .ok (.if_icmp .ge 26, 3) := by decide +kernel
theorem dX6_lettersIn_13 : decode cX6_lettersIn 13 = .ok (.iload_n 3, 1) := by decide +kernel
theorem dX6_lettersIn_14 : decode cX6_lettersIn 14 = .ok (.aload_n 0, 1) := by decide +kernel
theorem dX6_lettersIn_15 : decode cX6_lettersIn 15 = .ok (.iload 4, 2) := by decide +kernel
theorem dX6_lettersIn_17 : decode cX6_lettersIn 17 = .ok (.iaload, 1) := by decide +kernel
theorem dX6_lettersIn_18 : decode cX6_lettersIn 18 = .ok (.bipush 10, 2) := by decide +kernel
theorem dX6_lettersIn_20 : decode cX6_lettersIn 20 = .ok (.if_icmp .ge 7, 3) := by decide +kernel
theorem dX6_lettersIn_23 : decode cX6_lettersIn 23 = .ok (.iconst 1, 1) := by decide +kernel
theorem dX6_lettersIn_24 : decode cX6_lettersIn 24 = .ok (.goto 4, 3) := by decide +kernel
theorem dX6_lettersIn_27 : decode cX6_lettersIn 27 = .ok (.iconst 0, 1) := by decide +kernel
theorem dX6_lettersIn_28 : decode cX6_lettersIn 28 = .ok (.iadd, 1) := by decide +kernel
theorem dX6_lettersIn_29 : decode cX6_lettersIn 29 = .ok (.istore_n 3, 1) := by decide +kernel
theorem dX6_lettersIn_30 : decode cX6_lettersIn 30 = .ok (.iinc 4 1, 3) := by decide +kernel
theorem dX6_lettersIn_33 : decode cX6_lettersIn 33 = .ok (.goto (-28), 3) := by decide +kernel
theorem dX6_lettersIn_36 : decode cX6_lettersIn 36 = .ok (.iload_n 3, 1) := by decide +kernel
theorem dX6_lettersIn_37 : decode cX6_lettersIn 37 = .ok (.ireturn, 1) := by decide +kernel
theorem dX6_variables_0 : decode cX6_variables 0 = .ok (.aload_n 0, 1) := by decide +kernel
theorem dX6_variables_1 : decode cX6_variables 1 = .ok (.getfield 15, 3) := by decide +kernel
theorem dX6_variables_4 : decode cX6_variables 4 = .ok (.bipush 8, 2) := by decide +kernel
theorem dX6_variables_6 : decode cX6_variables 6 = .ok (.iload_n 1, 1) := by decide +kernel
theorem dX6_variables_7 : decode cX6_variables 7 = .ok (.imul, 1) := by decide +kernel
theorem dX6_variables_8 : decode cX6_variables 8 = .ok (.aload_n 0, 1) := by decide +kernel
theorem dX6_variables_9 : decode cX6_variables 9 = .ok (.getfield 19, 3) := by decide +kernel
theorem dX6_variables_12 : decode cX6_variables 12 = .ok (.iload_n 1, 1) := by decide +kernel
theorem dX6_variables_13 : decode cX6_variables 13 = .ok (.iaload, 1) := by decide +kernel
theorem dX6_variables_14 : decode cX6_variables 14 = .ok (.invokestatic 150, 3) := by decide +kernel
theorem dX6_variables_17 : decode cX6_variables 17 = .ok (.ireturn, 1) := by decide +kernel
theorem dX6_variableCount_0 : decode cX6_variableCount 0 = .ok (.iload_n 1, 1) := by decide +kernel
theorem dX6_variableCount_1 : decode cX6_variableCount 1 = .ok (.invokestatic 139, 3) := by decide +kernel
theorem dX6_variableCount_4 : decode cX6_variableCount 4 = .ok (.ifCond .eq 11, 3) := by decide +kernel
theorem dX6_variableCount_7 : decode cX6_variableCount 7 = .ok (.aload_n 0, 1) := by decide +kernel
theorem dX6_variableCount_8 : decode cX6_variableCount 8 = .ok (.iload_n 1, 1) := by decide +kernel
theorem dX6_variableCount_9 : decode cX6_variableCount 9 = .ok (.invokevirtual 154, 3) := by decide +kernel
theorem dX6_variableCount_12 : decode cX6_variableCount 12 = .ok (.goto 5, 3) := by decide +kernel
theorem dX6_variableCount_15 : decode cX6_variableCount 15 = .ok (.bipush (-2), 2) := by decide +kernel
theorem dX6_variableCount_17 : decode cX6_variableCount 17 = .ok (.ireturn, 1) := by decide +kernel
theorem dX6_occurs_0 : decode cX6_occurs 0 = .ok (.iload_n 2, 1) := by decide +kernel
theorem dX6_occurs_1 : decode cX6_occurs 1 = .ok (.iconst 0, 1) := by decide +kernel
theorem dX6_occurs_2 : decode cX6_occurs 2 = .ok (.iconst 3, 1) := by decide +kernel
theorem dX6_occurs_3 : decode cX6_occurs 3 = .ok (.invokestatic 101, 3) := by decide +kernel
theorem dX6_occurs_6 : decode cX6_occurs 6 = .ok (.ifCond .eq 27, 3) := by decide +kernel
theorem dX6_occurs_9 : decode cX6_occurs 9 = .ok (.bipush 10, 2) := by decide +kernel
theorem dX6_occurs_11 : decode cX6_occurs 11 = .ok (.iload_n 2, 1) := by decide +kernel
theorem dX6_occurs_12 : decode cX6_occurs 12 = .ok (.iadd, 1) := by decide +kernel
theorem dX6_occurs_13 : decode cX6_occurs 13 = .ok (.aload_n 0, 1) := by decide +kernel
theorem dX6_occurs_14 : decode cX6_occurs 14 = .ok (.getfield 15, 3) := by decide +kernel
theorem dX6_occurs_17 : decode cX6_occurs 17 = .ok (.bipush 8, 2) := by decide +kernel
theorem dX6_occurs_19 : decode cX6_occurs 19 = .ok (.iload_n 1, 1) := by decide +kernel
theorem dX6_occurs_20 : decode cX6_occurs 20 = .ok (.imul, 1) := by decide +kernel
theorem dX6_occurs_21 : decode cX6_occurs 21 = .ok (.aload_n 0, 1) := by decide +kernel
theorem dX6_occurs_22 : decode cX6_occurs 22 = .ok (.getfield 19, 3) := by decide +kernel
theorem dX6_occurs_25 : decode cX6_occurs 25 = .ok (.iload_n 1, 1) := by decide +kernel
theorem dX6_occurs_26 : decode cX6_occurs 26 = .ok (.iaload, 1) := by decide +kernel
theorem dX6_occurs_27 : decode cX6_occurs 27 = .ok (.invokestatic 146, 3) := by decide +kernel
theorem dX6_occurs_30 : decode cX6_occurs 30 = .ok (.goto 4, 3) := by decide +kernel
theorem dX6_occurs_33 : decode cX6_occurs 33 = .ok (.iconst 0, 1) := by decide +kernel
theorem dX6_occurs_34 : decode cX6_occurs 34 = .ok (.ireturn, 1) := by decide +kernel
theorem dX6_occurrences_0 : decode cX6_occurrences 0 = .ok (.iload_n 1, 1) := by decide +kernel
theorem dX6_occurrences_1 : decode cX6_occurrences 1 = .ok (.invokestatic 139, 3) := by decide +kernel
theorem dX6_occurrences_4 : decode cX6_occurrences 4 = .ok (.ifCond .ne 6, 3) := by decide +kernel
theorem dX6_occurrences_7 : decode cX6_occurrences 7 = .ok (.bipush (-2), 2) := by decide +kernel
theorem dX6_occurrences_9 : decode cX6_occurrences 9 = .ok (.ireturn, 1) := by decide +kernel
theorem dX6_occurrences_10 : decode cX6_occurrences 10 = .ok (.aload_n 0, 1) := by decide +kernel
theorem dX6_occurrences_11 : decode cX6_occurrences 11 = .ok (.iload_n 1, 1) := by decide +kernel
theorem dX6_occurrences_12 : decode cX6_occurrences 12 = .ok (.iload_n 2, 1) := by decide +kernel
theorem dX6_occurrences_13 : decode cX6_occurrences 13 = .ok (.invokevirtual 157, 3) := by decide +kernel
theorem dX6_occurrences_16 : decode cX6_occurrences 16 = .ok (.istore_n 3, 1) := by decide +kernel
theorem dX6_occurrences_17 : decode cX6_occurrences 17 = .ok (.iload_n 3, 1) := by decide +kernel
theorem dX6_occurrences_18 : decode cX6_occurrences 18 = .ok (.ifCond .ne 8, 3) := by decide +kernel
theorem dX6_occurrences_21 : decode cX6_occurrences 21 = .ok (.bipush (-3), 2) := by decide +kernel
theorem dX6_occurrences_23 : decode cX6_occurrences 23 = .ok (.goto 4, 3) := by decide +kernel
theorem dX6_occurrences_26 : decode cX6_occurrences 26 = .ok (.iload_n 3, 1) := by decide +kernel
theorem dX6_occurrences_27 : decode cX6_occurrences 27 = .ok (.ireturn, 1) := by decide +kernel
theorem dX6_better_0 : decode cX6_better 0 = .ok (.aload_n 0, 1) := by decide +kernel
theorem dX6_better_1 : decode cX6_better 1 = .ok (.iload_n 1, 1) := by decide +kernel
theorem dX6_better_2 : decode cX6_better 2 = .ok (.iload 4, 2) := by decide +kernel
theorem dX6_better_4 : decode cX6_better 4 = .ok (.invokestatic 160, 3) := by decide +kernel
theorem dX6_better_7 : decode cX6_better 7 = .ok (.aload_n 2, 1) := by decide +kernel
theorem dX6_better_8 : decode cX6_better 8 = .ok (.iload_n 3, 1) := by decide +kernel
theorem dX6_better_9 : decode cX6_better 9 = .ok (.iload 4, 2) := by decide +kernel
theorem dX6_better_11 : decode cX6_better 11 = .ok (.invokestatic 160, 3) := by decide +kernel
theorem dX6_better_14 : decode cX6_better 14 = .ok (.isub, 1) := by decide +kernel
theorem dX6_better_15 : decode cX6_better 15 = .ok (.istore 5, 2) := by decide +kernel
theorem dX6_better_17 : decode cX6_better 17 = .ok (.iload 5, 2) := by decide +kernel
theorem dX6_better_19 : decode cX6_better 19 = .ok (.ifCond .eq 6, 3) := by decide +kernel
theorem dX6_better_22 : decode cX6_better 22 = .ok (.iload 5, 2) := by decide +kernel
theorem dX6_better_24 : decode cX6_better 24 = .ok (.ireturn, 1) := by decide +kernel
theorem dX6_better_25 : decode cX6_better 25 = .ok (.aload_n 2, 1) := by decide +kernel
theorem dX6_better_26 : decode cX6_better 26 = .ok (.iload_n 3, 1) := by decide +kernel
theorem dX6_better_27 : decode cX6_better 27 = .ok (.iload 4, 2) := by decide +kernel
theorem dX6_better_29 : decode cX6_better 29 = .ok (.invokestatic 150, 3) := by decide +kernel
theorem dX6_better_32 : decode cX6_better 32 = .ok (.aload_n 0, 1) := by decide +kernel
theorem dX6_better_33 : decode cX6_better 33 = .ok (.iload_n 1, 1) := by decide +kernel
theorem dX6_better_34 : decode cX6_better 34 = .ok (.iload 4, 2) := by decide +kernel
theorem dX6_better_36 : decode cX6_better 36 = .ok (.invokestatic 150, 3) := by decide +kernel
theorem dX6_better_39 : decode cX6_better 39 = .ok (.isub, 1) := by decide +kernel
theorem dX6_better_40 : decode cX6_better 40 = .ok (.istore 6, 2) := by decide +kernel
theorem dX6_better_42 : decode cX6_better 42 = .ok (.iconst 0, 1) := by decide +kernel
theorem dX6_better_43 : decode cX6_better 43 = .ok (.istore 7, 2) := by decide +kernel
theorem dX6_better_45 : decode cX6_better 45 = .ok (.iload 7, 2) := by decide +kernel
theorem dX6_better_47 : decode cX6_better 47 = .ok (.iload 4, 2) := by decide +kernel
theorem dX6_better_49 : decode cX6_better 49 = .ok (.if_icmp .ge 29, 3) := by decide +kernel
theorem dX6_better_52 : decode cX6_better 52 = .ok (.iload 6, 2) := by decide +kernel
theorem dX6_better_54 : decode cX6_better 54 = .ok (.ifCond .ne 24, 3) := by decide +kernel
theorem dX6_better_57 : decode cX6_better 57 = .ok (.aload_n 2, 1) := by decide +kernel
theorem dX6_better_58 : decode cX6_better 58 = .ok (.iload_n 3, 1) := by decide +kernel
theorem dX6_better_59 : decode cX6_better 59 = .ok (.iload 7, 2) := by decide +kernel
theorem dX6_better_61 : decode cX6_better 61 = .ok (.iadd, 1) := by decide +kernel
theorem dX6_better_62 : decode cX6_better 62 = .ok (.iaload, 1) := by decide +kernel
theorem dX6_better_63 : decode cX6_better 63 = .ok (.aload_n 0, 1) := by decide +kernel
theorem dX6_better_64 : decode cX6_better 64 = .ok (.iload_n 1, 1) := by decide +kernel
theorem dX6_better_65 : decode cX6_better 65 = .ok (.iload 7, 2) := by decide +kernel
theorem dX6_better_67 : decode cX6_better 67 = .ok (.iadd, 1) := by decide +kernel
theorem dX6_better_68 : decode cX6_better 68 = .ok (.iaload, 1) := by decide +kernel
theorem dX6_better_69 : decode cX6_better 69 = .ok (.isub, 1) := by decide +kernel
theorem dX6_better_70 : decode cX6_better 70 = .ok (.istore 6, 2) := by decide +kernel
theorem dX6_better_72 : decode cX6_better 72 = .ok (.iinc 7 1, 3) := by decide +kernel
theorem dX6_better_75 : decode cX6_better 75 = .ok (.goto (-30), 3) := by decide +kernel
theorem dX6_better_78 : decode cX6_better 78 = .ok (.iload 6, 2) := by decide +kernel
theorem dX6_better_80 : decode cX6_better 80 = .ok (.ireturn, 1) := by decide +kernel
theorem dX6_compareQuality_0 : decode cX6_compareQuality 0 = .ok (.iload_n 1, 1) := by decide +kernel
theorem dX6_compareQuality_1 : decode cX6_compareQuality 1 = .ok (.invokestatic 139, 3) := by decide +kernel
theorem dX6_compareQuality_4 : decode cX6_compareQuality 4 = .ok (.ifCond .eq 10, 3) := by decide +kernel
theorem dX6_compareQuality_7 : decode cX6_compareQuality 7 = .ok (.iload_n 2, 1) := by decide +kernel
theorem dX6_compareQuality_8 : decode cX6_compareQuality 8 = .ok (.invokestatic 139, 3) := by decide +kernel
theorem dX6_compareQuality_11 : decode cX6_compareQuality 11 = .ok (.ifCond .ne 6, 3) := by decide +kernel
theorem dX6_compareQuality_14 : decode cX6_compareQuality 14 = .ok (.bipush (-2), 2) := by decide +kernel
theorem dX6_compareQuality_16 : decode cX6_compareQuality 16 = .ok (.ireturn, 1) := by decide +kernel
theorem dX6_compareQuality_17 : decode cX6_compareQuality 17 = .ok (.aload_n 0, 1) := by decide +kernel
theorem dX6_compareQuality_18 : decode cX6_compareQuality 18 = .ok (.getfield 19, 3) := by decide +kernel
theorem dX6_compareQuality_21 : decode cX6_compareQuality 21 = .ok (.iload_n 1, 1) := by decide +kernel
theorem dX6_compareQuality_22 : decode cX6_compareQuality 22 = .ok (.iaload, 1) := by decide +kernel
theorem dX6_compareQuality_23 : decode cX6_compareQuality 23 = .ok (.aload_n 0, 1) := by decide +kernel
theorem dX6_compareQuality_24 : decode cX6_compareQuality 24 = .ok (.getfield 19, 3) := by decide +kernel
theorem dX6_compareQuality_27 : decode cX6_compareQuality 27 = .ok (.iload_n 2, 1) := by decide +kernel
theorem dX6_compareQuality_28 : decode cX6_compareQuality 28 = .ok (.iaload, 1) := by decide +kernel
theorem dX6_compareQuality_29 : decode cX6_compareQuality 29 = .ok (.isub, 1) := by decide +kernel
theorem dX6_compareQuality_30 : decode cX6_compareQuality 30 = .ok (.istore_n 3, 1) := by decide +kernel
theorem dX6_compareQuality_31 : decode cX6_compareQuality 31 = .ok (.iload_n 3, 1) := by decide +kernel
theorem dX6_compareQuality_32 : decode cX6_compareQuality 32 = .ok (.ifCond .eq 7, 3) := by decide +kernel
theorem dX6_compareQuality_35 : decode cX6_compareQuality 35 = .ok (.iload_n 3, 1) := by decide +kernel
theorem dX6_compareQuality_36 : decode cX6_compareQuality 36 = .ok (.goto 28, 3) := by decide +kernel
theorem dX6_compareQuality_39 : decode cX6_compareQuality 39 = .ok (.aload_n 0, 1) := by decide +kernel
theorem dX6_compareQuality_40 : decode cX6_compareQuality 40 = .ok (.getfield 15, 3) := by decide +kernel
theorem dX6_compareQuality_43 : decode cX6_compareQuality 43 = .ok (.bipush 8, 2) := by decide +kernel
theorem dX6_compareQuality_45 : decode cX6_compareQuality 45 = .ok (.iload_n 1, 1) := by decide +kernel
theorem dX6_compareQuality_46 : decode cX6_compareQuality 46 = .ok (.imul, 1) := by decide +kernel
theorem dX6_compareQuality_47 : decode cX6_compareQuality 47 = .ok (.aload_n 0, 1) := by decide +kernel
theorem dX6_compareQuality_48 : decode cX6_compareQuality 48 = .ok (.getfield 15, 3) := by decide +kernel
theorem dX6_compareQuality_51 : decode cX6_compareQuality 51 = .ok (.bipush 8, 2) := by decide +kernel
theorem dX6_compareQuality_53 : decode cX6_compareQuality 53 = .ok (.iload_n 2, 1) := by decide +kernel
theorem dX6_compareQuality_54 : decode cX6_compareQuality 54 = .ok (.imul, 1) := by decide +kernel
theorem dX6_compareQuality_55 : decode cX6_compareQuality 55 = .ok (.aload_n 0, 1) := by decide +kernel
theorem dX6_compareQuality_56 : decode cX6_compareQuality 56 = .ok (.getfield 19, 3) := by decide +kernel
theorem dX6_compareQuality_59 : decode cX6_compareQuality 59 = .ok (.iload_n 1, 1) := by decide +kernel
theorem dX6_compareQuality_60 : decode cX6_compareQuality 60 = .ok (.iaload, 1) := by decide +kernel
theorem dX6_compareQuality_61 : decode cX6_compareQuality 61 = .ok (.invokestatic 163, 3) := by decide +kernel
theorem dX6_compareQuality_64 : decode cX6_compareQuality 64 = .ok (.istore_n 3, 1) := by decide +kernel
theorem dX6_compareQuality_65 : decode cX6_compareQuality 65 = .ok (.iload_n 3, 1) := by decide +kernel
theorem dX6_compareQuality_66 : decode cX6_compareQuality 66 = .ok (.ifCond .le 7, 3) := by decide +kernel
theorem dX6_compareQuality_69 : decode cX6_compareQuality 69 = .ok (.iconst 2, 1) := by decide +kernel
theorem dX6_compareQuality_70 : decode cX6_compareQuality 70 = .ok (.goto 12, 3) := by decide +kernel
theorem dX6_compareQuality_73 : decode cX6_compareQuality 73 = .ok (.iload_n 3, 1) := by decide +kernel
theorem dX6_compareQuality_74 : decode cX6_compareQuality 74 = .ok (.ifCond .ne 7, 3) := by decide +kernel
theorem dX6_compareQuality_77 : decode cX6_compareQuality 77 = .ok (.iconst 1, 1) := by decide +kernel
theorem dX6_compareQuality_78 : decode cX6_compareQuality 78 = .ok (.goto 4, 3) := by decide +kernel
theorem dX6_compareQuality_81 : decode cX6_compareQuality 81 = .ok (.iconst 0, 1) := by decide +kernel
theorem dX6_compareQuality_82 : decode cX6_compareQuality 82 = .ok (.ireturn, 1) := by decide +kernel
theorem dX6_exchange_0 : decode cX6_exchange 0 = .ok (.bipush 8, 2) := by decide +kernel
theorem dX6_exchange_2 : decode cX6_exchange 2 = .ok (.iload_n 1, 1) := by decide +kernel
theorem dX6_exchange_3 : decode cX6_exchange 3 = .ok (.imul, 1) := by decide +kernel
theorem dX6_exchange_4 : decode cX6_exchange 4 = .ok (.istore 4, 2) := by decide +kernel
theorem dX6_exchange_6 : decode cX6_exchange 6 = .ok (.iload 4, 2) := by decide +kernel
theorem dX6_exchange_8 : decode cX6_exchange 8 = .ok (.bipush 8, 2) := by decide +kernel
theorem dX6_exchange_10 : decode cX6_exchange 10 = .ok (.iload_n 1, 1) := by decide +kernel
theorem dX6_exchange_11 : decode cX6_exchange 11 = .ok (.imul, 1) := by decide +kernel
theorem dX6_exchange_12 : decode cX6_exchange 12 = .ok (.aload_n 0, 1) := by decide +kernel
theorem dX6_exchange_13 : decode cX6_exchange 13 = .ok (.getfield 19, 3) := by decide +kernel
theorem dX6_exchange_16 : decode cX6_exchange 16 = .ok (.iload_n 1, 1) := by decide +kernel
theorem dX6_exchange_17 : decode cX6_exchange 17 = .ok (.iaload, 1) := by decide +kernel
theorem dX6_exchange_18 : decode cX6_exchange 18 = .ok (.iadd, 1) := by decide +kernel
theorem dX6_exchange_19 : decode cX6_exchange 19 = .ok (.if_icmp .ge 38, 3) := by decide +kernel
theorem dX6_exchange_22 : decode cX6_exchange 22 = .ok (.aload_n 0, 1) := by decide +kernel
theorem dX6_exchange_23 : decode cX6_exchange 23 = .ok (.getfield 15, 3) := by decide +kernel
theorem dX6_exchange_26 : decode cX6_exchange 26 = .ok (.iload 4, 2) := by decide +kernel
theorem dX6_exchange_28 : decode cX6_exchange 28 = .ok (.aload_n 0, 1) := by decide +kernel
theorem dX6_exchange_29 : decode cX6_exchange 29 = .ok (.getfield 15, 3) := by decide +kernel
theorem dX6_exchange_32 : decode cX6_exchange 32 = .ok (.iload 4, 2) := by decide +kernel
theorem dX6_exchange_34 : decode cX6_exchange 34 = .ok (.iaload, 1) := by decide +kernel
theorem dX6_exchange_35 : decode cX6_exchange 35 = .ok (.iload_n 2, 1) := by decide +kernel
theorem dX6_exchange_36 : decode cX6_exchange 36 = .ok (.if_icmp .ne 7, 3) := by decide +kernel
theorem dX6_exchange_39 : decode cX6_exchange 39 = .ok (.iload_n 3, 1) := by decide +kernel
theorem dX6_exchange_40 : decode cX6_exchange 40 = .ok (.goto 10, 3) := by decide +kernel
theorem dX6_exchange_43 : decode cX6_exchange 43 = .ok (.aload_n 0, 1) := by decide +kernel
theorem dX6_exchange_44 : decode cX6_exchange 44 = .ok (.getfield 15, 3) := by decide +kernel
theorem dX6_exchange_47 : decode cX6_exchange 47 = .ok (.iload 4, 2) := by decide +kernel
theorem dX6_exchange_49 : decode cX6_exchange 49 = .ok (.iaload, 1) := by decide +kernel
theorem dX6_exchange_50 : decode cX6_exchange 50 = .ok (.iastore, 1) := by decide +kernel
theorem dX6_exchange_51 : decode cX6_exchange 51 = .ok (.iinc 4 1, 3) := by decide +kernel
theorem dX6_exchange_54 : decode cX6_exchange 54 = .ok (.goto (-48), 3) := by decide +kernel
theorem dX6_exchange_57 : decode cX6_exchange 57 = .ok (.aload_n 0, 1) := by decide +kernel
theorem dX6_exchange_58 : decode cX6_exchange 58 = .ok (.iload_n 1, 1) := by decide +kernel
theorem dX6_exchange_59 : decode cX6_exchange 59 = .ok (.invokevirtual 131, 3) := by decide +kernel
theorem dX6_exchange_62 : decode cX6_exchange 62 = .ok (.aload_n 0, 1) := by decide +kernel
theorem dX6_exchange_63 : decode cX6_exchange 63 = .ok (.iload_n 1, 1) := by decide +kernel
theorem dX6_exchange_64 : decode cX6_exchange 64 = .ok (.invokevirtual 154, 3) := by decide +kernel
theorem dX6_exchange_67 : decode cX6_exchange 67 = .ok (.ireturn, 1) := by decide +kernel
theorem dX6_replace_0 : decode cX6_replace 0 = .ok (.iload_n 1, 1) := by decide +kernel
theorem dX6_replace_1 : decode cX6_replace 1 = .ok (.invokestatic 139, 3) := by decide +kernel
theorem dX6_replace_4 : decode cX6_replace 4 = .ok (.ifCond .ne 6, 3) := by decide +kernel
theorem dX6_replace_7 : decode cX6_replace 7 = .ok (.bipush (-2), 2) := by decide +kernel
theorem dX6_replace_9 : decode cX6_replace 9 = .ok (.ireturn, 1) := by decide +kernel
theorem dX6_replace_10 : decode cX6_replace 10 = .ok (.aload_n 0, 1) := by decide +kernel
theorem dX6_replace_11 : decode cX6_replace 11 = .ok (.iload_n 1, 1) := by decide +kernel
theorem dX6_replace_12 : decode cX6_replace 12 = .ok (.iload_n 2, 1) := by decide +kernel
theorem dX6_replace_13 : decode cX6_replace 13 = .ok (.invokevirtual 157, 3) := by decide +kernel
theorem dX6_replace_16 : decode cX6_replace 16 = .ok (.ifCond .ne 6, 3) := by decide +kernel
theorem dX6_replace_19 : decode cX6_replace 19 = .ok (.bipush (-3), 2) := by decide +kernel
theorem dX6_replace_21 : decode cX6_replace 21 = .ok (.ireturn, 1) := by decide +kernel
theorem dX6_replace_22 : decode cX6_replace 22 = .ok (.iload_n 3, 1) := by decide +kernel
theorem dX6_replace_23 : decode cX6_replace 23 = .ok (.iconst 0, 1) := by decide +kernel
theorem dX6_replace_24 : decode cX6_replace 24 = .ok (.aload_n 0, 1) := by decide +kernel
theorem dX6_replace_25 : decode cX6_replace 25 = .ok (.getfield 9, 3) := by decide +kernel
theorem dX6_replace_28 : decode cX6_replace 28 = .ok (.iconst 1, 1) := by decide +kernel
theorem dX6_replace_29 : decode cX6_replace 29 = .ok (.isub, 1) := by decide +kernel
theorem dX6_replace_30 : decode cX6_replace 30 = .ok (.invokestatic 101, 3) := by decide +kernel
theorem dX6_replace_33 : decode cX6_replace 33 = .ok (.ifCond .eq 16, 3) := by decide +kernel
theorem dX6_replace_36 : decode cX6_replace 36 = .ok (.aload_n 0, 1) := by decide +kernel
theorem dX6_replace_37 : decode cX6_replace 37 = .ok (.iload_n 1, 1) := by decide +kernel
theorem dX6_replace_38 : decode cX6_replace 38 = .ok (.bipush 10, 2) := by decide +kernel
theorem dX6_replace_40 : decode cX6_replace 40 = .ok (.iload_n 2, 1) := by decide +kernel
theorem dX6_replace_41 : decode cX6_replace 41 = .ok (.iadd, 1) := by decide +kernel
theorem dX6_replace_42 : decode cX6_replace 42 = .ok (.iload_n 3, 1) := by decide +kernel
theorem dX6_replace_43 : decode cX6_replace 43 = .ok (.invokevirtual 167, 3) := by decide +kernel
theorem dX6_replace_46 : decode cX6_replace 46 = .ok (.goto 4, 3) := by decide +kernel
theorem dX6_replace_49 : decode cX6_replace 49 = .ok (.iconst (-1), 1) := by decide +kernel
theorem dX6_replace_50 : decode cX6_replace 50 = .ok (.ireturn, 1) := by decide +kernel
theorem dX6_merge_0 : decode cX6_merge 0 = .ok (.iload_n 1, 1) := by decide +kernel
theorem dX6_merge_1 : decode cX6_merge 1 = .ok (.invokestatic 139, 3) := by decide +kernel
theorem dX6_merge_4 : decode cX6_merge 4 = .ok (.ifCond .ne 6, 3) := by decide +kernel
theorem dX6_merge_7 : decode cX6_merge 7 = .ok (.bipush (-2), 2) := by decide +kernel
theorem dX6_merge_9 : decode cX6_merge 9 = .ok (.ireturn, 1) := by decide +kernel
theorem dX6_merge_10 : decode cX6_merge 10 = .ok (.aload_n 0, 1) := by decide +kernel
theorem dX6_merge_11 : decode cX6_merge 11 = .ok (.iload_n 1, 1) := by decide +kernel
theorem dX6_merge_12 : decode cX6_merge 12 = .ok (.iload_n 2, 1) := by decide +kernel
theorem dX6_merge_13 : decode cX6_merge 13 = .ok (.invokevirtual 157, 3) := by decide +kernel
theorem dX6_merge_16 : decode cX6_merge 16 = .ok (.ifCond .eq 12, 3) := by decide +kernel
theorem dX6_merge_19 : decode cX6_merge 19 = .ok (.aload_n 0, 1) := by decide +kernel
theorem dX6_merge_20 : decode cX6_merge 20 = .ok (.iload_n 1, 1) := by decide +kernel
theorem dX6_merge_21 : decode cX6_merge 21 = .ok (.iload_n 3, 1) := by decide +kernel
theorem dX6_merge_22 : decode cX6_merge 22 = .ok (.invokevirtual 157, 3) := by decide +kernel
theorem dX6_merge_25 : decode cX6_merge 25 = .ok (.ifCond .ne 6, 3) := by decide +kernel
theorem dX6_merge_28 : decode cX6_merge 28 = .ok (.bipush (-3), 2) := by decide +kernel
theorem dX6_merge_30 : decode cX6_merge 30 = .ok (.ireturn, 1) := by decide +kernel
theorem dX6_merge_31 : decode cX6_merge 31 = .ok (.iload_n 2, 1) := by decide +kernel
theorem dX6_merge_32 : decode cX6_merge 32 = .ok (.iload_n 3, 1) := by decide +kernel
theorem dX6_merge_33 : decode cX6_merge 33 = .ok (.if_icmp .ne 7, 3) := by decide +kernel
theorem dX6_merge_36 : decode cX6_merge 36 = .ok (.iconst (-1), 1) := by decide +kernel
theorem dX6_merge_37 : decode cX6_merge 37 = .ok (.goto 16, 3) := by decide +kernel
theorem dX6_merge_40 : decode cX6_merge 40 = .ok (.aload_n 0, 1) := by decide +kernel
theorem dX6_merge_41 : decode cX6_merge 41 = .ok (.iload_n 1, 1) := by decide +kernel
theorem dX6_merge_42 : decode cX6_merge 42 = .ok (.bipush 10, 2) := by decide +kernel
theorem dX6_merge_44 : decode cX6_merge 44 = .ok (.iload_n 2, 1) := by decide +kernel
theorem dX6_merge_45 : decode cX6_merge 45 = .ok (.iadd, 1) := by decide +kernel
theorem dX6_merge_46 : decode cX6_merge 46 = .ok (.bipush 10, 2) := by decide +kernel
theorem dX6_merge_48 : decode cX6_merge 48 = .ok (.iload_n 3, 1) := by decide +kernel
theorem dX6_merge_49 : decode cX6_merge 49 = .ok (.iadd, 1) := by decide +kernel
theorem dX6_merge_50 : decode cX6_merge 50 = .ok (.invokevirtual 167, 3) := by decide +kernel
theorem dX6_merge_53 : decode cX6_merge 53 = .ok (.ireturn, 1) := by decide +kernel
theorem dX6_split_0 : decode cX6_split 0 = .ok (.iload_n 1, 1) := by decide +kernel
theorem dX6_split_1 : decode cX6_split 1 = .ok (.invokestatic 139, 3) := by decide +kernel
theorem dX6_split_4 : decode cX6_split 4 = .ok (.ifCond .ne 6, 3) := by decide +kernel
theorem dX6_split_7 : decode cX6_split 7 = .ok (.bipush (-2), 2) := by decide +kernel
theorem dX6_split_9 : decode cX6_split 9 = .ok (.ireturn, 1) := by decide +kernel
theorem dX6_split_10 : decode cX6_split 10 = .ok (.aload_n 0, 1) := by decide +kernel
theorem dX6_split_11 : decode cX6_split 11 = .ok (.iload_n 1, 1) := by decide +kernel
theorem dX6_split_12 : decode cX6_split 12 = .ok (.iload_n 2, 1) := by decide +kernel
theorem dX6_split_13 : decode cX6_split 13 = .ok (.invokevirtual 157, 3) := by decide +kernel
theorem dX6_split_16 : decode cX6_split 16 = .ok (.istore_n 3, 1) := by decide +kernel
theorem dX6_split_17 : decode cX6_split 17 = .ok (.iload_n 3, 1) := by decide +kernel
theorem dX6_split_18 : decode cX6_split 18 = .ok (.ifCond .ne 6, 3) := by decide +kernel
theorem dX6_split_21 : decode cX6_split 21 = .ok (.bipush (-3), 2) := by decide +kernel
theorem dX6_split_23 : decode cX6_split 23 = .ok (.ireturn, 1) := by decide +kernel
theorem dX6_split_24 : decode cX6_split 24 = .ok (.aload_n 0, 1) := by decide +kernel
theorem dX6_split_25 : decode cX6_split 25 = .ok (.iload_n 1, 1) := by decide +kernel
theorem dX6_split_26 : decode cX6_split 26 = .ok (.invokevirtual 154, 3) := by decide +kernel
theorem dX6_split_29 : decode cX6_split 29 = .ok (.iconst 4, 1) := by decide +kernel
theorem dX6_split_30 : decode cX6_split 30 = .ok (.if_icmp .eq 16, 3) := by decide +kernel
theorem dX6_split_33 : decode cX6_split 33 = .ok (.aload_n 0, 1) := by decide +kernel
theorem dX6_split_34 : decode cX6_split 34 = .ok (.getfield 19, 3) := by decide +kernel
theorem dX6_split_37 : decode cX6_split 37 = .ok (.iload_n 1, 1) := by decide +kernel
theorem dX6_split_38 : decode cX6_split 38 = .ok (.iaload, 1) := by decide +kernel
theorem dX6_split_39 : decode cX6_split 39 = .ok (.iload_n 3, 1) := by decide +kernel
theorem dX6_split_40 : decode cX6_split 40 = .ok (.iadd, 1) := by decide +kernel
theorem dX6_split_41 : decode cX6_split 41 = .ok (.bipush 8, 2) := by decide +kernel
theorem dX6_split_43 : decode cX6_split 43 = .ok (.if_icmp .le 6, 3) := by decide +kernel
theorem dX6_split_46 : decode cX6_split 46 = .ok (.bipush (-4), 2) := by decide +kernel
theorem dX6_split_48 : decode cX6_split 48 = .ok (.ireturn, 1) := by decide +kernel
theorem dX6_split_49 : decode cX6_split 49 = .ok (.bipush 10, 2) := by decide +kernel
theorem dX6_split_51 : decode cX6_split 51 = .ok (.aload_n 0, 1) := by decide +kernel
theorem dX6_split_52 : decode cX6_split 52 = .ok (.iload_n 1, 1) := by decide +kernel
theorem dX6_split_53 : decode cX6_split 53 = .ok (.invokevirtual 154, 3) := by decide +kernel
theorem dX6_split_56 : decode cX6_split 56 = .ok (.iadd, 1) := by decide +kernel
theorem dX6_split_57 : decode cX6_split 57 = .ok (.istore 4, 2) := by decide +kernel
theorem dX6_split_59 : decode cX6_split 59 = .ok (.aload_n 0, 1) := by decide +kernel
theorem dX6_split_60 : decode cX6_split 60 = .ok (.iconst 0, 1) := by decide +kernel
theorem dX6_split_61 : decode cX6_split 61 = .ok (.putfield 112, 3) := by decide +kernel
theorem dX6_split_64 : decode cX6_split 64 = .ok (.bipush 8, 2) := by decide +kernel
theorem dX6_split_66 : decode cX6_split 66 = .ok (.iload_n 1, 1) := by decide +kernel
theorem dX6_split_67 : decode cX6_split 67 = .ok (.imul, 1) := by decide +kernel
theorem dX6_split_68 : decode cX6_split 68 = .ok (.istore 5, 2) := by decide +kernel
theorem dX6_split_70 : decode cX6_split 70 = .ok (.iload 5, 2) := by decide +kernel
theorem dX6_split_72 : decode cX6_split 72 = .ok (.bipush 8, 2) := by decide +kernel
theorem dX6_split_74 : decode cX6_split 74 = .ok (.iload_n 1, 1) := by decide +kernel
theorem dX6_split_75 : decode cX6_split 75 = .ok (.imul, 1) := by decide +kernel
theorem dX6_split_76 : decode cX6_split 76 = .ok (.aload_n 0, 1) := by decide +kernel
theorem dX6_split_77 : decode cX6_split 77 = .ok (.getfield 19, 3) := by decide +kernel
theorem dX6_split_80 : decode cX6_split 80 = .ok (.iload_n 1, 1) := by decide +kernel
theorem dX6_split_81 : decode cX6_split 81 = .ok (.iaload, 1) := by decide +kernel
theorem dX6_split_82 : decode cX6_split 82 = .ok (.iadd, 1) := by decide +kernel
theorem dX6_split_83 : decode cX6_split 83 = .ok (.if_icmp .ge 70, 3) := by decide +kernel
theorem dX6_split_86 : decode cX6_split 86 = .ok (.aload_n 0, 1) := by decide +kernel
theorem dX6_split_87 : decode cX6_split 87 = .ok (.getfield 37, 3) := by decide +kernel
theorem dX6_split_90 : decode cX6_split 90 = .ok (.aload_n 0, 1) := by decide +kernel
theorem dX6_split_91 : decode cX6_split 91 = .ok (.getfield 112, 3) := by decide +kernel
theorem dX6_split_94 : decode cX6_split 94 = .ok (.aload_n 0, 1) := by decide +kernel
theorem dX6_split_95 : decode cX6_split 95 = .ok (.getfield 15, 3) := by decide +kernel
theorem dX6_split_98 : decode cX6_split 98 = .ok (.iload 5, 2) := by decide +kernel
theorem dX6_split_100 : decode cX6_split 100 = .ok (.iaload, 1) := by decide +kernel
theorem dX6_split_101 : decode cX6_split 101 = .ok (.iastore, 1) := by decide +kernel
theorem dX6_split_102 : decode cX6_split 102 = .ok (.aload_n 0, 1) := by decide +kernel
theorem dX6_split_103 : decode cX6_split 103 = .ok (.dup, 1) := by decide +kernel
theorem dX6_split_104 : decode cX6_split 104 = .ok (.getfield 112, 3) := by decide +kernel
theorem dX6_split_107 : decode cX6_split 107 = .ok (.iconst 1, 1) := by decide +kernel
theorem dX6_split_108 : decode cX6_split 108 = .ok (.iadd, 1) := by decide +kernel
theorem dX6_split_109 : decode cX6_split 109 = .ok (.putfield 112, 3) := by decide +kernel
theorem dX6_split_112 : decode cX6_split 112 = .ok (.aload_n 0, 1) := by decide +kernel
theorem dX6_split_113 : decode cX6_split 113 = .ok (.getfield 15, 3) := by decide +kernel
theorem dX6_split_116 : decode cX6_split 116 = .ok (.iload 5, 2) := by decide +kernel
theorem dX6_split_118 : decode cX6_split 118 = .ok (.iaload, 1) := by decide +kernel
theorem dX6_split_119 : decode cX6_split 119 = .ok (.bipush 10, 2) := by decide +kernel
theorem dX6_split_121 : decode cX6_split 121 = .ok (.iload_n 2, 1) := by decide +kernel
theorem dX6_split_122 : decode cX6_split 122 = .ok (.iadd, 1) := by decide +kernel
theorem dX6_split_123 : decode cX6_split 123 = .ok (.if_icmp .ne 24, 3) := by decide +kernel
theorem dX6_split_126 : decode cX6_split 126 = .ok (.aload_n 0, 1) := by decide +kernel
theorem dX6_split_127 : decode cX6_split 127 = .ok (.getfield 37, 3) := by decide +kernel
theorem dX6_split_130 : decode cX6_split 130 = .ok (.aload_n 0, 1) := by decide +kernel
theorem dX6_split_131 : decode cX6_split 131 = .ok (.getfield 112, 3) := by decide +kernel
theorem dX6_split_134 : decode cX6_split 134 = .ok (.iload 4, 2) := by decide +kernel
theorem dX6_split_136 : decode cX6_split 136 = .ok (.iastore, 1) := by decide +kernel
theorem dX6_split_137 : decode cX6_split 137 = .ok (.aload_n 0, 1) := by decide +kernel
theorem dX6_split_138 : decode cX6_split 138 = .ok (.dup, 1) := by decide +kernel
theorem dX6_split_139 : decode cX6_split 139 = .ok (.getfield 112, 3) := by decide +kernel
theorem dX6_split_142 : decode cX6_split 142 = .ok (.iconst 1, 1) := by decide +kernel
theorem dX6_split_143 : decode cX6_split 143 = .ok (.iadd, 1) := by decide +kernel
theorem dX6_split_144 : decode cX6_split 144 = .ok (.putfield 112, 3) := by decide +kernel
theorem dX6_split_147 : decode cX6_split 147 = .ok (.iinc 5 1, 3) := by decide +kernel
theorem dX6_split_150 : decode cX6_split 150 = .ok (.goto (-80), 3) := by decide +kernel
theorem dX6_split_153 : decode cX6_split 153 = .ok (.aload_n 0, 1) := by decide +kernel
theorem dX6_split_154 : decode cX6_split 154 = .ok (.iload_n 1, 1) := by decide +kernel
theorem dX6_split_155 : decode cX6_split 155 = .ok (.invokevirtual 143, 3) := by decide +kernel
theorem dX6_split_158 : decode cX6_split 158 = .ok (.ireturn, 1) := by decide +kernel
theorem dX6_transform_0 : decode cX6_transform 0 = .ok (.aload_n 0, 1) := by decide +kernel
theorem dX6_transform_1 : decode cX6_transform 1 = .ok (.ldc 171, 2) := by decide +kernel
theorem dX6_transform_3 : decode cX6_transform 3 = .ok (.invokevirtual 173, 3) := by decide +kernel
theorem dX6_transform_6 : decode cX6_transform 6 = .ok (.ifCond .eq 7, 3) := by decide +kernel
theorem dX6_transform_9 : decode cX6_transform 9 = .ok (.iconst 0, 1) := by decide +kernel
theorem dX6_transform_10 : decode cX6_transform 10 = .ok (.goto 56, 3) := by decide +kernel
theorem dX6_transform_13 : decode cX6_transform 13 = .ok (.aload_n 0, 1) := by decide +kernel
theorem dX6_transform_14 : decode cX6_transform 14 = .ok (.ldc 177, 2) := by decide +kernel
theorem dX6_transform_16 : decode cX6_transform 16 = .ok (.invokevirtual 173, 3) := by decide +kernel
theorem dX6_transform_19 : decode cX6_transform 19 = .ok (.ifCond .eq 7, 3) := by decide +kernel
theorem dX6_transform_22 : decode cX6_transform 22 = .ok (.iconst 1, 1) := by decide +kernel
theorem dX6_transform_23 : decode cX6_transform 23 = .ok (.goto 43, 3) := by decide +kernel
theorem dX6_transform_26 : decode cX6_transform 26 = .ok (.aload_n 0, 1) := by decide +kernel
theorem dX6_transform_27 : decode cX6_transform 27 = .ok (.ldc 179, 2) := by decide +kernel
theorem dX6_transform_29 : decode cX6_transform 29 = .ok (.invokevirtual 173, 3) := by decide +kernel
theorem dX6_transform_32 : decode cX6_transform 32 = .ok (.ifCond .eq 7, 3) := by decide +kernel
theorem dX6_transform_35 : decode cX6_transform 35 = .ok (.iconst 2, 1) := by decide +kernel
theorem dX6_transform_36 : decode cX6_transform 36 = .ok (.goto 30, 3) := by decide +kernel
theorem dX6_transform_39 : decode cX6_transform 39 = .ok (.aload_n 0, 1) := by decide +kernel
theorem dX6_transform_40 : decode cX6_transform 40 = .ok (.ldc 181, 2) := by decide +kernel
theorem dX6_transform_42 : decode cX6_transform 42 = .ok (.invokevirtual 173, 3) := by decide +kernel
theorem dX6_transform_45 : decode cX6_transform 45 = .ok (.ifCond .eq 7, 3) := by decide +kernel
theorem dX6_transform_48 : decode cX6_transform 48 = .ok (.iconst 3, 1) := by decide +kernel
theorem dX6_transform_49 : decode cX6_transform 49 = .ok (.goto 17, 3) := by decide +kernel
theorem dX6_transform_52 : decode cX6_transform 52 = .ok (.aload_n 0, 1) := by decide +kernel
theorem dX6_transform_53 : decode cX6_transform 53 = .ok (.ldc 183, 2) := by decide +kernel
theorem dX6_transform_55 : decode cX6_transform 55 = .ok (.invokevirtual 173, 3) := by decide +kernel
theorem dX6_transform_58 : decode cX6_transform 58 = .ok (.ifCond .eq 7, 3) := by decide +kernel
theorem dX6_transform_61 : decode cX6_transform 61 = .ok (.iconst 4, 1) := by decide +kernel
theorem dX6_transform_62 : decode cX6_transform 62 = .ok (.goto 4, 3) := by decide +kernel
theorem dX6_transform_65 : decode cX6_transform 65 = .ok (.iconst (-1), 1) := by decide +kernel
theorem dX6_transform_66 : decode cX6_transform 66 = .ok (.istore_n 2, 1) := by decide +kernel
theorem dX6_transform_67 : decode cX6_transform 67 = .ok (.aload_n 0, 1) := by decide +kernel
theorem dX6_transform_68 : decode cX6_transform 68 = .ok (.iconst 0, 1) := by decide +kernel
theorem dX6_transform_69 : decode cX6_transform 69 = .ok (.putfield 105, 3) := by decide +kernel
theorem dX6_transform_72 : decode cX6_transform 72 = .ok (.iload_n 1, 1) := by decide +kernel
theorem dX6_transform_73 : decode cX6_transform 73 = .ok (.invokestatic 139, 3) := by decide +kernel
theorem dX6_transform_76 : decode cX6_transform 76 = .ok (.ifCond .ne 6, 3) := by decide +kernel
theorem dX6_transform_79 : decode cX6_transform 79 = .ok (.bipush (-2), 2) := by decide +kernel
theorem dX6_transform_81 : decode cX6_transform 81 = .ok (.ireturn, 1) := by decide +kernel
theorem dX6_transform_82 : decode cX6_transform 82 = .ok (.iload_n 2, 1) := by decide +kernel
theorem dX6_transform_83 : decode cX6_transform 83 = .ok (.ifCond .ge 6, 3) := by decide +kernel
theorem dX6_transform_86 : decode cX6_transform 86 = .ok (.bipush (-5), 2) := by decide +kernel
theorem dX6_transform_88 : decode cX6_transform 88 = .ok (.ireturn, 1) := by decide +kernel
theorem dX6_transform_89 : decode cX6_transform 89 = .ok (.aload_n 0, 1) := by decide +kernel
theorem dX6_transform_90 : decode cX6_transform 90 = .ok (.getfield 19, 3) := by decide +kernel
theorem dX6_transform_93 : decode cX6_transform 93 = .ok (.iload_n 1, 1) := by decide +kernel
theorem dX6_transform_94 : decode cX6_transform 94 = .ok (.iaload, 1) := by decide +kernel
theorem dX6_transform_95 : decode cX6_transform 95 = .ok (.istore_n 3, 1) := by decide +kernel
theorem dX6_transform_96 : decode cX6_transform 96 = .ok (.aload_n 0, 1) := by decide +kernel
theorem dX6_transform_97 : decode cX6_transform 97 = .ok (.iload_n 2, 1) := by decide +kernel
theorem dX6_transform_98 : decode cX6_transform 98 = .ok (.iconst 2, 1) := by decide +kernel
theorem dX6_transform_99 : decode cX6_transform 99 = .ok (.if_icmp .ne 14, 3) := by decide +kernel
theorem dX6_transform_102 : decode cX6_transform 102 = .ok (.iload_n 3, 1) := by decide +kernel
theorem dX6_transform_103 : decode cX6_transform 103 = .ok (.iconst 1, 1) := by decide +kernel
theorem dX6_transform_104 : decode cX6_transform 104 = .ok (.if_icmp .le 9, 3) := by decide +kernel
theorem dX6_transform_107 : decode cX6_transform 107 = .ok (.iload_n 3, 1) := by decide +kernel
theorem dX6_transform_108 : decode cX6_transform 108 = .ok (.iconst 1, 1) := by decide +kernel
theorem dX6_transform_109 : decode cX6_transform 109 = .ok (.isub, 1) := by decide +kernel
theorem dX6_transform_110 : decode cX6_transform 110 = .ok (.goto 4, 3) := by decide +kernel
theorem dX6_transform_113 : decode cX6_transform 113 = .ok (.iload_n 3, 1) := by decide +kernel
theorem dX6_transform_114 : decode cX6_transform 114 = .ok (.putfield 112, 3) := by decide +kernel
theorem dX6_transform_117 : decode cX6_transform 117 = .ok (.iconst 0, 1) := by decide +kernel
theorem dX6_transform_118 : decode cX6_transform 118 = .ok (.istore 4, 2) := by decide +kernel
theorem dX6_transform_120 : decode cX6_transform 120 = .ok (.iload 4, 2) := by decide +kernel
theorem dX6_transform_122 : decode cX6_transform 122 = .ok (.aload_n 0, 1) := by decide +kernel
theorem dX6_transform_123 : decode cX6_transform 123 = .ok (.getfield 112, 3) := by decide +kernel
theorem dX6_transform_126 : decode cX6_transform 126 = .ok (.if_icmp .ge 111, 3) := by decide +kernel
theorem dX6_transform_129 : decode cX6_transform 129 = .ok (.aload_n 0, 1) := by decide +kernel
theorem dX6_transform_130 : decode cX6_transform 130 = .ok (.getfield 15, 3) := by decide +kernel
theorem dX6_transform_133 : decode cX6_transform 133 = .ok (.bipush 8, 2) := by decide +kernel
theorem dX6_transform_135 : decode cX6_transform 135 = .ok (.iload_n 1, 1) := by decide +kernel
theorem dX6_transform_136 : decode cX6_transform 136 = .ok (.imul, 1) := by decide +kernel
theorem dX6_transform_137 : decode cX6_transform 137 = .ok (.iload_n 2, 1) := by decide +kernel
theorem dX6_transform_138 : decode cX6_transform 138 = .ok (.ifCond .ne 12, 3) := by decide +kernel
theorem dX6_transform_141 : decode cX6_transform 141 = .ok (.iload_n 3, 1) := by decide +kernel
theorem dX6_transform_142 : decode cX6_transform 142 = .ok (.iconst 1, 1) := by decide +kernel
theorem dX6_transform_143 : decode cX6_transform 143 = .ok (.isub, 1) := by decide +kernel
theorem dX6_transform_144 : decode cX6_transform 144 = .ok (.iload 4, 2) := by decide +kernel
theorem dX6_transform_146 : decode cX6_transform 146 = .ok (.isub, 1) := by decide +kernel
theorem dX6_transform_147 : decode cX6_transform 147 = .ok (.goto 5, 3) := by decide +kernel
theorem dX6_transform_150 : decode cX6_transform 150 = .ok (.iload 4, 2) := by decide +kernel
theorem dX6_transform_152 : decode cX6_transform 152 = .ok (.iadd, 1) := by decide +kernel
theorem dX6_transform_153 : decode cX6_transform 153 = .ok (.iaload, 1) := by decide +kernel
theorem dX6_transform_154 : decode cX6_transform 154 = .ok (.istore 5, 2) := by decide +kernel
theorem dX6_transform_156 : decode cX6_transform 156 = .ok (.iload 5, 2) := by decide +kernel
theorem dX6_transform_158 : decode cX6_transform 158 = .ok (.bipush 10, 2) := by decide +kernel
theorem dX6_transform_160 : decode cX6_transform 160 = .ok (.if_icmp .ge 7, 3) := by decide +kernel
theorem dX6_transform_163 : decode cX6_transform 163 = .ok (.iconst 1, 1) := by decide +kernel
theorem dX6_transform_164 : decode cX6_transform 164 = .ok (.goto 4, 3) := by decide +kernel
theorem dX6_transform_167 : decode cX6_transform 167 = .ok (.iconst 0, 1) := by decide +kernel
theorem dX6_transform_168 : decode cX6_transform 168 = .ok (.istore 6, 2) := by decide +kernel
theorem dX6_transform_170 : decode cX6_transform 170 = .ok (.iload_n 2, 1) := by decide +kernel
theorem dX6_transform_171 : decode cX6_transform 171 = .ok (.iconst 1, 1) := by decide +kernel
theorem dX6_transform_172 : decode cX6_transform 172 = .ok (.if_icmp .ne 26, 3) := by decide +kernel
theorem dX6_transform_175 : decode cX6_transform 175 = .ok (.aload_n 0, 1) := by decide +kernel
theorem dX6_transform_176 : decode cX6_transform 176 = .ok (.getfield 9, 3) := by decide +kernel
theorem dX6_transform_179 : decode cX6_transform 179 = .ok (.iconst 1, 1) := by decide +kernel
theorem dX6_transform_180 : decode cX6_transform 180 = .ok (.if_icmp .le 18, 3) := by decide +kernel
theorem dX6_transform_183 : decode cX6_transform 183 = .ok (.iload 5, 2) := by decide +kernel
theorem dX6_transform_185 : decode cX6_transform 185 = .ok (.iconst 2, 1) := by decide +kernel
theorem dX6_transform_186 : decode cX6_transform 186 = .ok (.if_icmp .ge 12, 3) := by decide +kernel
theorem dX6_transform_189 : decode cX6_transform 189 = .ok (.iconst 1, 1) := by decide +kernel
theorem dX6_transform_190 : decode cX6_transform 190 = .ok (.iload 5, 2) := by decide +kernel
theorem dX6_transform_192 : decode cX6_transform 192 = .ok (.isub, 1) := by decide +kernel
theorem dX6_transform_193 : decode cX6_transform 193 = .ok (.istore 5, 2) := by decide +kernel
theorem dX6_transform_195 : decode cX6_transform 195 = .ok (.goto 27, 3) := by decide +kernel
theorem dX6_transform_198 : decode cX6_transform 198 = .ok (.iload_n 2, 1) := by decide +kernel
theorem dX6_transform_199 : decode cX6_transform 199 = .ok (.iconst 3, 1) := by decide +kernel
theorem dX6_transform_200 : decode cX6_transform 200 = .ok (.if_icmp .ne 8, 3) := by decide +kernel
theorem dX6_transform_203 : decode cX6_transform 203 = .ok (.iload 6, 2) := by decide +kernel
theorem dX6_transform_205 : decode cX6_transform 205 = .ok (.ifCond .eq 13, 3) := by decide +kernel
theorem dX6_transform_208 : decode cX6_transform 208 = .ok (.iload_n 2, 1) := by decide +kernel
theorem dX6_transform_209 : decode cX6_transform 209 = .ok (.iconst 4, 1) := by decide +kernel
theorem dX6_transform_210 : decode cX6_transform 210 = .ok (.if_icmp .ne 12, 3) := by decide +kernel
theorem dX6_transform_213 : decode cX6_transform 213 = .ok (.iload 6, 2) := by decide +kernel
theorem dX6_transform_215 : decode cX6_transform 215 = .ok (.ifCond .eq 7, 3) := by decide +kernel
theorem dX6_transform_218 : decode cX6_transform 218 = .ok (.bipush 10, 2) := by decide +kernel
theorem dX6_transform_220 : decode cX6_transform 220 = .ok (.istore 5, 2) := by decide +kernel
theorem dX6_transform_222 : decode cX6_transform 222 = .ok (.aload_n 0, 1) := by decide +kernel
theorem dX6_transform_223 : decode cX6_transform 223 = .ok (.getfield 37, 3) := by decide +kernel
theorem dX6_transform_226 : decode cX6_transform 226 = .ok (.iload 4, 2) := by decide +kernel
theorem dX6_transform_228 : decode cX6_transform 228 = .ok (.iload 5, 2) := by decide +kernel
theorem dX6_transform_230 : decode cX6_transform 230 = .ok (.iastore, 1) := by decide +kernel
theorem dX6_transform_231 : decode cX6_transform 231 = .ok (.iinc 4 1, 3) := by decide +kernel
theorem dX6_transform_234 : decode cX6_transform 234 = .ok (.goto (-114), 3) := by decide +kernel
theorem dX6_transform_237 : decode cX6_transform 237 = .ok (.aload_n 0, 1) := by decide +kernel
theorem dX6_transform_238 : decode cX6_transform 238 = .ok (.iload_n 1, 1) := by decide +kernel
theorem dX6_transform_239 : decode cX6_transform 239 = .ok (.invokevirtual 143, 3) := by decide +kernel
theorem dX6_transform_242 : decode cX6_transform 242 = .ok (.ireturn, 1) := by decide +kernel
theorem dX6_match_0 : decode cX6_match 0 = .ok (.aload_n 0, 1) := by decide +kernel
theorem dX6_match_1 : decode cX6_match 1 = .ok (.aload_n 1, 1) := by decide +kernel
theorem dX6_match_2 : decode cX6_match 2 = .ok (.putfield 185, 3) := by decide +kernel
theorem dX6_match_5 : decode cX6_match 5 = .ok (.aload_n 0, 1) := by decide +kernel
theorem dX6_match_6 : decode cX6_match 6 = .ok (.iload_n 2, 1) := by decide +kernel
theorem dX6_match_7 : decode cX6_match 7 = .ok (.putfield 188, 3) := by decide +kernel
theorem dX6_match_10 : decode cX6_match 10 = .ok (.aload_n 0, 1) := by decide +kernel
theorem dX6_match_11 : decode cX6_match 11 = .ok (.iload_n 3, 1) := by decide +kernel
theorem dX6_match_12 : decode cX6_match 12 = .ok (.putfield 191, 3) := by decide +kernel
theorem dX6_match_15 : decode cX6_match 15 = .ok (.aload_n 0, 1) := by decide +kernel
theorem dX6_match_16 : decode cX6_match 16 = .ok (.aload 4, 2) := by decide +kernel
theorem dX6_match_18 : decode cX6_match 18 = .ok (.putfield 194, 3) := by decide +kernel
theorem dX6_match_21 : decode cX6_match 21 = .ok (.aload_n 0, 1) := by decide +kernel
theorem dX6_match_22 : decode cX6_match 22 = .ok (.iload 5, 2) := by decide +kernel
theorem dX6_match_24 : decode cX6_match 24 = .ok (.putfield 197, 3) := by decide +kernel
theorem dX6_match_27 : decode cX6_match 27 = .ok (.aload_n 0, 1) := by decide +kernel
theorem dX6_match_28 : decode cX6_match 28 = .ok (.iconst 1, 1) := by decide +kernel
theorem dX6_match_29 : decode cX6_match 29 = .ok (.iload 7, 2) := by decide +kernel
theorem dX6_match_31 : decode cX6_match 31 = .ok (.isub, 1) := by decide +kernel
theorem dX6_match_32 : decode cX6_match 32 = .ok (.putfield 200, 3) := by decide +kernel
theorem dX6_match_35 : decode cX6_match 35 = .ok (.aload_n 0, 1) := by decide +kernel
theorem dX6_match_36 : decode cX6_match 36 = .ok (.iload 8, 2) := by decide +kernel
theorem dX6_match_38 : decode cX6_match 38 = .ok (.putfield 203, 3) := by decide +kernel
theorem dX6_match_41 : decode cX6_match 41 = .ok (.aload_n 0, 1) := by decide +kernel
theorem dX6_match_42 : decode cX6_match 42 = .ok (.iconst 0, 1) := by decide +kernel
theorem dX6_match_43 : decode cX6_match 43 = .ok (.putfield 206, 3) := by decide +kernel
theorem dX6_match_46 : decode cX6_match 46 = .ok (.iconst 0, 1) := by decide +kernel
theorem dX6_match_47 : decode cX6_match 47 = .ok (.istore 9, 2) := by decide +kernel
theorem dX6_match_49 : decode cX6_match 49 = .ok (.iload 9, 2) := by decide +kernel
theorem dX6_match_51 : decode cX6_match 51 = .ok (.iconst 4, 1) := by decide +kernel
theorem dX6_match_52 : decode cX6_match 52 = .ok (.if_icmp .ge 27, 3) := by decide +kernel
theorem dX6_match_55 : decode cX6_match 55 = .ok (.aload_n 0, 1) := by decide +kernel
theorem dX6_match_56 : decode cX6_match 56 = .ok (.getfield 43, 3) := by decide +kernel
theorem dX6_match_59 : decode cX6_match 59 = .ok (.iload 9, 2) := by decide +kernel
theorem dX6_match_61 : decode cX6_match 61 = .ok (.bipush 10, 2) := by decide +kernel
theorem dX6_match_63 : decode cX6_match 63 = .ok (.iload 9, 2) := by decide +kernel
theorem dX6_match_65 : decode cX6_match 65 = .ok (.iadd, 1) := by decide +kernel
theorem dX6_match_66 : decode cX6_match 66 = .ok (.aload_n 1, 1) := by decide +kernel
theorem dX6_match_67 : decode cX6_match 67 = .ok (.iload_n 2, 1) := by decide +kernel
theorem dX6_match_68 : decode cX6_match 68 = .ok (.iload_n 3, 1) := by decide +kernel
theorem dX6_match_69 : decode cX6_match 69 = .ok (.invokestatic 146, 3) := by decide +kernel
theorem dX6_match_72 : decode cX6_match 72 = .ok (.iastore, 1) := by decide +kernel
theorem dX6_match_73 : decode cX6_match 73 = .ok (.iinc 9 1, 3) := by decide +kernel
theorem dX6_match_76 : decode cX6_match 76 = .ok (.goto (-27), 3) := by decide +kernel
theorem dX6_match_79 : decode cX6_match 79 = .ok (.aload_n 0, 1) := by decide +kernel
theorem dX6_match_80 : decode cX6_match 80 = .ok (.iconst 0, 1) := by decide +kernel
theorem dX6_match_81 : decode cX6_match 81 = .ok (.iload 6, 2) := by decide +kernel
theorem dX6_match_83 : decode cX6_match 83 = .ok (.aload_n 1, 1) := by decide +kernel
theorem dX6_match_84 : decode cX6_match 84 = .ok (.iload_n 2, 1) := by decide +kernel
theorem dX6_match_85 : decode cX6_match 85 = .ok (.iload_n 3, 1) := by decide +kernel
theorem dX6_match_86 : decode cX6_match 86 = .ok (.invokestatic 160, 3) := by decide +kernel
theorem dX6_match_89 : decode cX6_match 89 = .ok (.isub, 1) := by decide +kernel
theorem dX6_match_90 : decode cX6_match 90 = .ok (.invokevirtual 209, 3) := by decide +kernel
theorem dX6_match_93 : decode cX6_match 93 = .ok (.aload_n 0, 1) := by decide +kernel
theorem dX6_match_94 : decode cX6_match 94 = .ok (.getfield 206, 3) := by decide +kernel
theorem dX6_match_97 : decode cX6_match 97 = .ok (.ireturn, 1) := by decide +kernel
theorem dX6_choose_0 : decode cX6_choose 0 = .ok (.iload_n 1, 1) := by decide +kernel
theorem dX6_choose_1 : decode cX6_choose 1 = .ok (.iconst 4, 1) := by decide +kernel
theorem dX6_choose_2 : decode cX6_choose 2 = .ok (.if_icmp .ne 57, 3) := by decide +kernel
theorem dX6_choose_5 : decode cX6_choose 5 = .ok (.iload_n 2, 1) := by decide +kernel
theorem dX6_choose_6 : decode cX6_choose 6 = .ok (.ifCond .ne 52, 3) := by decide +kernel
theorem dX6_choose_9 : decode cX6_choose 9 = .ok (.aload_n 0, 1) := by decide +kernel
theorem dX6_choose_10 : decode cX6_choose 10 = .ok (.invokevirtual 213, 3) := by decide +kernel
theorem dX6_choose_13 : decode cX6_choose 13 = .ok (.ifCond .eq 45, 3) := by decide +kernel
theorem dX6_choose_16 : decode cX6_choose 16 = .ok (.iconst 0, 1) := by decide +kernel
theorem dX6_choose_17 : decode cX6_choose 17 = .ok (.istore_n 3, 1) := by decide +kernel
theorem dX6_choose_18 : decode cX6_choose 18 = .ok (.iload_n 3, 1) := by decide +kernel
theorem dX6_choose_19 : decode cX6_choose 19 = .ok (.iconst 4, 1) := by decide +kernel
theorem dX6_choose_20 : decode cX6_choose 20 = .ok (.if_icmp .ge 28, 3) := by decide +kernel
theorem dX6_choose_23 : decode cX6_choose 23 = .ok (.aload_n 0, 1) := by decide +kernel
theorem dX6_choose_24 : decode cX6_choose 24 = .ok (.getfield 206, 3) := by decide +kernel
theorem dX6_choose_27 : decode cX6_choose 27 = .ok (.ifCond .ne 21, 3) := by decide +kernel
theorem dX6_choose_30 : decode cX6_choose 30 = .ok (.aload_n 0, 1) := by decide +kernel
theorem dX6_choose_31 : decode cX6_choose 31 = .ok (.getfield 49, 3) := by decide +kernel
theorem dX6_choose_34 : decode cX6_choose 34 = .ok (.iload_n 3, 1) := by decide +kernel
theorem dX6_choose_35 : decode cX6_choose 35 = .ok (.aload_n 0, 1) := by decide +kernel
theorem dX6_choose_36 : decode cX6_choose 36 = .ok (.getfield 46, 3) := by decide +kernel
theorem dX6_choose_39 : decode cX6_choose 39 = .ok (.iload_n 3, 1) := by decide +kernel
theorem dX6_choose_40 : decode cX6_choose 40 = .ok (.iaload, 1) := by decide +kernel
theorem dX6_choose_41 : decode cX6_choose 41 = .ok (.iastore, 1) := by decide +kernel
theorem dX6_choose_42 : decode cX6_choose 42 = .ok (.iinc 3 1, 3) := by decide +kernel
theorem dX6_choose_45 : decode cX6_choose 45 = .ok (.goto (-27), 3) := by decide +kernel
theorem dX6_choose_48 : decode cX6_choose 48 = .ok (.aload_n 0, 1) := by decide +kernel
theorem dX6_choose_49 : decode cX6_choose 49 = .ok (.dup, 1) := by decide +kernel
theorem dX6_choose_50 : decode cX6_choose 50 = .ok (.getfield 206, 3) := by decide +kernel
theorem dX6_choose_53 : decode cX6_choose 53 = .ok (.iconst 1, 1) := by decide +kernel
theorem dX6_choose_54 : decode cX6_choose 54 = .ok (.iadd, 1) := by decide +kernel
theorem dX6_choose_55 : decode cX6_choose 55 = .ok (.putfield 206, 3) := by decide +kernel
theorem dX6_choose_58 : decode cX6_choose 58 = .ok (.return_, 1) := by decide +kernel
theorem dX6_choose_59 : decode cX6_choose 59 = .ok (.aload_n 0, 1) := by decide +kernel
theorem dX6_choose_60 : decode cX6_choose 60 = .ok (.getfield 43, 3) := by decide +kernel
theorem dX6_choose_63 : decode cX6_choose 63 = .ok (.iload_n 1, 1) := by decide +kernel
theorem dX6_choose_64 : decode cX6_choose 64 = .ok (.iaload, 1) := by decide +kernel
theorem dX6_choose_65 : decode cX6_choose 65 = .ok (.ifCond .ne 19, 3) := by decide +kernel
theorem dX6_choose_68 : decode cX6_choose 68 = .ok (.aload_n 0, 1) := by decide +kernel
theorem dX6_choose_69 : decode cX6_choose 69 = .ok (.getfield 46, 3) := by decide +kernel
theorem dX6_choose_72 : decode cX6_choose 72 = .ok (.iload_n 1, 1) := by decide +kernel
theorem dX6_choose_73 : decode cX6_choose 73 = .ok (.iconst 0, 1) := by decide +kernel
theorem dX6_choose_74 : decode cX6_choose 74 = .ok (.iastore, 1) := by decide +kernel
theorem dX6_choose_75 : decode cX6_choose 75 = .ok (.aload_n 0, 1) := by decide +kernel
theorem dX6_choose_76 : decode cX6_choose 76 = .ok (.iload_n 1, 1) := by decide +kernel
theorem dX6_choose_77 : decode cX6_choose 77 = .ok (.iconst 1, 1) := by decide +kernel
theorem dX6_choose_78 : decode cX6_choose 78 = .ok (.iadd, 1) := by decide +kernel
theorem dX6_choose_79 : decode cX6_choose 79 = .ok (.iload_n 2, 1) := by decide +kernel
theorem dX6_choose_80 : decode cX6_choose 80 = .ok (.invokevirtual 209, 3) := by decide +kernel
theorem dX6_choose_83 : decode cX6_choose 83 = .ok (.return_, 1) := by decide +kernel
theorem dX6_choose_84 : decode cX6_choose 84 = .ok (.aload_n 0, 1) := by decide +kernel
theorem dX6_choose_85 : decode cX6_choose 85 = .ok (.getfield 200, 3) := by decide +kernel
theorem dX6_choose_88 : decode cX6_choose 88 = .ok (.istore_n 3, 1) := by decide +kernel
theorem dX6_choose_89 : decode cX6_choose 89 = .ok (.iload_n 3, 1) := by decide +kernel
theorem dX6_choose_90 : decode cX6_choose 90 = .ok (.aload_n 0, 1) := by decide +kernel
theorem dX6_choose_91 : decode cX6_choose 91 = .ok (.getfield 43, 3) := by decide +kernel
theorem dX6_choose_94 : decode cX6_choose 94 = .ok (.iload_n 1, 1) := by decide +kernel
theorem dX6_choose_95 : decode cX6_choose 95 = .ok (.iaload, 1) := by decide +kernel
theorem dX6_choose_96 : decode cX6_choose 96 = .ok (.imul, 1) := by decide +kernel
theorem dX6_choose_97 : decode cX6_choose 97 = .ok (.iload_n 2, 1) := by decide +kernel
theorem dX6_choose_98 : decode cX6_choose 98 = .ok (.if_icmp .gt 44, 3) := by decide +kernel
theorem dX6_choose_101 : decode cX6_choose 101 = .ok (.aload_n 0, 1) := by decide +kernel
theorem dX6_choose_102 : decode cX6_choose 102 = .ok (.getfield 206, 3) := by decide +kernel
theorem dX6_choose_105 : decode cX6_choose 105 = .ok (.aload_n 0, 1) := by decide +kernel
theorem dX6_choose_106 : decode cX6_choose 106 = .ok (.getfield 203, 3) := by decide +kernel
theorem dX6_choose_109 : decode cX6_choose 109 = .ok (.if_icmp .ge 33, 3) := by decide +kernel
theorem dX6_choose_112 : decode cX6_choose 112 = .ok (.aload_n 0, 1) := by decide +kernel
theorem dX6_choose_113 : decode cX6_choose 113 = .ok (.getfield 46, 3) := by decide +kernel
theorem dX6_choose_116 : decode cX6_choose 116 = .ok (.iload_n 1, 1) := by decide +kernel
theorem dX6_choose_117 : decode cX6_choose 117 = .ok (.iload_n 3, 1) := by decide +kernel
theorem dX6_choose_118 : decode cX6_choose 118 = .ok (.iastore, 1) := by decide +kernel
theorem dX6_choose_119 : decode cX6_choose 119 = .ok (.aload_n 0, 1) := by decide +kernel
theorem dX6_choose_120 : decode cX6_choose 120 = .ok (.iload_n 1, 1) := by decide +kernel
theorem dX6_choose_121 : decode cX6_choose 121 = .ok (.iconst 1, 1) := by decide +kernel
theorem dX6_choose_122 : decode cX6_choose 122 = .ok (.iadd, 1) := by decide +kernel
theorem dX6_choose_123 : decode cX6_choose 123 = .ok (.iload_n 2, 1) := by decide +kernel
theorem dX6_choose_124 : decode cX6_choose 124 = .ok (.iload_n 3, 1) := by decide +kernel
theorem dX6_choose_125 : decode cX6_choose 125 = .ok (.aload_n 0, 1) := by decide +kernel
theorem dX6_choose_126 : decode cX6_choose 126 = .ok (.getfield 43, 3) := by decide +kernel
theorem dX6_choose_129 : decode cX6_choose 129 = .ok (.iload_n 1, 1) := by decide +kernel
theorem dX6_choose_130 : decode cX6_choose 130 = .ok (.iaload, 1) := by decide +kernel
theorem dX6_choose_131 : decode cX6_choose 131 = .ok (.imul, 1) := by decide +kernel
theorem dX6_choose_132 : decode cX6_choose 132 = .ok (.isub, 1) := by decide +kernel
theorem dX6_choose_133 : decode cX6_choose 133 = .ok (.invokevirtual 209, 3) := by decide +kernel
theorem dX6_choose_136 : decode cX6_choose 136 = .ok (.iinc 3 1, 3) := by decide +kernel
theorem dX6_choose_139 : decode cX6_choose 139 = .ok (.goto (-50), 3) := by decide +kernel
theorem dX6_choose_142 : decode cX6_choose 142 = .ok (.return_, 1) := by decide +kernel
theorem dX6_produces_0 : decode cX6_produces 0 = .ok (.iconst 0, 1) := by decide +kernel
theorem dX6_produces_1 : decode cX6_produces 1 = .ok (.istore_n 1, 1) := by decide +kernel
theorem dX6_produces_2 : decode cX6_produces 2 = .ok (.iload_n 1, 1) := by decide +kernel
theorem dX6_produces_3 : decode cX6_produces 3 = .ok (.iconst 4, 1) := by decide +kernel
theorem dX6_produces_4 : decode cX6_produces 4 = .ok (.if_icmp .ge 16, 3) := by decide +kernel
theorem dX6_produces_7 : decode cX6_produces 7 = .ok (.aload_n 0, 1) := by decide +kernel
theorem dX6_produces_8 : decode cX6_produces 8 = .ok (.getfield 52, 3) := by decide +kernel
theorem dX6_produces_11 : decode cX6_produces 11 = .ok (.iload_n 1, 1) := by decide +kernel
theorem dX6_produces_12 : decode cX6_produces 12 = .ok (.iconst (-1), 1) := by decide +kernel
theorem dX6_produces_13 : decode cX6_produces 13 = .ok (.iastore, 1) := by decide +kernel
theorem dX6_produces_14 : decode cX6_produces 14 = .ok (.iinc 1 1, 3) := by decide +kernel
theorem dX6_produces_17 : decode cX6_produces 17 = .ok (.goto (-15), 3) := by decide +kernel
theorem dX6_produces_20 : decode cX6_produces 20 = .ok (.aload_n 0, 1) := by decide +kernel
theorem dX6_produces_21 : decode cX6_produces 21 = .ok (.getfield 197, 3) := by decide +kernel
theorem dX6_produces_24 : decode cX6_produces 24 = .ok (.istore_n 1, 1) := by decide +kernel
theorem dX6_produces_25 : decode cX6_produces 25 = .ok (.aload_n 0, 1) := by decide +kernel
theorem dX6_produces_26 : decode cX6_produces 26 = .ok (.getfield 188, 3) := by decide +kernel
theorem dX6_produces_29 : decode cX6_produces 29 = .ok (.istore_n 2, 1) := by decide +kernel
theorem dX6_produces_30 : decode cX6_produces 30 = .ok (.iload_n 2, 1) := by decide +kernel
theorem dX6_produces_31 : decode cX6_produces 31 = .ok (.aload_n 0, 1) := by decide +kernel
theorem dX6_produces_32 : decode cX6_produces 32 = .ok (.getfield 188, 3) := by decide +kernel
theorem dX6_produces_35 : decode cX6_produces 35 = .ok (.aload_n 0, 1) := by decide +kernel
theorem dX6_produces_36 : decode cX6_produces 36 = .ok (.getfield 191, 3) := by decide +kernel
theorem dX6_produces_39 : decode cX6_produces 39 = .ok (.iadd, 1) := by decide +kernel
theorem dX6_produces_40 : decode cX6_produces 40 = .ok (.if_icmp .ge 134, 3) := by decide +kernel
theorem dX6_produces_43 : decode cX6_produces 43 = .ok (.aload_n 0, 1) := by decide +kernel
theorem dX6_produces_44 : decode cX6_produces 44 = .ok (.getfield 185, 3) := by decide +kernel
theorem dX6_produces_47 : decode cX6_produces 47 = .ok (.iload_n 2, 1) := by decide +kernel
theorem dX6_produces_48 : decode cX6_produces 48 = .ok (.iaload, 1) := by decide +kernel
theorem dX6_produces_49 : decode cX6_produces 49 = .ok (.istore_n 3, 1) := by decide +kernel
theorem dX6_produces_50 : decode cX6_produces 50 = .ok (.iload_n 3, 1) := by decide +kernel
theorem dX6_produces_51 : decode cX6_produces 51 = .ok (.bipush 10, 2) := by decide +kernel
theorem dX6_produces_53 : decode cX6_produces 53 = .ok (.if_icmp .ge 21, 3) := by decide +kernel
theorem dX6_produces_56 : decode cX6_produces 56 = .ok (.aload_n 0, 1) := by decide +kernel
theorem dX6_produces_57 : decode cX6_produces 57 = .ok (.getfield 194, 3) := by decide +kernel
theorem dX6_produces_60 : decode cX6_produces 60 = .ok (.iload_n 1, 1) := by decide +kernel
theorem dX6_produces_61 : decode cX6_produces 61 = .ok (.iaload, 1) := by decide +kernel
theorem dX6_produces_62 : decode cX6_produces 62 = .ok (.iload_n 3, 1) := by decide +kernel
theorem dX6_produces_63 : decode cX6_produces 63 = .ok (.if_icmp .eq 5, 3) := by decide +kernel
theorem dX6_produces_66 : decode cX6_produces 66 = .ok (.iconst 0, 1) := by decide +kernel
theorem dX6_produces_67 : decode cX6_produces 67 = .ok (.ireturn, 1) := by decide +kernel
theorem dX6_produces_68 : decode cX6_produces 68 = .ok (.iinc 1 1, 3) := by decide +kernel
theorem dX6_produces_71 : decode cX6_produces 71 = .ok (.goto 97, 3) := by decide +kernel
theorem dX6_produces_74 : decode cX6_produces 74 = .ok (.iload_n 3, 1) := by decide +kernel
theorem dX6_produces_75 : decode cX6_produces 75 = .ok (.bipush 10, 2) := by decide +kernel
theorem dX6_produces_77 : decode cX6_produces 77 = .ok (.isub, 1) := by decide +kernel
theorem dX6_produces_78 : decode cX6_produces 78 = .ok (.istore 4, 2) := by decide +kernel
theorem dX6_produces_80 : decode cX6_produces 80 = .ok (.aload_n 0, 1) := by decide +kernel
theorem dX6_produces_81 : decode cX6_produces 81 = .ok (.getfield 52, 3) := by decide +kernel
theorem dX6_produces_84 : decode cX6_produces 84 = .ok (.iload 4, 2) := by decide +kernel
theorem dX6_produces_86 : decode cX6_produces 86 = .ok (.aload_n 0, 1) := by decide +kernel
theorem dX6_produces_87 : decode cX6_produces 87 = .ok (.getfield 52, 3) := by decide +kernel
theorem dX6_produces_90 : decode cX6_produces 90 = .ok (.iload 4, 2) := by decide +kernel
theorem dX6_produces_92 : decode cX6_produces 92 = .ok (.iaload, 1) := by decide +kernel
theorem dX6_produces_93 : decode cX6_produces 93 = .ok (.ifCond .ge 7, 3) := by decide +kernel
theorem dX6_produces_96 : decode cX6_produces 96 = .ok (.iload_n 1, 1) := by decide +kernel
theorem dX6_produces_97 : decode cX6_produces 97 = .ok (.goto 10, 3) := by decide +kernel
theorem dX6_produces_100 : decode cX6_produces 100 = .ok (.aload_n 0, 1) := by decide +kernel
theorem dX6_produces_101 : decode cX6_produces 101 = .ok (.getfield 52, 3) := by decide +kernel
theorem dX6_produces_104 : decode cX6_produces 104 = .ok (.iload 4, 2) := by decide +kernel
theorem dX6_produces_106 : decode cX6_produces 106 = .ok (.iaload, 1) := by decide +kernel
theorem dX6_produces_107 : decode cX6_produces 107 = .ok (.iastore, 1) := by decide +kernel
theorem dX6_produces_108 : decode cX6_produces 108 = .ok (.iconst 0, 1) := by decide +kernel
theorem dX6_produces_109 : decode cX6_produces 109 = .ok (.istore 5, 2) := by decide +kernel
theorem dX6_produces_111 : decode cX6_produces 111 = .ok (.iload 5, 2) := by decide +kernel
theorem dX6_produces_113 : decode cX6_produces 113 = .ok (.aload_n 0, 1) := by decide +kernel
theorem dX6_produces_114 : decode cX6_produces 114 = .ok (.getfield 46, 3) := by decide +kernel
theorem dX6_produces_117 : decode cX6_produces 117 = .ok (.iload 4, 2) := by decide +kernel
theorem dX6_produces_119 : decode cX6_produces 119 = .ok (.iaload, 1) := by decide +kernel
theorem dX6_produces_120 : decode cX6_produces 120 = .ok (.if_icmp .ge 38, 3) := by decide +kernel
theorem dX6_produces_123 : decode cX6_produces 123 = .ok (.aload_n 0, 1) := by decide +kernel
theorem dX6_produces_124 : decode cX6_produces 124 = .ok (.getfield 194, 3) := by decide +kernel
theorem dX6_produces_127 : decode cX6_produces 127 = .ok (.iload_n 1, 1) := by decide +kernel
theorem dX6_produces_128 : decode cX6_produces 128 = .ok (.iload 5, 2) := by decide +kernel
theorem dX6_produces_130 : decode cX6_produces 130 = .ok (.iadd, 1) := by decide +kernel
theorem dX6_produces_131 : decode cX6_produces 131 = .ok (.iaload, 1) := by decide +kernel
theorem dX6_produces_132 : decode cX6_produces 132 = .ok (.aload_n 0, 1) := by decide +kernel
theorem dX6_produces_133 : decode cX6_produces 133 = .ok (.getfield 194, 3) := by decide +kernel
theorem dX6_produces_136 : decode cX6_produces 136 = .ok (.aload_n 0, 1) := by decide +kernel
theorem dX6_produces_137 : decode cX6_produces 137 = .ok (.getfield 52, 3) := by decide +kernel
theorem dX6_produces_140 : decode cX6_produces 140 = .ok (.iload 4, 2) := by decide +kernel
theorem dX6_produces_142 : decode cX6_produces 142 = .ok (.iaload, 1) := by decide +kernel
theorem dX6_produces_143 : decode cX6_produces 143 = .ok (.iload 5, 2) := by decide +kernel
theorem dX6_produces_145 : decode cX6_produces 145 = .ok (.iadd, 1) := by decide +kernel
theorem dX6_produces_146 : decode cX6_produces 146 = .ok (.iaload, 1) := by decide +kernel
theorem dX6_produces_147 : decode cX6_produces 147 = .ok (.if_icmp .eq 5, 3) := by decide +kernel
theorem dX6_produces_150 : decode cX6_produces 150 = .ok (.iconst 0, 1) := by decide +kernel
theorem dX6_produces_151 : decode cX6_produces 151 = .ok (.ireturn, 1) := by decide +kernel
theorem dX6_produces_152 : decode cX6_produces 152 = .ok (.iinc 5 1, 3) := by decide +kernel
theorem dX6_produces_155 : decode cX6_produces 155 = .ok (.goto (-44), 3) := by decide +kernel
theorem dX6_produces_158 : decode cX6_produces 158 = .ok (.iload_n 1, 1) := by decide +kernel
theorem dX6_produces_159 : decode cX6_produces 159 = .ok (.aload_n 0, 1) := by decide +kernel
theorem dX6_produces_160 : decode cX6_produces 160 = .ok (.getfield 46, 3) := by decide +kernel
theorem dX6_produces_163 : decode cX6_produces 163 = .ok (.iload 4, 2) := by decide +kernel
theorem dX6_produces_165 : decode cX6_produces 165 = .ok (.iaload, 1) := by decide +kernel
theorem dX6_produces_166 : decode cX6_produces 166 = .ok (.iadd, 1) := by decide +kernel
theorem dX6_produces_167 : decode cX6_produces 167 = .ok (.istore_n 1, 1) := by decide +kernel
theorem dX6_produces_168 : decode cX6_produces 168 = .ok (.iinc 2 1, 3) := by decide +kernel
theorem dX6_produces_171 : decode cX6_produces 171 = .ok (.goto (-141), 3) := by decide +kernel
theorem dX6_produces_174 : decode cX6_produces 174 = .ok (.iconst 1, 1) := by decide +kernel
theorem dX6_produces_175 : decode cX6_produces 175 = .ok (.ireturn, 1) := by decide +kernel
theorem dX6_matchesOf_0 : decode cX6_matchesOf 0 = .ok (.aload_n 0, 1) := by decide +kernel
theorem dX6_matchesOf_1 : decode cX6_matchesOf 1 = .ok (.aload_n 0, 1) := by decide +kernel
theorem dX6_matchesOf_2 : decode cX6_matchesOf 2 = .ok (.getfield 15, 3) := by decide +kernel
theorem dX6_matchesOf_5 : decode cX6_matchesOf 5 = .ok (.bipush 8, 2) := by decide +kernel
theorem dX6_matchesOf_7 : decode cX6_matchesOf 7 = .ok (.iload_n 1, 1) := by decide +kernel
theorem dX6_matchesOf_8 : decode cX6_matchesOf 8 = .ok (.imul, 1) := by decide +kernel
theorem dX6_matchesOf_9 : decode cX6_matchesOf 9 = .ok (.aload_n 0, 1) := by decide +kernel
theorem dX6_matchesOf_10 : decode cX6_matchesOf 10 = .ok (.getfield 19, 3) := by decide +kernel
theorem dX6_matchesOf_13 : decode cX6_matchesOf 13 = .ok (.iload_n 1, 1) := by decide +kernel
theorem dX6_matchesOf_14 : decode cX6_matchesOf 14 = .ok (.iaload, 1) := by decide +kernel
theorem dX6_matchesOf_15 : decode cX6_matchesOf 15 = .ok (.aload_n 0, 1) := by decide +kernel
theorem dX6_matchesOf_16 : decode cX6_matchesOf 16 = .ok (.getfield 37, 3) := by decide +kernel
theorem dX6_matchesOf_19 : decode cX6_matchesOf 19 = .ok (.iconst 0, 1) := by decide +kernel
theorem dX6_matchesOf_20 : decode cX6_matchesOf 20 = .ok (.aload_n 0, 1) := by decide +kernel
theorem dX6_matchesOf_21 : decode cX6_matchesOf 21 = .ok (.getfield 112, 3) := by decide +kernel
theorem dX6_matchesOf_24 : decode cX6_matchesOf 24 = .ok (.iload_n 2, 1) := by decide +kernel
theorem dX6_matchesOf_25 : decode cX6_matchesOf 25 = .ok (.iload_n 3, 1) := by decide +kernel
theorem dX6_matchesOf_26 : decode cX6_matchesOf 26 = .ok (.invokevirtual 217, 3) := by decide +kernel
theorem dX6_matchesOf_29 : decode cX6_matchesOf 29 = .ok (.ireturn, 1) := by decide +kernel
theorem dX6_takeWord_0 : decode cX6_takeWord 0 = .ok (.aload_n 0, 1) := by decide +kernel
theorem dX6_takeWord_1 : decode cX6_takeWord 1 = .ok (.iconst 0, 1) := by decide +kernel
theorem dX6_takeWord_2 : decode cX6_takeWord 2 = .ok (.invokevirtual 135, 3) := by decide +kernel
theorem dX6_takeWord_5 : decode cX6_takeWord 5 = .ok (.istore_n 3, 1) := by decide +kernel
theorem dX6_takeWord_6 : decode cX6_takeWord 6 = .ok (.iload_n 1, 1) := by decide +kernel
theorem dX6_takeWord_7 : decode cX6_takeWord 7 = .ok (.invokestatic 139, 3) := by decide +kernel
theorem dX6_takeWord_10 : decode cX6_takeWord 10 = .ok (.ifCond .ne 8, 3) := by decide +kernel
theorem dX6_takeWord_13 : decode cX6_takeWord 13 = .ok (.bipush (-2), 2) := by decide +kernel
theorem dX6_takeWord_15 : decode cX6_takeWord 15 = .ok (.goto 24, 3) := by decide +kernel
theorem dX6_takeWord_18 : decode cX6_takeWord 18 = .ok (.iload_n 2, 1) := by decide +kernel
theorem dX6_takeWord_19 : decode cX6_takeWord 19 = .ok (.invokestatic 221, 3) := by decide +kernel
theorem dX6_takeWord_22 : decode cX6_takeWord 22 = .ok (.ifCond .ne 7, 3) := by decide +kernel
theorem dX6_takeWord_25 : decode cX6_takeWord 25 = .ok (.iconst (-1), 1) := by decide +kernel
theorem dX6_takeWord_26 : decode cX6_takeWord 26 = .ok (.goto 13, 3) := by decide +kernel
theorem dX6_takeWord_29 : decode cX6_takeWord 29 = .ok (.iload_n 3, 1) := by decide +kernel
theorem dX6_takeWord_30 : decode cX6_takeWord 30 = .ok (.ifCond .eq 7, 3) := by decide +kernel
theorem dX6_takeWord_33 : decode cX6_takeWord 33 = .ok (.iconst 0, 1) := by decide +kernel
theorem dX6_takeWord_34 : decode cX6_takeWord 34 = .ok (.goto 5, 3) := by decide +kernel
theorem dX6_takeWord_37 : decode cX6_takeWord 37 = .ok (.bipush (-5), 2) := by decide +kernel
theorem dX6_takeWord_39 : decode cX6_takeWord 39 = .ok (.ireturn, 1) := by decide +kernel
theorem dX6_matches_0 : decode cX6_matches 0 = .ok (.aload_n 0, 1) := by decide +kernel
theorem dX6_matches_1 : decode cX6_matches 1 = .ok (.iload_n 1, 1) := by decide +kernel
theorem dX6_matches_2 : decode cX6_matches 2 = .ok (.iload_n 2, 1) := by decide +kernel
theorem dX6_matches_3 : decode cX6_matches 3 = .ok (.invokevirtual 224, 3) := by decide +kernel
theorem dX6_matches_6 : decode cX6_matches 6 = .ok (.istore_n 3, 1) := by decide +kernel
theorem dX6_matches_7 : decode cX6_matches 7 = .ok (.iload_n 3, 1) := by decide +kernel
theorem dX6_matches_8 : decode cX6_matches 8 = .ok (.ifCond .ge 7, 3) := by decide +kernel
theorem dX6_matches_11 : decode cX6_matches 11 = .ok (.iload_n 3, 1) := by decide +kernel
theorem dX6_matches_12 : decode cX6_matches 12 = .ok (.goto 10, 3) := by decide +kernel
theorem dX6_matches_15 : decode cX6_matches 15 = .ok (.aload_n 0, 1) := by decide +kernel
theorem dX6_matches_16 : decode cX6_matches 16 = .ok (.iload_n 1, 1) := by decide +kernel
theorem dX6_matches_17 : decode cX6_matches 17 = .ok (.iload_n 2, 1) := by decide +kernel
theorem dX6_matches_18 : decode cX6_matches 18 = .ok (.iconst 1, 1) := by decide +kernel
theorem dX6_matches_19 : decode cX6_matches 19 = .ok (.invokevirtual 227, 3) := by decide +kernel
theorem dX6_matches_22 : decode cX6_matches 22 = .ok (.ireturn, 1) := by decide +kernel
theorem dX6_matchCount_0 : decode cX6_matchCount 0 = .ok (.aload_n 0, 1) := by decide +kernel
theorem dX6_matchCount_1 : decode cX6_matchCount 1 = .ok (.iload_n 1, 1) := by decide +kernel
theorem dX6_matchCount_2 : decode cX6_matchCount 2 = .ok (.iload_n 2, 1) := by decide +kernel
theorem dX6_matchCount_3 : decode cX6_matchCount 3 = .ok (.invokevirtual 224, 3) := by decide +kernel
theorem dX6_matchCount_6 : decode cX6_matchCount 6 = .ok (.istore_n 3, 1) := by decide +kernel
theorem dX6_matchCount_7 : decode cX6_matchCount 7 = .ok (.iload_n 3, 1) := by decide +kernel
theorem dX6_matchCount_8 : decode cX6_matchCount 8 = .ok (.ifCond .ge 7, 3) := by decide +kernel
theorem dX6_matchCount_11 : decode cX6_matchCount 11 = .ok (.iload_n 3, 1) := by decide +kernel
theorem dX6_matchCount_12 : decode cX6_matchCount 12 = .ok (.goto 11, 3) := by decide +kernel
theorem dX6_matchCount_15 : decode cX6_matchCount 15 = .ok (.aload_n 0, 1) := by decide +kernel
theorem dX6_matchCount_16 : decode cX6_matchCount 16 = .ok (.iload_n 1, 1) := by decide +kernel
theorem dX6_matchCount_17 : decode cX6_matchCount 17 = .ok (.iload_n 2, 1) := by decide +kernel
theorem dX6_matchCount_18 : decode cX6_matchCount 18 = .ok (.ldc 232, 2) := by decide +kernel
theorem dX6_matchCount_20 : decode cX6_matchCount 20 = .ok (.invokevirtual 227, 3) := by decide +kernel
theorem dX6_matchCount_23 : decode cX6_matchCount 23 = .ok (.ireturn, 1) := by decide +kernel
theorem dX6_match__0 : decode cX6_match_ 0 = .ok (.aload_n 0, 1) := by decide +kernel
theorem dX6_match__1 : decode cX6_match_ 1 = .ok (.iload_n 1, 1) := by decide +kernel
theorem dX6_match__2 : decode cX6_match_ 2 = .ok (.iload_n 2, 1) := by decide +kernel
theorem dX6_match__3 : decode cX6_match_ 3 = .ok (.invokevirtual 224, 3) := by decide +kernel
theorem dX6_match__6 : decode cX6_match_ 6 = .ok (.istore_n 3, 1) := by decide +kernel
theorem dX6_match__7 : decode cX6_match_ 7 = .ok (.iload_n 3, 1) := by decide +kernel
theorem dX6_match__8 : decode cX6_match_ 8 = .ok (.ifCond .ge 5, 3) := by decide +kernel
theorem dX6_match__11 : decode cX6_match_ 11 = .ok (.iload_n 3, 1) := by decide +kernel
theorem dX6_match__12 : decode cX6_match_ 12 = .ok (.ireturn, 1) := by decide +kernel
theorem dX6_match__13 : decode cX6_match_ 13 = .ok (.aload_n 0, 1) := by decide +kernel
theorem dX6_match__14 : decode cX6_match_ 14 = .ok (.iload_n 1, 1) := by decide +kernel
theorem dX6_match__15 : decode cX6_match_ 15 = .ok (.iload_n 2, 1) := by decide +kernel
theorem dX6_match__16 : decode cX6_match_ 16 = .ok (.iconst 1, 1) := by decide +kernel
theorem dX6_match__17 : decode cX6_match_ 17 = .ok (.invokevirtual 227, 3) := by decide +kernel
theorem dX6_match__20 : decode cX6_match_ 20 = .ok (.ifCond .ne 6, 3) := by decide +kernel
theorem dX6_match__23 : decode cX6_match_ 23 = .ok (.bipush (-6), 2) := by decide +kernel
theorem dX6_match__25 : decode cX6_match_ 25 = .ok (.ireturn, 1) := by decide +kernel
theorem dX6_match__26 : decode cX6_match_ 26 = .ok (.iconst 0, 1) := by decide +kernel
theorem dX6_match__27 : decode cX6_match_ 27 = .ok (.istore 4, 2) := by decide +kernel
theorem dX6_match__29 : decode cX6_match_ 29 = .ok (.iconst 0, 1) := by decide +kernel
theorem dX6_match__30 : decode cX6_match_ 30 = .ok (.istore 5, 2) := by decide +kernel
theorem dX6_match__32 : decode cX6_match_ 32 = .ok (.iload 5, 2) := by decide +kernel
theorem dX6_match__34 : decode cX6_match_ 34 = .ok (.iconst 4, 1) := by decide +kernel
theorem dX6_match__35 : decode cX6_match_ 35 = .ok (.if_icmp .ge 17, 3) := by decide +kernel
theorem dX6_match__38 : decode cX6_match_ 38 = .ok (.aload_n 0, 1) := by decide +kernel
theorem dX6_match__39 : decode cX6_match_ 39 = .ok (.getfield 52, 3) := by decide +kernel
theorem dX6_match__42 : decode cX6_match_ 42 = .ok (.iload 5, 2) := by decide +kernel
theorem dX6_match__44 : decode cX6_match_ 44 = .ok (.iconst (-1), 1) := by decide +kernel
theorem dX6_match__45 : decode cX6_match_ 45 = .ok (.iastore, 1) := by decide +kernel
theorem dX6_match__46 : decode cX6_match_ 46 = .ok (.iinc 5 1, 3) := by decide +kernel
theorem dX6_match__49 : decode cX6_match_ 49 = .ok (.goto (-17), 3) := by decide +kernel
theorem dX6_match__52 : decode cX6_match_ 52 = .ok (.bipush 8, 2) := by decide +kernel
theorem dX6_match__54 : decode cX6_match_ 54 = .ok (.iload_n 1, 1) := by decide +kernel
theorem dX6_match__55 : decode cX6_match_ 55 = .ok (.imul, 1) := by decide +kernel
theorem dX6_match__56 : decode cX6_match_ 56 = .ok (.istore 5, 2) := by decide +kernel
theorem dX6_match__58 : decode cX6_match_ 58 = .ok (.iload 5, 2) := by decide +kernel
theorem dX6_match__60 : decode cX6_match_ 60 = .ok (.bipush 8, 2) := by decide +kernel
theorem dX6_match__62 : decode cX6_match_ 62 = .ok (.iload_n 1, 1) := by decide +kernel
theorem dX6_match__63 : decode cX6_match_ 63 = .ok (.imul, 1) := by decide +kernel
theorem dX6_match__64 : decode cX6_match_ 64 = .ok (.aload_n 0, 1) := by decide +kernel
theorem dX6_match__65 : decode cX6_match_ 65 = .ok (.getfield 19, 3) := by decide +kernel
theorem dX6_match__68 : decode cX6_match_ 68 = .ok (.iload_n 1, 1) := by decide +kernel
theorem dX6_match__69 : decode cX6_match_ 69 = .ok (.iaload, 1) := by decide +kernel
theorem dX6_match__70 : decode cX6_match_ 70 = .ok (.iadd, 1) := by decide +kernel
theorem dX6_match__71 : decode cX6_match_ 71 = .ok (.if_icmp .ge 105, 3) := by decide +kernel
theorem dX6_match__74 : decode cX6_match_ 74 = .ok (.aload_n 0, 1) := by decide +kernel
theorem dX6_match__75 : decode cX6_match_ 75 = .ok (.getfield 15, 3) := by decide +kernel
theorem dX6_match__78 : decode cX6_match_ 78 = .ok (.iload 5, 2) := by decide +kernel
theorem dX6_match__80 : decode cX6_match_ 80 = .ok (.iaload, 1) := by decide +kernel
theorem dX6_match__81 : decode cX6_match_ 81 = .ok (.bipush 10, 2) := by decide +kernel
theorem dX6_match__83 : decode cX6_match_ 83 = .ok (.isub, 1) := by decide +kernel
theorem dX6_match__84 : decode cX6_match_ 84 = .ok (.istore 6, 2) := by decide +kernel
theorem dX6_match__86 : decode cX6_match_ 86 = .ok (.iload 6, 2) := by decide +kernel
theorem dX6_match__88 : decode cX6_match_ 88 = .ok (.ifCond .lt 61, 3) := by decide +kernel
theorem dX6_match__91 : decode cX6_match_ 91 = .ok (.aload_n 0, 1) := by decide +kernel
theorem dX6_match__92 : decode cX6_match_ 92 = .ok (.getfield 52, 3) := by decide +kernel
theorem dX6_match__95 : decode cX6_match_ 95 = .ok (.iload 6, 2) := by decide +kernel
theorem dX6_match__97 : decode cX6_match_ 97 = .ok (.iaload, 1) := by decide +kernel
theorem dX6_match__98 : decode cX6_match_ 98 = .ok (.ifCond .ge 51, 3) := by decide +kernel
theorem dX6_match__101 : decode cX6_match_ 101 = .ok (.aload_n 0, 1) := by decide +kernel
theorem dX6_match__102 : decode cX6_match_ 102 = .ok (.getfield 52, 3) := by decide +kernel
theorem dX6_match__105 : decode cX6_match_ 105 = .ok (.iload 6, 2) := by decide +kernel
theorem dX6_match__107 : decode cX6_match_ 107 = .ok (.iload 4, 2) := by decide +kernel
theorem dX6_match__109 : decode cX6_match_ 109 = .ok (.iastore, 1) := by decide +kernel
theorem dX6_match__110 : decode cX6_match_ 110 = .ok (.aload_n 0, 1) := by decide +kernel
theorem dX6_match__111 : decode cX6_match_ 111 = .ok (.getfield 37, 3) := by decide +kernel
theorem dX6_match__114 : decode cX6_match_ 114 = .ok (.iload 4, 2) := by decide +kernel
theorem dX6_match__116 : decode cX6_match_ 116 = .ok (.aload_n 0, 1) := by decide +kernel
theorem dX6_match__117 : decode cX6_match_ 117 = .ok (.getfield 28, 3) := by decide +kernel
theorem dX6_match__120 : decode cX6_match_ 120 = .ok (.bipush 8, 2) := by decide +kernel
theorem dX6_match__122 : decode cX6_match_ 122 = .ok (.iload 6, 2) := by decide +kernel
theorem dX6_match__124 : decode cX6_match_ 124 = .ok (.imul, 1) := by decide +kernel
theorem dX6_match__125 : decode cX6_match_ 125 = .ok (.aload_n 0, 1) := by decide +kernel
theorem dX6_match__126 : decode cX6_match_ 126 = .ok (.getfield 49, 3) := by decide +kernel
theorem dX6_match__129 : decode cX6_match_ 129 = .ok (.iload 6, 2) := by decide +kernel
theorem dX6_match__131 : decode cX6_match_ 131 = .ok (.iaload, 1) := by decide +kernel
theorem dX6_match__132 : decode cX6_match_ 132 = .ok (.invokestatic 125, 3) := by decide +kernel
theorem dX6_match__135 : decode cX6_match_ 135 = .ok (.aload_n 0, 1) := by decide +kernel
theorem dX6_match__136 : decode cX6_match_ 136 = .ok (.getfield 31, 3) := by decide +kernel
theorem dX6_match__139 : decode cX6_match_ 139 = .ok (.iload 6, 2) := by decide +kernel
theorem dX6_match__141 : decode cX6_match_ 141 = .ok (.aload_n 0, 1) := by decide +kernel
theorem dX6_match__142 : decode cX6_match_ 142 = .ok (.getfield 49, 3) := by decide +kernel
theorem dX6_match__145 : decode cX6_match_ 145 = .ok (.iload 6, 2) := by decide +kernel
theorem dX6_match__147 : decode cX6_match_ 147 = .ok (.iaload, 1) := by decide +kernel
theorem dX6_match__148 : decode cX6_match_ 148 = .ok (.iastore, 1) := by decide +kernel
theorem dX6_match__149 : decode cX6_match_ 149 = .ok (.iload 4, 2) := by decide +kernel
theorem dX6_match__151 : decode cX6_match_ 151 = .ok (.iload 6, 2) := by decide +kernel
theorem dX6_match__153 : decode cX6_match_ 153 = .ok (.ifCond .ge 7, 3) := by decide +kernel
theorem dX6_match__156 : decode cX6_match_ 156 = .ok (.iconst 1, 1) := by decide +kernel
theorem dX6_match__157 : decode cX6_match_ 157 = .ok (.goto 10, 3) := by decide +kernel
theorem dX6_match__160 : decode cX6_match_ 160 = .ok (.aload_n 0, 1) := by decide +kernel
theorem dX6_match__161 : decode cX6_match_ 161 = .ok (.getfield 49, 3) := by decide +kernel
theorem dX6_match__164 : decode cX6_match_ 164 = .ok (.iload 6, 2) := by decide +kernel
theorem dX6_match__166 : decode cX6_match_ 166 = .ok (.iaload, 1) := by decide +kernel
theorem dX6_match__167 : decode cX6_match_ 167 = .ok (.iadd, 1) := by decide +kernel
theorem dX6_match__168 : decode cX6_match_ 168 = .ok (.istore 4, 2) := by decide +kernel
theorem dX6_match__170 : decode cX6_match_ 170 = .ok (.iinc 5 1, 3) := by decide +kernel
theorem dX6_match__173 : decode cX6_match_ 173 = .ok (.goto (-115), 3) := by decide +kernel
theorem dX6_match__176 : decode cX6_match_ 176 = .ok (.aload_n 0, 1) := by decide +kernel
theorem dX6_match__177 : decode cX6_match_ 177 = .ok (.iload_n 1, 1) := by decide +kernel
theorem dX6_match__178 : decode cX6_match_ 178 = .ok (.iconst 0, 1) := by decide +kernel
theorem dX6_match__179 : decode cX6_match_ 179 = .ok (.invokevirtual 157, 3) := by decide +kernel
theorem dX6_match__182 : decode cX6_match_ 182 = .ok (.ifCond .ne 7, 3) := by decide +kernel
theorem dX6_match__185 : decode cX6_match_ 185 = .ok (.iconst 0, 1) := by decide +kernel
theorem dX6_match__186 : decode cX6_match_ 186 = .ok (.goto 9, 3) := by decide +kernel
theorem dX6_match__189 : decode cX6_match_ 189 = .ok (.aload_n 0, 1) := by decide +kernel
theorem dX6_match__190 : decode cX6_match_ 190 = .ok (.getfield 49, 3) := by decide +kernel
theorem dX6_match__193 : decode cX6_match_ 193 = .ok (.iconst 0, 1) := by decide +kernel
theorem dX6_match__194 : decode cX6_match_ 194 = .ok (.iaload, 1) := by decide +kernel
theorem dX6_match__195 : decode cX6_match_ 195 = .ok (.ireturn, 1) := by decide +kernel
theorem dX6_setImage_0 : decode cX6_setImage 0 = .ok (.aload_n 0, 1) := by decide +kernel
theorem dX6_setImage_1 : decode cX6_setImage 1 = .ok (.iconst 0, 1) := by decide +kernel
theorem dX6_setImage_2 : decode cX6_setImage 2 = .ok (.invokevirtual 135, 3) := by decide +kernel
theorem dX6_setImage_5 : decode cX6_setImage 5 = .ok (.istore_n 2, 1) := by decide +kernel
theorem dX6_setImage_6 : decode cX6_setImage 6 = .ok (.iload_n 1, 1) := by decide +kernel
theorem dX6_setImage_7 : decode cX6_setImage 7 = .ok (.iconst 0, 1) := by decide +kernel
theorem dX6_setImage_8 : decode cX6_setImage 8 = .ok (.iconst 3, 1) := by decide +kernel
theorem dX6_setImage_9 : decode cX6_setImage 9 = .ok (.invokestatic 101, 3) := by decide +kernel
theorem dX6_setImage_12 : decode cX6_setImage 12 = .ok (.ifCond .ne 6, 3) := by decide +kernel
theorem dX6_setImage_15 : decode cX6_setImage 15 = .ok (.bipush (-3), 2) := by decide +kernel
theorem dX6_setImage_17 : decode cX6_setImage 17 = .ok (.ireturn, 1) := by decide +kernel
theorem dX6_setImage_18 : decode cX6_setImage 18 = .ok (.iload_n 2, 1) := by decide +kernel
theorem dX6_setImage_19 : decode cX6_setImage 19 = .ok (.ifCond .ne 6, 3) := by decide +kernel
theorem dX6_setImage_22 : decode cX6_setImage 22 = .ok (.bipush (-5), 2) := by decide +kernel
theorem dX6_setImage_24 : decode cX6_setImage 24 = .ok (.ireturn, 1) := by decide +kernel
theorem dX6_setImage_25 : decode cX6_setImage 25 = .ok (.aload_n 0, 1) := by decide +kernel
theorem dX6_setImage_26 : decode cX6_setImage 26 = .ok (.getfield 37, 3) := by decide +kernel
theorem dX6_setImage_29 : decode cX6_setImage 29 = .ok (.iconst 0, 1) := by decide +kernel
theorem dX6_setImage_30 : decode cX6_setImage 30 = .ok (.aload_n 0, 1) := by decide +kernel
theorem dX6_setImage_31 : decode cX6_setImage 31 = .ok (.getfield 28, 3) := by decide +kernel
theorem dX6_setImage_34 : decode cX6_setImage 34 = .ok (.bipush 8, 2) := by decide +kernel
theorem dX6_setImage_36 : decode cX6_setImage 36 = .ok (.iload_n 1, 1) := by decide +kernel
theorem dX6_setImage_37 : decode cX6_setImage 37 = .ok (.imul, 1) := by decide +kernel
theorem dX6_setImage_38 : decode cX6_setImage 38 = .ok (.aload_n 0, 1) := by decide +kernel
theorem dX6_setImage_39 : decode cX6_setImage 39 = .ok (.getfield 112, 3) := by decide +kernel
theorem dX6_setImage_42 : decode cX6_setImage 42 = .ok (.invokestatic 125, 3) := by decide +kernel
theorem dX6_setImage_45 : decode cX6_setImage 45 = .ok (.aload_n 0, 1) := by decide +kernel
theorem dX6_setImage_46 : decode cX6_setImage 46 = .ok (.getfield 31, 3) := by decide +kernel
theorem dX6_setImage_49 : decode cX6_setImage 49 = .ok (.iload_n 1, 1) := by decide +kernel
theorem dX6_setImage_50 : decode cX6_setImage 50 = .ok (.aload_n 0, 1) := by decide +kernel
theorem dX6_setImage_51 : decode cX6_setImage 51 = .ok (.getfield 112, 3) := by decide +kernel
theorem dX6_setImage_54 : decode cX6_setImage 54 = .ok (.iastore, 1) := by decide +kernel
theorem dX6_setImage_55 : decode cX6_setImage 55 = .ok (.aload_n 0, 1) := by decide +kernel
theorem dX6_setImage_56 : decode cX6_setImage 56 = .ok (.getfield 112, 3) := by decide +kernel
theorem dX6_setImage_59 : decode cX6_setImage 59 = .ok (.ireturn, 1) := by decide +kernel
theorem dX6_imageLetter_0 : decode cX6_imageLetter 0 = .ok (.iload_n 1, 1) := by decide +kernel
theorem dX6_imageLetter_1 : decode cX6_imageLetter 1 = .ok (.iconst 0, 1) := by decide +kernel
theorem dX6_imageLetter_2 : decode cX6_imageLetter 2 = .ok (.iconst 3, 1) := by decide +kernel
theorem dX6_imageLetter_3 : decode cX6_imageLetter 3 = .ok (.invokestatic 101, 3) := by decide +kernel
theorem dX6_imageLetter_6 : decode cX6_imageLetter 6 = .ok (.ifCond .ne 6, 3) := by decide +kernel
theorem dX6_imageLetter_9 : decode cX6_imageLetter 9 = .ok (.bipush (-3), 2) := by decide +kernel
theorem dX6_imageLetter_11 : decode cX6_imageLetter 11 = .ok (.ireturn, 1) := by decide +kernel
theorem dX6_imageLetter_12 : decode cX6_imageLetter 12 = .ok (.iload_n 2, 1) := by decide +kernel
theorem dX6_imageLetter_13 : decode cX6_imageLetter 13 = .ok (.iconst 0, 1) := by decide +kernel
theorem dX6_imageLetter_14 : decode cX6_imageLetter 14 = .ok (.aload_n 0, 1) := by decide +kernel
theorem dX6_imageLetter_15 : decode cX6_imageLetter 15 = .ok (.getfield 31, 3) := by decide +kernel
theorem dX6_imageLetter_18 : decode cX6_imageLetter 18 = .ok (.iload_n 1, 1) := by decide +kernel
theorem dX6_imageLetter_19 : decode cX6_imageLetter 19 = .ok (.iaload, 1) := by decide +kernel
theorem dX6_imageLetter_20 : decode cX6_imageLetter 20 = .ok (.iconst 1, 1) := by decide +kernel
theorem dX6_imageLetter_21 : decode cX6_imageLetter 21 = .ok (.isub, 1) := by decide +kernel
theorem dX6_imageLetter_22 : decode cX6_imageLetter 22 = .ok (.invokestatic 101, 3) := by decide +kernel
theorem dX6_imageLetter_25 : decode cX6_imageLetter 25 = .ok (.ifCond .eq 17, 3) := by decide +kernel
theorem dX6_imageLetter_28 : decode cX6_imageLetter 28 = .ok (.aload_n 0, 1) := by decide +kernel
theorem dX6_imageLetter_29 : decode cX6_imageLetter 29 = .ok (.getfield 28, 3) := by decide +kernel
theorem dX6_imageLetter_32 : decode cX6_imageLetter 32 = .ok (.bipush 8, 2) := by decide +kernel
theorem dX6_imageLetter_34 : decode cX6_imageLetter 34 = .ok (.iload_n 1, 1) := by decide +kernel
theorem dX6_imageLetter_35 : decode cX6_imageLetter 35 = .ok (.imul, 1) := by decide +kernel
theorem dX6_imageLetter_36 : decode cX6_imageLetter 36 = .ok (.iload_n 2, 1) := by decide +kernel
theorem dX6_imageLetter_37 : decode cX6_imageLetter 37 = .ok (.iadd, 1) := by decide +kernel
theorem dX6_imageLetter_38 : decode cX6_imageLetter 38 = .ok (.iaload, 1) := by decide +kernel
theorem dX6_imageLetter_39 : decode cX6_imageLetter 39 = .ok (.goto 5, 3) := by decide +kernel
theorem dX6_imageLetter_42 : decode cX6_imageLetter 42 = .ok (.bipush (-6), 2) := by decide +kernel
theorem dX6_imageLetter_44 : decode cX6_imageLetter 44 = .ok (.ireturn, 1) := by decide +kernel
theorem dX6_addToSample_0 : decode cX6_addToSample 0 = .ok (.aload_n 0, 1) := by decide +kernel
theorem dX6_addToSample_1 : decode cX6_addToSample 1 = .ok (.getfield 37, 3) := by decide +kernel
theorem dX6_addToSample_4 : decode cX6_addToSample 4 = .ok (.iconst 0, 1) := by decide +kernel
theorem dX6_addToSample_5 : decode cX6_addToSample 5 = .ok (.aload_n 0, 1) := by decide +kernel
theorem dX6_addToSample_6 : decode cX6_addToSample 6 = .ok (.getfield 22, 3) := by decide +kernel
theorem dX6_addToSample_9 : decode cX6_addToSample 9 = .ok (.bipush 8, 2) := by decide +kernel
theorem dX6_addToSample_11 : decode cX6_addToSample 11 = .ok (.aload_n 0, 1) := by decide +kernel
theorem dX6_addToSample_12 : decode cX6_addToSample 12 = .ok (.getfield 98, 3) := by decide +kernel
theorem dX6_addToSample_15 : decode cX6_addToSample 15 = .ok (.imul, 1) := by decide +kernel
theorem dX6_addToSample_16 : decode cX6_addToSample 16 = .ok (.aload_n 0, 1) := by decide +kernel
theorem dX6_addToSample_17 : decode cX6_addToSample 17 = .ok (.getfield 112, 3) := by decide +kernel
theorem dX6_addToSample_20 : decode cX6_addToSample 20 = .ok (.invokestatic 125, 3) := by decide +kernel
theorem dX6_addToSample_23 : decode cX6_addToSample 23 = .ok (.aload_n 0, 1) := by decide +kernel
theorem dX6_addToSample_24 : decode cX6_addToSample 24 = .ok (.getfield 25, 3) := by decide +kernel
theorem dX6_addToSample_27 : decode cX6_addToSample 27 = .ok (.aload_n 0, 1) := by decide +kernel
theorem dX6_addToSample_28 : decode cX6_addToSample 28 = .ok (.getfield 98, 3) := by decide +kernel
theorem dX6_addToSample_31 : decode cX6_addToSample 31 = .ok (.aload_n 0, 1) := by decide +kernel
theorem dX6_addToSample_32 : decode cX6_addToSample 32 = .ok (.getfield 112, 3) := by decide +kernel
theorem dX6_addToSample_35 : decode cX6_addToSample 35 = .ok (.iastore, 1) := by decide +kernel
theorem dX6_addToSample_36 : decode cX6_addToSample 36 = .ok (.aload_n 0, 1) := by decide +kernel
theorem dX6_addToSample_37 : decode cX6_addToSample 37 = .ok (.dup, 1) := by decide +kernel
theorem dX6_addToSample_38 : decode cX6_addToSample 38 = .ok (.getfield 98, 3) := by decide +kernel
theorem dX6_addToSample_41 : decode cX6_addToSample 41 = .ok (.iconst 1, 1) := by decide +kernel
theorem dX6_addToSample_42 : decode cX6_addToSample 42 = .ok (.iadd, 1) := by decide +kernel
theorem dX6_addToSample_43 : decode cX6_addToSample 43 = .ok (.putfield 98, 3) := by decide +kernel
theorem dX6_addToSample_46 : decode cX6_addToSample 46 = .ok (.aload_n 0, 1) := by decide +kernel
theorem dX6_addToSample_47 : decode cX6_addToSample 47 = .ok (.getfield 98, 3) := by decide +kernel
theorem dX6_addToSample_50 : decode cX6_addToSample 50 = .ok (.ireturn, 1) := by decide +kernel
theorem dX6_addProduced_0 : decode cX6_addProduced 0 = .ok (.iload_n 1, 1) := by decide +kernel
theorem dX6_addProduced_1 : decode cX6_addProduced 1 = .ok (.invokestatic 139, 3) := by decide +kernel
theorem dX6_addProduced_4 : decode cX6_addProduced 4 = .ok (.ifCond .ne 6, 3) := by decide +kernel
theorem dX6_addProduced_7 : decode cX6_addProduced 7 = .ok (.bipush (-2), 2) := by decide +kernel
theorem dX6_addProduced_9 : decode cX6_addProduced 9 = .ok (.ireturn, 1) := by decide +kernel
theorem dX6_addProduced_10 : decode cX6_addProduced 10 = .ok (.iconst 0, 1) := by decide +kernel
theorem dX6_addProduced_11 : decode cX6_addProduced 11 = .ok (.istore_n 2, 1) := by decide +kernel
theorem dX6_addProduced_12 : decode cX6_addProduced 12 = .ok (.bipush 8, 2) := by decide +kernel
theorem dX6_addProduced_14 : decode cX6_addProduced 14 = .ok (.iload_n 1, 1) := by decide +kernel
theorem dX6_addProduced_15 : decode cX6_addProduced 15 = .ok (.imul, 1) := by decide +kernel
theorem dX6_addProduced_16 : decode cX6_addProduced 16 = .ok (.istore_n 3, 1) := by decide +kernel
theorem dX6_addProduced_17 : decode cX6_addProduced 17 = .ok (.iload_n 3, 1) := by decide +kernel
theorem dX6_addProduced_18 : decode cX6_addProduced 18 = .ok (.bipush 8, 2) := by decide +kernel
theorem dX6_addProduced_20 : decode cX6_addProduced 20 = .ok (.iload_n 1, 1) := by decide +kernel
theorem dX6_addProduced_21 : decode cX6_addProduced 21 = .ok (.imul, 1) := by decide +kernel
theorem dX6_addProduced_22 : decode cX6_addProduced 22 = .ok (.aload_n 0, 1) := by decide +kernel
theorem dX6_addProduced_23 : decode cX6_addProduced 23 = .ok (.getfield 19, 3) := by decide +kernel
theorem dX6_addProduced_26 : decode cX6_addProduced 26 = .ok (.iload_n 1, 1) := by decide +kernel
theorem dX6_addProduced_27 : decode cX6_addProduced 27 = .ok (.iaload, 1) := by decide +kernel
theorem dX6_addProduced_28 : decode cX6_addProduced 28 = .ok (.iadd, 1) := by decide +kernel
theorem dX6_addProduced_29 : decode cX6_addProduced 29 = .ok (.if_icmp .ge 41, 3) := by decide +kernel
theorem dX6_addProduced_32 : decode cX6_addProduced 32 = .ok (.iload_n 2, 1) := by decide +kernel
theorem dX6_addProduced_33 : decode cX6_addProduced 33 = .ok (.aload_n 0, 1) := by decide +kernel
theorem dX6_addProduced_34 : decode cX6_addProduced 34 = .ok (.getfield 15, 3) := by decide +kernel
theorem dX6_addProduced_37 : decode cX6_addProduced 37 = .ok (.iload_n 3, 1) := by decide +kernel
theorem dX6_addProduced_38 : decode cX6_addProduced 38 = .ok (.iaload, 1) := by decide +kernel
theorem dX6_addProduced_39 : decode cX6_addProduced 39 = .ok (.bipush 10, 2) := by decide +kernel
theorem dX6_addProduced_41 : decode cX6_addProduced 41 = .ok (.if_icmp .ge 7, 3) := by decide +kernel
theorem dX6_addProduced_44 : decode cX6_addProduced 44 = .ok (.iconst 1, 1) := by decide +kernel
theorem dX6_addProduced_45 : decode cX6_addProduced 45 = .ok (.goto 17, 3) := by decide +kernel
theorem dX6_addProduced_48 : decode cX6_addProduced 48 = .ok (.aload_n 0, 1) := by decide +kernel
theorem dX6_addProduced_49 : decode cX6_addProduced 49 = .ok (.getfield 31, 3) := by decide +kernel
theorem dX6_addProduced_52 : decode cX6_addProduced 52 = .ok (.aload_n 0, 1) := by decide +kernel
theorem dX6_addProduced_53 : decode cX6_addProduced 53 = .ok (.getfield 15, 3) := by decide +kernel
theorem dX6_addProduced_56 : decode cX6_addProduced 56 = .ok (.iload_n 3, 1) := by decide +kernel
theorem dX6_addProduced_57 : decode cX6_addProduced 57 = .ok (.iaload, 1) := by decide +kernel
theorem dX6_addProduced_58 : decode cX6_addProduced 58 = .ok (.bipush 10, 2) := by decide +kernel
theorem dX6_addProduced_60 : decode cX6_addProduced 60 = .ok (.isub, 1) := by decide +kernel
theorem dX6_addProduced_61 : decode cX6_addProduced 61 = .ok (.iaload, 1) := by decide +kernel
theorem dX6_addProduced_62 : decode cX6_addProduced 62 = .ok (.iadd, 1) := by decide +kernel
theorem dX6_addProduced_63 : decode cX6_addProduced 63 = .ok (.istore_n 2, 1) := by decide +kernel
theorem dX6_addProduced_64 : decode cX6_addProduced 64 = .ok (.iinc 3 1, 3) := by decide +kernel
theorem dX6_addProduced_67 : decode cX6_addProduced 67 = .ok (.goto (-50), 3) := by decide +kernel
theorem dX6_addProduced_70 : decode cX6_addProduced 70 = .ok (.iload_n 2, 1) := by decide +kernel
theorem dX6_addProduced_71 : decode cX6_addProduced 71 = .ok (.bipush 8, 2) := by decide +kernel
theorem dX6_addProduced_73 : decode cX6_addProduced 73 = .ok (.if_icmp .gt 12, 3) := by decide +kernel
theorem dX6_addProduced_76 : decode cX6_addProduced 76 = .ok (.aload_n 0, 1) := by decide +kernel
theorem dX6_addProduced_77 : decode cX6_addProduced 77 = .ok (.getfield 98, 3) := by decide +kernel
theorem dX6_addProduced_80 : decode cX6_addProduced 80 = .ok (.bipush 6, 2) := by decide +kernel
theorem dX6_addProduced_82 : decode cX6_addProduced 82 = .ok (.if_icmp .ne 6, 3) := by decide +kernel
theorem dX6_addProduced_85 : decode cX6_addProduced 85 = .ok (.bipush (-4), 2) := by decide +kernel
theorem dX6_addProduced_87 : decode cX6_addProduced 87 = .ok (.ireturn, 1) := by decide +kernel
theorem dX6_addProduced_88 : decode cX6_addProduced 88 = .ok (.aload_n 0, 1) := by decide +kernel
theorem dX6_addProduced_89 : decode cX6_addProduced 89 = .ok (.iconst 0, 1) := by decide +kernel
theorem dX6_addProduced_90 : decode cX6_addProduced 90 = .ok (.putfield 112, 3) := by decide +kernel
theorem dX6_addProduced_93 : decode cX6_addProduced 93 = .ok (.bipush 8, 2) := by decide +kernel
theorem dX6_addProduced_95 : decode cX6_addProduced 95 = .ok (.iload_n 1, 1) := by decide +kernel
theorem dX6_addProduced_96 : decode cX6_addProduced 96 = .ok (.imul, 1) := by decide +kernel
theorem dX6_addProduced_97 : decode cX6_addProduced 97 = .ok (.istore_n 3, 1) := by decide +kernel
theorem dX6_addProduced_98 : decode cX6_addProduced 98 = .ok (.iload_n 3, 1) := by decide +kernel
theorem dX6_addProduced_99 : decode cX6_addProduced 99 = .ok (.bipush 8, 2) := by decide +kernel
theorem dX6_addProduced_101 : decode cX6_addProduced 101 = .ok (.iload_n 1, 1) := by decide +kernel
theorem dX6_addProduced_102 : decode cX6_addProduced 102 = .ok (.imul, 1) := by decide +kernel
theorem dX6_addProduced_103 : decode cX6_addProduced 103 = .ok (.aload_n 0, 1) := by decide +kernel
theorem dX6_addProduced_104 : decode cX6_addProduced 104 = .ok (.getfield 19, 3) := by decide +kernel
theorem dX6_addProduced_107 : decode cX6_addProduced 107 = .ok (.iload_n 1, 1) := by decide +kernel
theorem dX6_addProduced_108 : decode cX6_addProduced 108 = .ok (.iaload, 1) := by decide +kernel
theorem dX6_addProduced_109 : decode cX6_addProduced 109 = .ok (.iadd, 1) := by decide +kernel
theorem dX6_addProduced_110 : decode cX6_addProduced 110 = .ok (.if_icmp .ge 100, 3) := by decide +kernel
theorem dX6_addProduced_113 : decode cX6_addProduced 113 = .ok (.aload_n 0, 1) := by decide +kernel
theorem dX6_addProduced_114 : decode cX6_addProduced 114 = .ok (.getfield 15, 3) := by decide +kernel
theorem dX6_addProduced_117 : decode cX6_addProduced 117 = .ok (.iload_n 3, 1) := by decide +kernel
theorem dX6_addProduced_118 : decode cX6_addProduced 118 = .ok (.iaload, 1) := by decide +kernel
theorem dX6_addProduced_119 : decode cX6_addProduced 119 = .ok (.bipush 10, 2) := by decide +kernel
theorem dX6_addProduced_121 : decode cX6_addProduced 121 = .ok (.isub, 1) := by decide +kernel
theorem dX6_addProduced_122 : decode cX6_addProduced 122 = .ok (.istore 4, 2) := by decide +kernel
theorem dX6_addProduced_124 : decode cX6_addProduced 124 = .ok (.iload 4, 2) := by decide +kernel
theorem dX6_addProduced_126 : decode cX6_addProduced 126 = .ok (.ifCond .ge 7, 3) := by decide +kernel
theorem dX6_addProduced_129 : decode cX6_addProduced 129 = .ok (.iconst 1, 1) := by decide +kernel
theorem dX6_addProduced_130 : decode cX6_addProduced 130 = .ok (.goto 10, 3) := by decide +kernel
theorem dX6_addProduced_133 : decode cX6_addProduced 133 = .ok (.aload_n 0, 1) := by decide +kernel
theorem dX6_addProduced_134 : decode cX6_addProduced 134 = .ok (.getfield 31, 3) := by decide +kernel
theorem dX6_addProduced_137 : decode cX6_addProduced 137 = .ok (.iload 4, 2) := by decide +kernel
theorem dX6_addProduced_139 : decode cX6_addProduced 139 = .ok (.iaload, 1) := by decide +kernel
theorem dX6_addProduced_140 : decode cX6_addProduced 140 = .ok (.istore 5, 2) := by decide +kernel
theorem dX6_addProduced_142 : decode cX6_addProduced 142 = .ok (.iconst 0, 1) := by decide +kernel
theorem dX6_addProduced_143 : decode cX6_addProduced 143 = .ok (.istore 6, 2) := by decide +kernel
theorem dX6_addProduced_145 : decode cX6_addProduced 145 = .ok (.iload 6, 2) := by decide +kernel
theorem dX6_addProduced_147 : decode cX6_addProduced 147 = .ok (.iload 5, 2) := by decide +kernel
theorem dX6_addProduced_149 : decode cX6_addProduced 149 = .ok (.if_icmp .ge 55, 3) := by decide +kernel
theorem dX6_addProduced_152 : decode cX6_addProduced 152 = .ok (.aload_n 0, 1) := by decide +kernel
theorem dX6_addProduced_153 : decode cX6_addProduced 153 = .ok (.getfield 37, 3) := by decide +kernel
theorem dX6_addProduced_156 : decode cX6_addProduced 156 = .ok (.aload_n 0, 1) := by decide +kernel
theorem dX6_addProduced_157 : decode cX6_addProduced 157 = .ok (.getfield 112, 3) := by decide +kernel
theorem dX6_addProduced_160 : decode cX6_addProduced 160 = .ok (.iload 4, 2) := by decide +kernel
theorem dX6_addProduced_162 : decode cX6_addProduced 162 = .ok (.ifCond .ge 12, 3) := by decide +kernel
theorem dX6_addProduced_165 : decode cX6_addProduced 165 = .ok (.aload_n 0, 1) := by decide +kernel
theorem dX6_addProduced_166 : decode cX6_addProduced 166 = .ok (.getfield 15, 3) := by decide +kernel
theorem dX6_addProduced_169 : decode cX6_addProduced 169 = .ok (.iload_n 3, 1) := by decide +kernel
theorem dX6_addProduced_170 : decode cX6_addProduced 170 = .ok (.iaload, 1) := by decide +kernel
theorem dX6_addProduced_171 : decode cX6_addProduced 171 = .ok (.goto 16, 3) := by decide +kernel
theorem dX6_addProduced_174 : decode cX6_addProduced 174 = .ok (.aload_n 0, 1) := by decide +kernel
theorem dX6_addProduced_175 : decode cX6_addProduced 175 = .ok (.getfield 28, 3) := by decide +kernel
theorem dX6_addProduced_178 : decode cX6_addProduced 178 = .ok (.bipush 8, 2) := by decide +kernel
theorem dX6_addProduced_180 : decode cX6_addProduced 180 = .ok (.iload 4, 2) := by decide +kernel
theorem dX6_addProduced_182 : decode cX6_addProduced 182 = .ok (.imul, 1) := by decide +kernel
theorem dX6_addProduced_183 : decode cX6_addProduced 183 = .ok (.iload 6, 2) := by decide +kernel
theorem dX6_addProduced_185 : decode cX6_addProduced 185 = .ok (.iadd, 1) := by decide +kernel
theorem dX6_addProduced_186 : decode cX6_addProduced 186 = .ok (.iaload, 1) := by decide +kernel
theorem dX6_addProduced_187 : decode cX6_addProduced 187 = .ok (.iastore, 1) := by decide +kernel
theorem dX6_addProduced_188 : decode cX6_addProduced 188 = .ok (.aload_n 0, 1) := by decide +kernel
theorem dX6_addProduced_189 : decode cX6_addProduced 189 = .ok (.dup, 1) := by decide +kernel
theorem dX6_addProduced_190 : decode cX6_addProduced 190 = .ok (.getfield 112, 3) := by decide +kernel
theorem dX6_addProduced_193 : decode cX6_addProduced 193 = .ok (.iconst 1, 1) := by decide +kernel
theorem dX6_addProduced_194 : decode cX6_addProduced 194 = .ok (.iadd, 1) := by decide +kernel
theorem dX6_addProduced_195 : decode cX6_addProduced 195 = .ok (.putfield 112, 3) := by decide +kernel
theorem dX6_addProduced_198 : decode cX6_addProduced 198 = .ok (.iinc 6 1, 3) := by decide +kernel
theorem dX6_addProduced_201 : decode cX6_addProduced 201 = .ok (.goto (-56), 3) := by decide +kernel
theorem dX6_addProduced_204 : decode cX6_addProduced 204 = .ok (.iinc 3 1, 3) := by decide +kernel
theorem dX6_addProduced_207 : decode cX6_addProduced 207 = .ok (.goto (-109), 3) := by decide +kernel
theorem dX6_addProduced_210 : decode cX6_addProduced 210 = .ok (.aload_n 0, 1) := by decide +kernel
theorem dX6_addProduced_211 : decode cX6_addProduced 211 = .ok (.invokevirtual 233, 3) := by decide +kernel
theorem dX6_addProduced_214 : decode cX6_addProduced 214 = .ok (.ireturn, 1) := by decide +kernel
theorem dX6_addWord_0 : decode cX6_addWord 0 = .ok (.aload_n 0, 1) := by decide +kernel
theorem dX6_addWord_1 : decode cX6_addWord 1 = .ok (.iconst 0, 1) := by decide +kernel
theorem dX6_addWord_2 : decode cX6_addWord 2 = .ok (.invokevirtual 135, 3) := by decide +kernel
theorem dX6_addWord_5 : decode cX6_addWord 5 = .ok (.ifCond .ne 6, 3) := by decide +kernel
theorem dX6_addWord_8 : decode cX6_addWord 8 = .ok (.bipush (-5), 2) := by decide +kernel
theorem dX6_addWord_10 : decode cX6_addWord 10 = .ok (.ireturn, 1) := by decide +kernel
theorem dX6_addWord_11 : decode cX6_addWord 11 = .ok (.aload_n 0, 1) := by decide +kernel
theorem dX6_addWord_12 : decode cX6_addWord 12 = .ok (.getfield 98, 3) := by decide +kernel
theorem dX6_addWord_15 : decode cX6_addWord 15 = .ok (.bipush 6, 2) := by decide +kernel
theorem dX6_addWord_17 : decode cX6_addWord 17 = .ok (.if_icmp .ne 8, 3) := by decide +kernel
theorem dX6_addWord_20 : decode cX6_addWord 20 = .ok (.bipush (-4), 2) := by decide +kernel
theorem dX6_addWord_22 : decode cX6_addWord 22 = .ok (.goto 7, 3) := by decide +kernel
theorem dX6_addWord_25 : decode cX6_addWord 25 = .ok (.aload_n 0, 1) := by decide +kernel
theorem dX6_addWord_26 : decode cX6_addWord 26 = .ok (.invokevirtual 233, 3) := by decide +kernel
theorem dX6_addWord_29 : decode cX6_addWord 29 = .ok (.ireturn, 1) := by decide +kernel
theorem dX6_isInSample_0 : decode cX6_isInSample 0 = .ok (.iload_n 1, 1) := by decide +kernel
theorem dX6_isInSample_1 : decode cX6_isInSample 1 = .ok (.iconst 0, 1) := by decide +kernel
theorem dX6_isInSample_2 : decode cX6_isInSample 2 = .ok (.aload_n 0, 1) := by decide +kernel
theorem dX6_isInSample_3 : decode cX6_isInSample 3 = .ok (.getfield 98, 3) := by decide +kernel
theorem dX6_isInSample_6 : decode cX6_isInSample 6 = .ok (.iconst 1, 1) := by decide +kernel
theorem dX6_isInSample_7 : decode cX6_isInSample 7 = .ok (.isub, 1) := by decide +kernel
theorem dX6_isInSample_8 : decode cX6_isInSample 8 = .ok (.invokestatic 101, 3) := by decide +kernel
theorem dX6_isInSample_11 : decode cX6_isInSample 11 = .ok (.ireturn, 1) := by decide +kernel
theorem dX6_removeWord_0 : decode cX6_removeWord 0 = .ok (.aload_n 0, 1) := by decide +kernel
theorem dX6_removeWord_1 : decode cX6_removeWord 1 = .ok (.iload_n 1, 1) := by decide +kernel
theorem dX6_removeWord_2 : decode cX6_removeWord 2 = .ok (.invokevirtual 236, 3) := by decide +kernel
theorem dX6_removeWord_5 : decode cX6_removeWord 5 = .ok (.ifCond .ne 6, 3) := by decide +kernel
theorem dX6_removeWord_8 : decode cX6_removeWord 8 = .ok (.bipush (-6), 2) := by decide +kernel
theorem dX6_removeWord_10 : decode cX6_removeWord 10 = .ok (.ireturn, 1) := by decide +kernel
theorem dX6_removeWord_11 : decode cX6_removeWord 11 = .ok (.iload_n 1, 1) := by decide +kernel
theorem dX6_removeWord_12 : decode cX6_removeWord 12 = .ok (.iconst 1, 1) := by decide +kernel
theorem dX6_removeWord_13 : decode cX6_removeWord 13 = .ok (.iadd, 1) := by decide +kernel
theorem dX6_removeWord_14 : decode cX6_removeWord 14 = .ok (.istore_n 2, 1) := by decide +kernel
theorem dX6_removeWord_15 : decode cX6_removeWord 15 = .ok (.iload_n 2, 1) := by decide +kernel
theorem dX6_removeWord_16 : decode cX6_removeWord 16 = .ok (.aload_n 0, 1) := by decide +kernel
theorem dX6_removeWord_17 : decode cX6_removeWord 17 = .ok (.getfield 98, 3) := by decide +kernel
theorem dX6_removeWord_20 : decode cX6_removeWord 20 = .ok (.if_icmp .ge 46, 3) := by decide +kernel
theorem dX6_removeWord_23 : decode cX6_removeWord 23 = .ok (.aload_n 0, 1) := by decide +kernel
theorem dX6_removeWord_24 : decode cX6_removeWord 24 = .ok (.getfield 22, 3) := by decide +kernel
theorem dX6_removeWord_27 : decode cX6_removeWord 27 = .ok (.bipush 8, 2) := by decide +kernel
theorem dX6_removeWord_29 : decode cX6_removeWord 29 = .ok (.iload_n 2, 1) := by decide +kernel
theorem dX6_removeWord_30 : decode cX6_removeWord 30 = .ok (.imul, 1) := by decide +kernel
theorem dX6_removeWord_31 : decode cX6_removeWord 31 = .ok (.aload_n 0, 1) := by decide +kernel
theorem dX6_removeWord_32 : decode cX6_removeWord 32 = .ok (.getfield 22, 3) := by decide +kernel
theorem dX6_removeWord_35 : decode cX6_removeWord 35 = .ok (.bipush 8, 2) := by decide +kernel
theorem dX6_removeWord_37 : decode cX6_removeWord 37 = .ok (.iload_n 2, 1) := by decide +kernel
theorem dX6_removeWord_38 : decode cX6_removeWord 38 = .ok (.iconst 1, 1) := by decide +kernel
theorem dX6_removeWord_39 : decode cX6_removeWord 39 = .ok (.isub, 1) := by decide +kernel
theorem dX6_removeWord_40 : decode cX6_removeWord 40 = .ok (.imul, 1) := by decide +kernel
theorem dX6_removeWord_41 : decode cX6_removeWord 41 = .ok (.bipush 8, 2) := by decide +kernel
theorem dX6_removeWord_43 : decode cX6_removeWord 43 = .ok (.invokestatic 125, 3) := by decide +kernel
theorem dX6_removeWord_46 : decode cX6_removeWord 46 = .ok (.aload_n 0, 1) := by decide +kernel
theorem dX6_removeWord_47 : decode cX6_removeWord 47 = .ok (.getfield 25, 3) := by decide +kernel
theorem dX6_removeWord_50 : decode cX6_removeWord 50 = .ok (.iload_n 2, 1) := by decide +kernel
theorem dX6_removeWord_51 : decode cX6_removeWord 51 = .ok (.iconst 1, 1) := by decide +kernel
theorem dX6_removeWord_52 : decode cX6_removeWord 52 = .ok (.isub, 1) := by decide +kernel
theorem dX6_removeWord_53 : decode cX6_removeWord 53 = .ok (.aload_n 0, 1) := by decide +kernel
theorem dX6_removeWord_54 : decode cX6_removeWord 54 = .ok (.getfield 25, 3) := by decide +kernel
theorem dX6_removeWord_57 : decode cX6_removeWord 57 = .ok (.iload_n 2, 1) := by decide +kernel
theorem dX6_removeWord_58 : decode cX6_removeWord 58 = .ok (.iaload, 1) := by decide +kernel
theorem dX6_removeWord_59 : decode cX6_removeWord 59 = .ok (.iastore, 1) := by decide +kernel
theorem dX6_removeWord_60 : decode cX6_removeWord 60 = .ok (.iinc 2 1, 3) := by decide +kernel
theorem dX6_removeWord_63 : decode cX6_removeWord 63 = .ok (.goto (-48), 3) := by decide +kernel
theorem dX6_removeWord_66 : decode cX6_removeWord 66 = .ok (.aload_n 0, 1) := by decide +kernel
theorem dX6_removeWord_67 : decode cX6_removeWord 67 = .ok (.dup, 1) := by decide +kernel
theorem dX6_removeWord_68 : decode cX6_removeWord 68 = .ok (.getfield 98, 3) := by decide +kernel
theorem dX6_removeWord_71 : decode cX6_removeWord 71 = .ok (.iconst 1, 1) := by decide +kernel
theorem dX6_removeWord_72 : decode cX6_removeWord 72 = .ok (.isub, 1) := by decide +kernel
theorem dX6_removeWord_73 : decode cX6_removeWord 73 = .ok (.putfield 98, 3) := by decide +kernel
theorem dX6_removeWord_76 : decode cX6_removeWord 76 = .ok (.aload_n 0, 1) := by decide +kernel
theorem dX6_removeWord_77 : decode cX6_removeWord 77 = .ok (.getfield 98, 3) := by decide +kernel
theorem dX6_removeWord_80 : decode cX6_removeWord 80 = .ok (.ireturn, 1) := by decide +kernel
theorem dX6_sampleSize_0 : decode cX6_sampleSize 0 = .ok (.aload_n 0, 1) := by decide +kernel
theorem dX6_sampleSize_1 : decode cX6_sampleSize 1 = .ok (.getfield 98, 3) := by decide +kernel
theorem dX6_sampleSize_4 : decode cX6_sampleSize 4 = .ok (.ireturn, 1) := by decide +kernel
theorem dX6_codeOf__0 : decode cX6_codeOf_ 0 = .ok (.lconst 0, 1) := by decide +kernel
theorem dX6_codeOf__1 : decode cX6_codeOf_ 1 = .ok (.lstore_n 3, 1) := by decide +kernel
theorem dX6_codeOf__2 : decode cX6_codeOf_ 2 = .ok (.iload_n 2, 1) := by decide +kernel
theorem dX6_codeOf__3 : decode cX6_codeOf_ 3 = .ok (.iconst 1, 1) := by decide +kernel
theorem dX6_codeOf__4 : decode cX6_codeOf_ 4 = .ok (.isub, 1) := by decide +kernel
theorem dX6_codeOf__5 : decode cX6_codeOf_ 5 = .ok (.istore 5, 2) := by decide +kernel
theorem dX6_codeOf__7 : decode cX6_codeOf_ 7 = .ok (.iload 5, 2) := by decide +kernel
theorem dX6_codeOf__9 : decode cX6_codeOf_ 9 = .ok (.ifCond .lt 25, 3) := by decide +kernel
theorem dX6_codeOf__12 : decode cX6_codeOf_ 12 = .ok (.ldc2_w 239, 3) := by decide +kernel
theorem dX6_codeOf__15 : decode cX6_codeOf_ 15 = .ok (.lload_n 3, 1) := by decide +kernel
theorem dX6_codeOf__16 : decode cX6_codeOf_ 16 = .ok (.lmul, 1) := by decide +kernel
theorem dX6_codeOf__17 : decode cX6_codeOf_ 17 = .ok (.aload_n 0, 1) := by decide +kernel
theorem dX6_codeOf__18 : decode cX6_codeOf_ 18 = .ok (.iload_n 1, 1) := by decide +kernel
theorem dX6_codeOf__19 : decode cX6_codeOf_ 19 = .ok (.iload 5, 2) := by decide +kernel
theorem dX6_codeOf__21 : decode cX6_codeOf_ 21 = .ok (.iadd, 1) := by decide +kernel
theorem dX6_codeOf__22 : decode cX6_codeOf_ 22 = .ok (.iaload, 1) := by decide +kernel
theorem dX6_codeOf__23 : decode cX6_codeOf_ 23 = .ok (.i2l, 1) := by decide +kernel
theorem dX6_codeOf__24 : decode cX6_codeOf_ 24 = .ok (.ladd, 1) := by decide +kernel
theorem dX6_codeOf__25 : decode cX6_codeOf_ 25 = .ok (.lconst 1, 1) := by decide +kernel
theorem dX6_codeOf__26 : decode cX6_codeOf_ 26 = .ok (.ladd, 1) := by decide +kernel
theorem dX6_codeOf__27 : decode cX6_codeOf_ 27 = .ok (.lstore_n 3, 1) := by decide +kernel
theorem dX6_codeOf__28 : decode cX6_codeOf_ 28 = .ok (.iinc 5 (-1), 3) := by decide +kernel
theorem dX6_codeOf__31 : decode cX6_codeOf_ 31 = .ok (.goto (-24), 3) := by decide +kernel
theorem dX6_codeOf__34 : decode cX6_codeOf_ 34 = .ok (.lload_n 3, 1) := by decide +kernel
theorem dX6_codeOf__35 : decode cX6_codeOf_ 35 = .ok (.lreturn, 1) := by decide +kernel
theorem dX6_sampleCode_0 : decode cX6_sampleCode 0 = .ok (.aload_n 0, 1) := by decide +kernel
theorem dX6_sampleCode_1 : decode cX6_sampleCode 1 = .ok (.iload_n 1, 1) := by decide +kernel
theorem dX6_sampleCode_2 : decode cX6_sampleCode 2 = .ok (.invokevirtual 236, 3) := by decide +kernel
theorem dX6_sampleCode_5 : decode cX6_sampleCode 5 = .ok (.ifCond .eq 23, 3) := by decide +kernel
theorem dX6_sampleCode_8 : decode cX6_sampleCode 8 = .ok (.aload_n 0, 1) := by decide +kernel
theorem dX6_sampleCode_9 : decode cX6_sampleCode 9 = .ok (.getfield 22, 3) := by decide +kernel
theorem dX6_sampleCode_12 : decode cX6_sampleCode 12 = .ok (.bipush 8, 2) := by decide +kernel
theorem dX6_sampleCode_14 : decode cX6_sampleCode 14 = .ok (.iload_n 1, 1) := by decide +kernel
theorem dX6_sampleCode_15 : decode cX6_sampleCode 15 = .ok (.imul, 1) := by decide +kernel
theorem dX6_sampleCode_16 : decode cX6_sampleCode 16 = .ok (.aload_n 0, 1) := by decide +kernel
theorem dX6_sampleCode_17 : decode cX6_sampleCode 17 = .ok (.getfield 25, 3) := by decide +kernel
theorem dX6_sampleCode_20 : decode cX6_sampleCode 20 = .ok (.iload_n 1, 1) := by decide +kernel
theorem dX6_sampleCode_21 : decode cX6_sampleCode 21 = .ok (.iaload, 1) := by decide +kernel
theorem dX6_sampleCode_22 : decode cX6_sampleCode 22 = .ok (.invokestatic 241, 3) := by decide +kernel
theorem dX6_sampleCode_25 : decode cX6_sampleCode 25 = .ok (.goto 6, 3) := by decide +kernel
theorem dX6_sampleCode_28 : decode cX6_sampleCode 28 = .ok (.ldc2_w 244, 3) := by decide +kernel
theorem dX6_sampleCode_31 : decode cX6_sampleCode 31 = .ok (.lreturn, 1) := by decide +kernel
theorem dX6_misfit_0 : decode cX6_misfit 0 = .ok (.iconst 0, 1) := by decide +kernel
theorem dX6_misfit_1 : decode cX6_misfit 1 = .ok (.istore 5, 2) := by decide +kernel
theorem dX6_misfit_3 : decode cX6_misfit 3 = .ok (.iload 5, 2) := by decide +kernel
theorem dX6_misfit_5 : decode cX6_misfit 5 = .ok (.aload_n 0, 1) := by decide +kernel
theorem dX6_misfit_6 : decode cX6_misfit 6 = .ok (.getfield 98, 3) := by decide +kernel
theorem dX6_misfit_9 : decode cX6_misfit 9 = .ok (.if_icmp .ge 41, 3) := by decide +kernel
theorem dX6_misfit_12 : decode cX6_misfit 12 = .ok (.aload_n 0, 1) := by decide +kernel
theorem dX6_misfit_13 : decode cX6_misfit 13 = .ok (.aload_n 1, 1) := by decide +kernel
theorem dX6_misfit_14 : decode cX6_misfit 14 = .ok (.iload_n 2, 1) := by decide +kernel
theorem dX6_misfit_15 : decode cX6_misfit 15 = .ok (.iload_n 3, 1) := by decide +kernel
theorem dX6_misfit_16 : decode cX6_misfit 16 = .ok (.aload_n 0, 1) := by decide +kernel
theorem dX6_misfit_17 : decode cX6_misfit 17 = .ok (.getfield 22, 3) := by decide +kernel
theorem dX6_misfit_20 : decode cX6_misfit 20 = .ok (.bipush 8, 2) := by decide +kernel
theorem dX6_misfit_22 : decode cX6_misfit 22 = .ok (.iload 5, 2) := by decide +kernel
theorem dX6_misfit_24 : decode cX6_misfit 24 = .ok (.imul, 1) := by decide +kernel
theorem dX6_misfit_25 : decode cX6_misfit 25 = .ok (.aload_n 0, 1) := by decide +kernel
theorem dX6_misfit_26 : decode cX6_misfit 26 = .ok (.getfield 25, 3) := by decide +kernel
theorem dX6_misfit_29 : decode cX6_misfit 29 = .ok (.iload 5, 2) := by decide +kernel
theorem dX6_misfit_31 : decode cX6_misfit 31 = .ok (.iaload, 1) := by decide +kernel
theorem dX6_misfit_32 : decode cX6_misfit 32 = .ok (.iload 4, 2) := by decide +kernel
theorem dX6_misfit_34 : decode cX6_misfit 34 = .ok (.iconst 1, 1) := by decide +kernel
theorem dX6_misfit_35 : decode cX6_misfit 35 = .ok (.invokevirtual 217, 3) := by decide +kernel
theorem dX6_misfit_38 : decode cX6_misfit 38 = .ok (.ifCond .ne 6, 3) := by decide +kernel
theorem dX6_misfit_41 : decode cX6_misfit 41 = .ok (.iload 5, 2) := by decide +kernel
theorem dX6_misfit_43 : decode cX6_misfit 43 = .ok (.ireturn, 1) := by decide +kernel
theorem dX6_misfit_44 : decode cX6_misfit 44 = .ok (.iinc 5 1, 3) := by decide +kernel
theorem dX6_misfit_47 : decode cX6_misfit 47 = .ok (.goto (-44), 3) := by decide +kernel
theorem dX6_misfit_50 : decode cX6_misfit 50 = .ok (.bipush (-6), 2) := by decide +kernel
theorem dX6_misfit_52 : decode cX6_misfit 52 = .ok (.ireturn, 1) := by decide +kernel
theorem dX6_firstMisfit_0 : decode cX6_firstMisfit 0 = .ok (.iload_n 1, 1) := by decide +kernel
theorem dX6_firstMisfit_1 : decode cX6_firstMisfit 1 = .ok (.invokestatic 139, 3) := by decide +kernel
theorem dX6_firstMisfit_4 : decode cX6_firstMisfit 4 = .ok (.ifCond .ne 6, 3) := by decide +kernel
theorem dX6_firstMisfit_7 : decode cX6_firstMisfit 7 = .ok (.bipush (-2), 2) := by decide +kernel
theorem dX6_firstMisfit_9 : decode cX6_firstMisfit 9 = .ok (.ireturn, 1) := by decide +kernel
theorem dX6_firstMisfit_10 : decode cX6_firstMisfit 10 = .ok (.iload_n 2, 1) := by decide +kernel
theorem dX6_firstMisfit_11 : decode cX6_firstMisfit 11 = .ok (.invokestatic 221, 3) := by decide +kernel
theorem dX6_firstMisfit_14 : decode cX6_firstMisfit 14 = .ok (.ifCond .eq 25, 3) := by decide +kernel
theorem dX6_firstMisfit_17 : decode cX6_firstMisfit 17 = .ok (.aload_n 0, 1) := by decide +kernel
theorem dX6_firstMisfit_18 : decode cX6_firstMisfit 18 = .ok (.aload_n 0, 1) := by decide +kernel
theorem dX6_firstMisfit_19 : decode cX6_firstMisfit 19 = .ok (.getfield 15, 3) := by decide +kernel
theorem dX6_firstMisfit_22 : decode cX6_firstMisfit 22 = .ok (.bipush 8, 2) := by decide +kernel
theorem dX6_firstMisfit_24 : decode cX6_firstMisfit 24 = .ok (.iload_n 1, 1) := by decide +kernel
theorem dX6_firstMisfit_25 : decode cX6_firstMisfit 25 = .ok (.imul, 1) := by decide +kernel
theorem dX6_firstMisfit_26 : decode cX6_firstMisfit 26 = .ok (.aload_n 0, 1) := by decide +kernel
theorem dX6_firstMisfit_27 : decode cX6_firstMisfit 27 = .ok (.getfield 19, 3) := by decide +kernel
theorem dX6_firstMisfit_30 : decode cX6_firstMisfit 30 = .ok (.iload_n 1, 1) := by decide +kernel
theorem dX6_firstMisfit_31 : decode cX6_firstMisfit 31 = .ok (.iaload, 1) := by decide +kernel
theorem dX6_firstMisfit_32 : decode cX6_firstMisfit 32 = .ok (.iload_n 2, 1) := by decide +kernel
theorem dX6_firstMisfit_33 : decode cX6_firstMisfit 33 = .ok (.invokevirtual 246, 3) := by decide +kernel
theorem dX6_firstMisfit_36 : decode cX6_firstMisfit 36 = .ok (.goto 4, 3) := by decide +kernel
theorem dX6_firstMisfit_39 : decode cX6_firstMisfit 39 = .ok (.iconst (-1), 1) := by decide +kernel
theorem dX6_firstMisfit_40 : decode cX6_firstMisfit 40 = .ok (.ireturn, 1) := by decide +kernel
theorem dX6_covers_0 : decode cX6_covers 0 = .ok (.aload_n 0, 1) := by decide +kernel
theorem dX6_covers_1 : decode cX6_covers 1 = .ok (.aload_n 0, 1) := by decide +kernel
theorem dX6_covers_2 : decode cX6_covers 2 = .ok (.getfield 15, 3) := by decide +kernel
theorem dX6_covers_5 : decode cX6_covers 5 = .ok (.bipush 8, 2) := by decide +kernel
theorem dX6_covers_7 : decode cX6_covers 7 = .ok (.iload_n 1, 1) := by decide +kernel
theorem dX6_covers_8 : decode cX6_covers 8 = .ok (.imul, 1) := by decide +kernel
theorem dX6_covers_9 : decode cX6_covers 9 = .ok (.aload_n 0, 1) := by decide +kernel
theorem dX6_covers_10 : decode cX6_covers 10 = .ok (.getfield 19, 3) := by decide +kernel
theorem dX6_covers_13 : decode cX6_covers 13 = .ok (.iload_n 1, 1) := by decide +kernel
theorem dX6_covers_14 : decode cX6_covers 14 = .ok (.iaload, 1) := by decide +kernel
theorem dX6_covers_15 : decode cX6_covers 15 = .ok (.aload_n 0, 1) := by decide +kernel
theorem dX6_covers_16 : decode cX6_covers 16 = .ok (.getfield 15, 3) := by decide +kernel
theorem dX6_covers_19 : decode cX6_covers 19 = .ok (.bipush 8, 2) := by decide +kernel
theorem dX6_covers_21 : decode cX6_covers 21 = .ok (.iload_n 2, 1) := by decide +kernel
theorem dX6_covers_22 : decode cX6_covers 22 = .ok (.imul, 1) := by decide +kernel
theorem dX6_covers_23 : decode cX6_covers 23 = .ok (.aload_n 0, 1) := by decide +kernel
theorem dX6_covers_24 : decode cX6_covers 24 = .ok (.getfield 19, 3) := by decide +kernel
theorem dX6_covers_27 : decode cX6_covers 27 = .ok (.iload_n 2, 1) := by decide +kernel
theorem dX6_covers_28 : decode cX6_covers 28 = .ok (.iaload, 1) := by decide +kernel
theorem dX6_covers_29 : decode cX6_covers 29 = .ok (.iload_n 3, 1) := by decide +kernel
theorem dX6_covers_30 : decode cX6_covers 30 = .ok (.iconst 1, 1) := by decide +kernel
theorem dX6_covers_31 : decode cX6_covers 31 = .ok (.invokevirtual 217, 3) := by decide +kernel
theorem dX6_covers_34 : decode cX6_covers 34 = .ok (.iconst 1, 1) := by decide +kernel
theorem dX6_covers_35 : decode cX6_covers 35 = .ok (.if_icmp .ne 7, 3) := by decide +kernel
theorem dX6_covers_38 : decode cX6_covers 38 = .ok (.iconst 1, 1) := by decide +kernel
theorem dX6_covers_39 : decode cX6_covers 39 = .ok (.goto 4, 3) := by decide +kernel
theorem dX6_covers_42 : decode cX6_covers 42 = .ok (.iconst 0, 1) := by decide +kernel
theorem dX6_covers_43 : decode cX6_covers 43 = .ok (.ireturn, 1) := by decide +kernel
theorem dX6_isMoreGeneral_0 : decode cX6_isMoreGeneral 0 = .ok (.iload_n 1, 1) := by decide +kernel
theorem dX6_isMoreGeneral_1 : decode cX6_isMoreGeneral 1 = .ok (.invokestatic 139, 3) := by decide +kernel
theorem dX6_isMoreGeneral_4 : decode cX6_isMoreGeneral 4 = .ok (.ifCond .eq 10, 3) := by decide +kernel
theorem dX6_isMoreGeneral_7 : decode cX6_isMoreGeneral 7 = .ok (.iload_n 2, 1) := by decide +kernel
theorem dX6_isMoreGeneral_8 : decode cX6_isMoreGeneral 8 = .ok (.invokestatic 139, 3) := by decide +kernel
theorem dX6_isMoreGeneral_11 : decode cX6_isMoreGeneral 11 = .ok (.ifCond .ne 6, 3) := by decide +kernel
theorem dX6_isMoreGeneral_14 : decode cX6_isMoreGeneral 14 = .ok (.bipush (-2), 2) := by decide +kernel
theorem dX6_isMoreGeneral_16 : decode cX6_isMoreGeneral 16 = .ok (.ireturn, 1) := by decide +kernel
theorem dX6_isMoreGeneral_17 : decode cX6_isMoreGeneral 17 = .ok (.iload_n 3, 1) := by decide +kernel
theorem dX6_isMoreGeneral_18 : decode cX6_isMoreGeneral 18 = .ok (.invokestatic 221, 3) := by decide +kernel
theorem dX6_isMoreGeneral_21 : decode cX6_isMoreGeneral 21 = .ok (.ifCond .ne 7, 3) := by decide +kernel
theorem dX6_isMoreGeneral_24 : decode cX6_isMoreGeneral 24 = .ok (.iconst (-1), 1) := by decide +kernel
theorem dX6_isMoreGeneral_25 : decode cX6_isMoreGeneral 25 = .ok (.goto 18, 3) := by decide +kernel
theorem dX6_isMoreGeneral_28 : decode cX6_isMoreGeneral 28 = .ok (.aload_n 0, 1) := by decide +kernel
theorem dX6_isMoreGeneral_29 : decode cX6_isMoreGeneral 29 = .ok (.iload_n 1, 1) := by decide +kernel
theorem dX6_isMoreGeneral_30 : decode cX6_isMoreGeneral 30 = .ok (.iload_n 2, 1) := by decide +kernel
theorem dX6_isMoreGeneral_31 : decode cX6_isMoreGeneral 31 = .ok (.iload_n 3, 1) := by decide +kernel
theorem dX6_isMoreGeneral_32 : decode cX6_isMoreGeneral 32 = .ok (.invokevirtual 250, 3) := by decide +kernel
theorem dX6_isMoreGeneral_35 : decode cX6_isMoreGeneral 35 = .ok (.ifCond .eq 7, 3) := by decide +kernel
theorem dX6_isMoreGeneral_38 : decode cX6_isMoreGeneral 38 = .ok (.iconst 1, 1) := by decide +kernel
theorem dX6_isMoreGeneral_39 : decode cX6_isMoreGeneral 39 = .ok (.goto 4, 3) := by decide +kernel
theorem dX6_isMoreGeneral_42 : decode cX6_isMoreGeneral 42 = .ok (.iconst 0, 1) := by decide +kernel
theorem dX6_isMoreGeneral_43 : decode cX6_isMoreGeneral 43 = .ok (.ireturn, 1) := by decide +kernel
theorem dX6_chainBreak_0 : decode cX6_chainBreak 0 = .ok (.iload_n 1, 1) := by decide +kernel
theorem dX6_chainBreak_1 : decode cX6_chainBreak 1 = .ok (.invokestatic 139, 3) := by decide +kernel
theorem dX6_chainBreak_4 : decode cX6_chainBreak 4 = .ok (.ifCond .eq 10, 3) := by decide +kernel
theorem dX6_chainBreak_7 : decode cX6_chainBreak 7 = .ok (.iload_n 2, 1) := by decide +kernel
theorem dX6_chainBreak_8 : decode cX6_chainBreak 8 = .ok (.invokestatic 139, 3) := by decide +kernel
theorem dX6_chainBreak_11 : decode cX6_chainBreak 11 = .ok (.ifCond .ne 6, 3) := by decide +kernel
theorem dX6_chainBreak_14 : decode cX6_chainBreak 14 = .ok (.bipush (-2), 2) := by decide +kernel
theorem dX6_chainBreak_16 : decode cX6_chainBreak 16 = .ok (.ireturn, 1) := by decide +kernel
theorem dX6_chainBreak_17 : decode cX6_chainBreak 17 = .ok (.iload_n 2, 1) := by decide +kernel
theorem dX6_chainBreak_18 : decode cX6_chainBreak 18 = .ok (.iload_n 1, 1) := by decide +kernel
theorem dX6_chainBreak_19 : decode cX6_chainBreak 19 = .ok (.if_icmp .lt 10, 3) := by decide +kernel
theorem dX6_chainBreak_22 : decode cX6_chainBreak 22 = .ok (.iload_n 3, 1) := by decide +kernel
theorem dX6_chainBreak_23 : decode cX6_chainBreak 23 = .ok (.invokestatic 221, 3) := by decide +kernel
theorem dX6_chainBreak_26 : decode cX6_chainBreak 26 = .ok (.ifCond .ne 5, 3) := by decide +kernel
theorem dX6_chainBreak_29 : decode cX6_chainBreak 29 = .ok (.iconst (-1), 1) := by decide +kernel
theorem dX6_chainBreak_30 : decode cX6_chainBreak 30 = .ok (.ireturn, 1) := by decide +kernel
theorem dX6_chainBreak_31 : decode cX6_chainBreak 31 = .ok (.iload_n 1, 1) := by decide +kernel
theorem dX6_chainBreak_32 : decode cX6_chainBreak 32 = .ok (.istore 4, 2) := by decide +kernel
theorem dX6_chainBreak_34 : decode cX6_chainBreak 34 = .ok (.iload 4, 2) := by decide +kernel
theorem dX6_chainBreak_36 : decode cX6_chainBreak 36 = .ok (.iload_n 2, 1) := by decide +kernel
theorem dX6_chainBreak_37 : decode cX6_chainBreak 37 = .ok (.if_icmp .ge 40, 3) := by decide +kernel
theorem dX6_chainBreak_40 : decode cX6_chainBreak 40 = .ok (.aload_n 0, 1) := by decide +kernel
theorem dX6_chainBreak_41 : decode cX6_chainBreak 41 = .ok (.iload 4, 2) := by decide +kernel
theorem dX6_chainBreak_43 : decode cX6_chainBreak 43 = .ok (.iload 4, 2) := by decide +kernel
theorem dX6_chainBreak_45 : decode cX6_chainBreak 45 = .ok (.iconst 1, 1) := by decide +kernel
theorem dX6_chainBreak_46 : decode cX6_chainBreak 46 = .ok (.iadd, 1) := by decide +kernel
theorem dX6_chainBreak_47 : decode cX6_chainBreak 47 = .ok (.iload_n 3, 1) := by decide +kernel
theorem dX6_chainBreak_48 : decode cX6_chainBreak 48 = .ok (.invokevirtual 250, 3) := by decide +kernel
theorem dX6_chainBreak_51 : decode cX6_chainBreak 51 = .ok (.ifCond .eq 17, 3) := by decide +kernel
theorem dX6_chainBreak_54 : decode cX6_chainBreak 54 = .ok (.aload_n 0, 1) := by decide +kernel
theorem dX6_chainBreak_55 : decode cX6_chainBreak 55 = .ok (.iload 4, 2) := by decide +kernel
theorem dX6_chainBreak_57 : decode cX6_chainBreak 57 = .ok (.iconst 1, 1) := by decide +kernel
theorem dX6_chainBreak_58 : decode cX6_chainBreak 58 = .ok (.iadd, 1) := by decide +kernel
theorem dX6_chainBreak_59 : decode cX6_chainBreak 59 = .ok (.iload 4, 2) := by decide +kernel
theorem dX6_chainBreak_61 : decode cX6_chainBreak 61 = .ok (.iload_n 3, 1) := by decide +kernel
theorem dX6_chainBreak_62 : decode cX6_chainBreak 62 = .ok (.invokevirtual 250, 3) := by decide +kernel
theorem dX6_chainBreak_65 : decode cX6_chainBreak 65 = .ok (.ifCond .eq 6, 3) := by decide +kernel
theorem dX6_chainBreak_68 : decode cX6_chainBreak 68 = .ok (.iload 4, 2) := by decide +kernel
theorem dX6_chainBreak_70 : decode cX6_chainBreak 70 = .ok (.ireturn, 1) := by decide +kernel
theorem dX6_chainBreak_71 : decode cX6_chainBreak 71 = .ok (.iinc 4 1, 3) := by decide +kernel
theorem dX6_chainBreak_74 : decode cX6_chainBreak 74 = .ok (.goto (-40), 3) := by decide +kernel
theorem dX6_chainBreak_77 : decode cX6_chainBreak 77 = .ok (.bipush (-6), 2) := by decide +kernel
theorem dX6_chainBreak_79 : decode cX6_chainBreak 79 = .ok (.ireturn, 1) := by decide +kernel
theorem dX6_search_0 : decode cX6_search 0 = .ok (.iload_n 1, 1) := by decide +kernel
theorem dX6_search_1 : decode cX6_search 1 = .ok (.iload_n 2, 1) := by decide +kernel
theorem dX6_search_2 : decode cX6_search 2 = .ok (.if_icmp .ne 87, 3) := by decide +kernel
theorem dX6_search_5 : decode cX6_search 5 = .ok (.iload 4, 2) := by decide +kernel
theorem dX6_search_7 : decode cX6_search 7 = .ok (.iconst 1, 1) := by decide +kernel
theorem dX6_search_8 : decode cX6_search 8 = .ok (.if_icmp .gt 8, 3) := by decide +kernel
theorem dX6_search_11 : decode cX6_search 11 = .ok (.iload_n 3, 1) := by decide +kernel
theorem dX6_search_12 : decode cX6_search 12 = .ok (.iconst 1, 1) := by decide +kernel
theorem dX6_search_13 : decode cX6_search 13 = .ok (.if_icmp .ne 7, 3) := by decide +kernel
theorem dX6_search_16 : decode cX6_search 16 = .ok (.iconst 1, 1) := by decide +kernel
theorem dX6_search_17 : decode cX6_search 17 = .ok (.goto 4, 3) := by decide +kernel
theorem dX6_search_20 : decode cX6_search 20 = .ok (.iconst 0, 1) := by decide +kernel
theorem dX6_search_21 : decode cX6_search 21 = .ok (.istore 6, 2) := by decide +kernel
theorem dX6_search_23 : decode cX6_search 23 = .ok (.iload 6, 2) := by decide +kernel
theorem dX6_search_25 : decode cX6_search 25 = .ok (.ifCond .eq 63, 3) := by decide +kernel
theorem dX6_search_28 : decode cX6_search 28 = .ok (.aload_n 0, 1) := by decide +kernel
theorem dX6_search_29 : decode cX6_search 29 = .ok (.getfield 253, 3) := by decide +kernel
theorem dX6_search_32 : decode cX6_search 32 = .ok (.ifCond .eq 20, 3) := by decide +kernel
theorem dX6_search_35 : decode cX6_search 35 = .ok (.aload_n 0, 1) := by decide +kernel
theorem dX6_search_36 : decode cX6_search 36 = .ok (.getfield 55, 3) := by decide +kernel
theorem dX6_search_39 : decode cX6_search 39 = .ok (.iconst 0, 1) := by decide +kernel
theorem dX6_search_40 : decode cX6_search 40 = .ok (.aload_n 0, 1) := by decide +kernel
theorem dX6_search_41 : decode cX6_search 41 = .ok (.getfield 58, 3) := by decide +kernel
theorem dX6_search_44 : decode cX6_search 44 = .ok (.iconst 0, 1) := by decide +kernel
theorem dX6_search_45 : decode cX6_search 45 = .ok (.iload_n 2, 1) := by decide +kernel
theorem dX6_search_46 : decode cX6_search 46 = .ok (.invokestatic 163, 3) := by decide +kernel
theorem dX6_search_49 : decode cX6_search 49 = .ok (.ifCond .le 39, 3) := by decide +kernel
theorem dX6_search_52 : decode cX6_search 52 = .ok (.aload_n 0, 1) := by decide +kernel
theorem dX6_search_53 : decode cX6_search 53 = .ok (.aload_n 0, 1) := by decide +kernel
theorem dX6_search_54 : decode cX6_search 54 = .ok (.getfield 55, 3) := by decide +kernel
theorem dX6_search_57 : decode cX6_search 57 = .ok (.iconst 0, 1) := by decide +kernel
theorem dX6_search_58 : decode cX6_search 58 = .ok (.iload_n 2, 1) := by decide +kernel
theorem dX6_search_59 : decode cX6_search 59 = .ok (.iload 5, 2) := by decide +kernel
theorem dX6_search_61 : decode cX6_search 61 = .ok (.invokevirtual 246, 3) := by decide +kernel
theorem dX6_search_64 : decode cX6_search 64 = .ok (.bipush (-6), 2) := by decide +kernel
theorem dX6_search_66 : decode cX6_search 66 = .ok (.if_icmp .ne 22, 3) := by decide +kernel
theorem dX6_search_69 : decode cX6_search 69 = .ok (.aload_n 0, 1) := by decide +kernel
theorem dX6_search_70 : decode cX6_search 70 = .ok (.getfield 55, 3) := by decide +kernel
theorem dX6_search_73 : decode cX6_search 73 = .ok (.iconst 0, 1) := by decide +kernel
theorem dX6_search_74 : decode cX6_search 74 = .ok (.aload_n 0, 1) := by decide +kernel
theorem dX6_search_75 : decode cX6_search 75 = .ok (.getfield 58, 3) := by decide +kernel
theorem dX6_search_78 : decode cX6_search 78 = .ok (.iconst 0, 1) := by decide +kernel
theorem dX6_search_79 : decode cX6_search 79 = .ok (.iload_n 2, 1) := by decide +kernel
theorem dX6_search_80 : decode cX6_search 80 = .ok (.invokestatic 125, 3) := by decide +kernel
theorem dX6_search_83 : decode cX6_search 83 = .ok (.aload_n 0, 1) := by decide +kernel
theorem dX6_search_84 : decode cX6_search 84 = .ok (.iconst 1, 1) := by decide +kernel
theorem dX6_search_85 : decode cX6_search 85 = .ok (.putfield 253, 3) := by decide +kernel
theorem dX6_search_88 : decode cX6_search 88 = .ok (.return_, 1) := by decide +kernel
theorem dX6_search_89 : decode cX6_search 89 = .ok (.iconst 0, 1) := by decide +kernel
theorem dX6_search_90 : decode cX6_search 90 = .ok (.istore 6, 2) := by decide +kernel
theorem dX6_search_92 : decode cX6_search 92 = .ok (.iload 6, 2) := by decide +kernel
theorem dX6_search_94 : decode cX6_search 94 = .ok (.aload_n 0, 1) := by decide +kernel
theorem dX6_search_95 : decode cX6_search 95 = .ok (.getfield 9, 3) := by decide +kernel
theorem dX6_search_98 : decode cX6_search 98 = .ok (.if_icmp .ge 30, 3) := by decide +kernel
theorem dX6_search_101 : decode cX6_search 101 = .ok (.aload_n 0, 1) := by decide +kernel
theorem dX6_search_102 : decode cX6_search 102 = .ok (.getfield 55, 3) := by decide +kernel
theorem dX6_search_105 : decode cX6_search 105 = .ok (.iload_n 1, 1) := by decide +kernel
theorem dX6_search_106 : decode cX6_search 106 = .ok (.iload 6, 2) := by decide +kernel
theorem dX6_search_108 : decode cX6_search 108 = .ok (.iastore, 1) := by decide +kernel
theorem dX6_search_109 : decode cX6_search 109 = .ok (.aload_n 0, 1) := by decide +kernel
theorem dX6_search_110 : decode cX6_search 110 = .ok (.iload_n 1, 1) := by decide +kernel
theorem dX6_search_111 : decode cX6_search 111 = .ok (.iconst 1, 1) := by decide +kernel
theorem dX6_search_112 : decode cX6_search 112 = .ok (.iadd, 1) := by decide +kernel
theorem dX6_search_113 : decode cX6_search 113 = .ok (.iload_n 2, 1) := by decide +kernel
theorem dX6_search_114 : decode cX6_search 114 = .ok (.iload_n 3, 1) := by decide +kernel
theorem dX6_search_115 : decode cX6_search 115 = .ok (.iload 4, 2) := by decide +kernel
theorem dX6_search_117 : decode cX6_search 117 = .ok (.iload 5, 2) := by decide +kernel
theorem dX6_search_119 : decode cX6_search 119 = .ok (.invokevirtual 257, 3) := by decide +kernel
theorem dX6_search_122 : decode cX6_search 122 = .ok (.iinc 6 1, 3) := by decide +kernel
theorem dX6_search_125 : decode cX6_search 125 = .ok (.goto (-33), 3) := by decide +kernel
theorem dX6_search_128 : decode cX6_search 128 = .ok (.iconst 0, 1) := by decide +kernel
theorem dX6_search_129 : decode cX6_search 129 = .ok (.istore 6, 2) := by decide +kernel
theorem dX6_search_131 : decode cX6_search 131 = .ok (.iload 6, 2) := by decide +kernel
theorem dX6_search_133 : decode cX6_search 133 = .ok (.iload_n 3, 1) := by decide +kernel
theorem dX6_search_134 : decode cX6_search 134 = .ok (.if_icmp .gt 52, 3) := by decide +kernel
theorem dX6_search_137 : decode cX6_search 137 = .ok (.iload 6, 2) := by decide +kernel
theorem dX6_search_139 : decode cX6_search 139 = .ok (.iload 4, 2) := by decide +kernel
theorem dX6_search_141 : decode cX6_search 141 = .ok (.if_icmp .ge 45, 3) := by decide +kernel
theorem dX6_search_144 : decode cX6_search 144 = .ok (.aload_n 0, 1) := by decide +kernel
theorem dX6_search_145 : decode cX6_search 145 = .ok (.getfield 55, 3) := by decide +kernel
theorem dX6_search_148 : decode cX6_search 148 = .ok (.iload_n 1, 1) := by decide +kernel
theorem dX6_search_149 : decode cX6_search 149 = .ok (.bipush 10, 2) := by decide +kernel
theorem dX6_search_151 : decode cX6_search 151 = .ok (.iload 6, 2) := by decide +kernel
theorem dX6_search_153 : decode cX6_search 153 = .ok (.iadd, 1) := by decide +kernel
theorem dX6_search_154 : decode cX6_search 154 = .ok (.iastore, 1) := by decide +kernel
theorem dX6_search_155 : decode cX6_search 155 = .ok (.aload_n 0, 1) := by decide +kernel
theorem dX6_search_156 : decode cX6_search 156 = .ok (.iload_n 1, 1) := by decide +kernel
theorem dX6_search_157 : decode cX6_search 157 = .ok (.iconst 1, 1) := by decide +kernel
theorem dX6_search_158 : decode cX6_search 158 = .ok (.iadd, 1) := by decide +kernel
theorem dX6_search_159 : decode cX6_search 159 = .ok (.iload_n 2, 1) := by decide +kernel
theorem dX6_search_160 : decode cX6_search 160 = .ok (.iload 6, 2) := by decide +kernel
theorem dX6_search_162 : decode cX6_search 162 = .ok (.iload_n 3, 1) := by decide +kernel
theorem dX6_search_163 : decode cX6_search 163 = .ok (.if_icmp .ne 9, 3) := by decide +kernel
theorem dX6_search_166 : decode cX6_search 166 = .ok (.iload_n 3, 1) := by decide +kernel
theorem dX6_search_167 : decode cX6_search 167 = .ok (.iconst 1, 1) := by decide +kernel
theorem dX6_search_168 : decode cX6_search 168 = .ok (.iadd, 1) := by decide +kernel
theorem dX6_search_169 : decode cX6_search 169 = .ok (.goto 4, 3) := by decide +kernel
theorem dX6_search_172 : decode cX6_search 172 = .ok (.iload_n 3, 1) := by decide +kernel
theorem dX6_search_173 : decode cX6_search 173 = .ok (.iload 4, 2) := by decide +kernel
theorem dX6_search_175 : decode cX6_search 175 = .ok (.iload 5, 2) := by decide +kernel
theorem dX6_search_177 : decode cX6_search 177 = .ok (.invokevirtual 257, 3) := by decide +kernel
theorem dX6_search_180 : decode cX6_search 180 = .ok (.iinc 6 1, 3) := by decide +kernel
theorem dX6_search_183 : decode cX6_search 183 = .ok (.goto (-52), 3) := by decide +kernel
theorem dX6_search_186 : decode cX6_search 186 = .ok (.return_, 1) := by decide +kernel
theorem dX6_storeBest_0 : decode cX6_storeBest 0 = .ok (.aload_n 0, 1) := by decide +kernel
theorem dX6_storeBest_1 : decode cX6_storeBest 1 = .ok (.getfield 58, 3) := by decide +kernel
theorem dX6_storeBest_4 : decode cX6_storeBest 4 = .ok (.iconst 0, 1) := by decide +kernel
theorem dX6_storeBest_5 : decode cX6_storeBest 5 = .ok (.aload_n 0, 1) := by decide +kernel
theorem dX6_storeBest_6 : decode cX6_storeBest 6 = .ok (.getfield 15, 3) := by decide +kernel
theorem dX6_storeBest_9 : decode cX6_storeBest 9 = .ok (.bipush 8, 2) := by decide +kernel
theorem dX6_storeBest_11 : decode cX6_storeBest 11 = .ok (.iload_n 1, 1) := by decide +kernel
theorem dX6_storeBest_12 : decode cX6_storeBest 12 = .ok (.imul, 1) := by decide +kernel
theorem dX6_storeBest_13 : decode cX6_storeBest 13 = .ok (.iload_n 2, 1) := by decide +kernel
theorem dX6_storeBest_14 : decode cX6_storeBest 14 = .ok (.invokestatic 125, 3) := by decide +kernel
theorem dX6_storeBest_17 : decode cX6_storeBest 17 = .ok (.aload_n 0, 1) := by decide +kernel
theorem dX6_storeBest_18 : decode cX6_storeBest 18 = .ok (.getfield 19, 3) := by decide +kernel
theorem dX6_storeBest_21 : decode cX6_storeBest 21 = .ok (.iload_n 1, 1) := by decide +kernel
theorem dX6_storeBest_22 : decode cX6_storeBest 22 = .ok (.iload_n 2, 1) := by decide +kernel
theorem dX6_storeBest_23 : decode cX6_storeBest 23 = .ok (.iastore, 1) := by decide +kernel
theorem dX6_storeBest_24 : decode cX6_storeBest 24 = .ok (.return_, 1) := by decide +kernel
theorem dX6_findPattern_0 : decode cX6_findPattern 0 = .ok (.iload_n 1, 1) := by decide +kernel
theorem dX6_findPattern_1 : decode cX6_findPattern 1 = .ok (.invokestatic 139, 3) := by decide +kernel
theorem dX6_findPattern_4 : decode cX6_findPattern 4 = .ok (.ifCond .ne 6, 3) := by decide +kernel
theorem dX6_findPattern_7 : decode cX6_findPattern 7 = .ok (.bipush (-2), 2) := by decide +kernel
theorem dX6_findPattern_9 : decode cX6_findPattern 9 = .ok (.ireturn, 1) := by decide +kernel
theorem dX6_findPattern_10 : decode cX6_findPattern 10 = .ok (.iload_n 2, 1) := by decide +kernel
theorem dX6_findPattern_11 : decode cX6_findPattern 11 = .ok (.iconst 1, 1) := by decide +kernel
theorem dX6_findPattern_12 : decode cX6_findPattern 12 = .ok (.iconst 5, 1) := by decide +kernel
theorem dX6_findPattern_13 : decode cX6_findPattern 13 = .ok (.invokestatic 101, 3) := by decide +kernel
theorem dX6_findPattern_16 : decode cX6_findPattern 16 = .ok (.ifCond .eq 10, 3) := by decide +kernel
theorem dX6_findPattern_19 : decode cX6_findPattern 19 = .ok (.iload_n 3, 1) := by decide +kernel
theorem dX6_findPattern_20 : decode cX6_findPattern 20 = .ok (.invokestatic 221, 3) := by decide +kernel
theorem dX6_findPattern_23 : decode cX6_findPattern 23 = .ok (.ifCond .ne 5, 3) := by decide +kernel
theorem dX6_findPattern_26 : decode cX6_findPattern 26 = .ok (.iconst (-1), 1) := by decide +kernel
theorem dX6_findPattern_27 : decode cX6_findPattern 27 = .ok (.ireturn, 1) := by decide +kernel
theorem dX6_findPattern_28 : decode cX6_findPattern 28 = .ok (.aload_n 0, 1) := by decide +kernel
theorem dX6_findPattern_29 : decode cX6_findPattern 29 = .ok (.iconst 0, 1) := by decide +kernel
theorem dX6_findPattern_30 : decode cX6_findPattern 30 = .ok (.putfield 253, 3) := by decide +kernel
theorem dX6_findPattern_33 : decode cX6_findPattern 33 = .ok (.aload_n 0, 1) := by decide +kernel
theorem dX6_findPattern_34 : decode cX6_findPattern 34 = .ok (.iconst 0, 1) := by decide +kernel
theorem dX6_findPattern_35 : decode cX6_findPattern 35 = .ok (.iload_n 2, 1) := by decide +kernel
theorem dX6_findPattern_36 : decode cX6_findPattern 36 = .ok (.iconst 0, 1) := by decide +kernel
theorem dX6_findPattern_37 : decode cX6_findPattern 37 = .ok (.iconst 4, 1) := by decide +kernel
theorem dX6_findPattern_38 : decode cX6_findPattern 38 = .ok (.iload_n 3, 1) := by decide +kernel
theorem dX6_findPattern_39 : decode cX6_findPattern 39 = .ok (.invokevirtual 257, 3) := by decide +kernel
theorem dX6_findPattern_42 : decode cX6_findPattern 42 = .ok (.aload_n 0, 1) := by decide +kernel
theorem dX6_findPattern_43 : decode cX6_findPattern 43 = .ok (.getfield 253, 3) := by decide +kernel
theorem dX6_findPattern_46 : decode cX6_findPattern 46 = .ok (.ifCond .ne 6, 3) := by decide +kernel
theorem dX6_findPattern_49 : decode cX6_findPattern 49 = .ok (.bipush (-6), 2) := by decide +kernel
theorem dX6_findPattern_51 : decode cX6_findPattern 51 = .ok (.ireturn, 1) := by decide +kernel
theorem dX6_findPattern_52 : decode cX6_findPattern 52 = .ok (.aload_n 0, 1) := by decide +kernel
theorem dX6_findPattern_53 : decode cX6_findPattern 53 = .ok (.iload_n 1, 1) := by decide +kernel
theorem dX6_findPattern_54 : decode cX6_findPattern 54 = .ok (.iload_n 2, 1) := by decide +kernel
theorem dX6_findPattern_55 : decode cX6_findPattern 55 = .ok (.invokevirtual 261, 3) := by decide +kernel
theorem dX6_findPattern_58 : decode cX6_findPattern 58 = .ok (.aload_n 0, 1) := by decide +kernel
theorem dX6_findPattern_59 : decode cX6_findPattern 59 = .ok (.getfield 58, 3) := by decide +kernel
theorem dX6_findPattern_62 : decode cX6_findPattern 62 = .ok (.iconst 0, 1) := by decide +kernel
theorem dX6_findPattern_63 : decode cX6_findPattern 63 = .ok (.iload_n 2, 1) := by decide +kernel
theorem dX6_findPattern_64 : decode cX6_findPattern 64 = .ok (.invokestatic 160, 3) := by decide +kernel
theorem dX6_findPattern_67 : decode cX6_findPattern 67 = .ok (.ireturn, 1) := by decide +kernel
theorem dX6_findOneVariable_0 : decode cX6_findOneVariable 0 = .ok (.iload_n 1, 1) := by decide +kernel
theorem dX6_findOneVariable_1 : decode cX6_findOneVariable 1 = .ok (.invokestatic 139, 3) := by decide +kernel
theorem dX6_findOneVariable_4 : decode cX6_findOneVariable 4 = .ok (.ifCond .ne 6, 3) := by decide +kernel
theorem dX6_findOneVariable_7 : decode cX6_findOneVariable 7 = .ok (.bipush (-2), 2) := by decide +kernel
theorem dX6_findOneVariable_9 : decode cX6_findOneVariable 9 = .ok (.ireturn, 1) := by decide +kernel
theorem dX6_findOneVariable_10 : decode cX6_findOneVariable 10 = .ok (.aload_n 0, 1) := by decide +kernel
theorem dX6_findOneVariable_11 : decode cX6_findOneVariable 11 = .ok (.iconst 0, 1) := by decide +kernel
theorem dX6_findOneVariable_12 : decode cX6_findOneVariable 12 = .ok (.putfield 253, 3) := by decide +kernel
theorem dX6_findOneVariable_15 : decode cX6_findOneVariable 15 = .ok (.bipush 7, 2) := by decide +kernel
theorem dX6_findOneVariable_17 : decode cX6_findOneVariable 17 = .ok (.istore_n 2, 1) := by decide +kernel
theorem dX6_findOneVariable_18 : decode cX6_findOneVariable 18 = .ok (.iload_n 2, 1) := by decide +kernel
theorem dX6_findOneVariable_19 : decode cX6_findOneVariable 19 = .ok (.iconst 1, 1) := by decide +kernel
theorem dX6_findOneVariable_20 : decode cX6_findOneVariable 20 = .ok (.if_icmp .lt 33, 3) := by decide +kernel
theorem dX6_findOneVariable_23 : decode cX6_findOneVariable 23 = .ok (.aload_n 0, 1) := by decide +kernel
theorem dX6_findOneVariable_24 : decode cX6_findOneVariable 24 = .ok (.iconst 0, 1) := by decide +kernel
theorem dX6_findOneVariable_25 : decode cX6_findOneVariable 25 = .ok (.iload_n 2, 1) := by decide +kernel
theorem dX6_findOneVariable_26 : decode cX6_findOneVariable 26 = .ok (.iconst 0, 1) := by decide +kernel
theorem dX6_findOneVariable_27 : decode cX6_findOneVariable 27 = .ok (.iconst 1, 1) := by decide +kernel
theorem dX6_findOneVariable_28 : decode cX6_findOneVariable 28 = .ok (.iconst 0, 1) := by decide +kernel
theorem dX6_findOneVariable_29 : decode cX6_findOneVariable 29 = .ok (.invokevirtual 257, 3) := by decide +kernel
theorem dX6_findOneVariable_32 : decode cX6_findOneVariable 32 = .ok (.aload_n 0, 1) := by decide +kernel
theorem dX6_findOneVariable_33 : decode cX6_findOneVariable 33 = .ok (.getfield 253, 3) := by decide +kernel
theorem dX6_findOneVariable_36 : decode cX6_findOneVariable 36 = .ok (.ifCond .eq 11, 3) := by decide +kernel
theorem dX6_findOneVariable_39 : decode cX6_findOneVariable 39 = .ok (.aload_n 0, 1) := by decide +kernel
theorem dX6_findOneVariable_40 : decode cX6_findOneVariable 40 = .ok (.iload_n 1, 1) := by decide +kernel
theorem dX6_findOneVariable_41 : decode cX6_findOneVariable 41 = .ok (.iload_n 2, 1) := by decide +kernel
theorem dX6_findOneVariable_42 : decode cX6_findOneVariable 42 = .ok (.invokevirtual 261, 3) := by decide +kernel
theorem dX6_findOneVariable_45 : decode cX6_findOneVariable 45 = .ok (.iload_n 2, 1) := by decide +kernel
theorem dX6_findOneVariable_46 : decode cX6_findOneVariable 46 = .ok (.ireturn, 1) := by decide +kernel
theorem dX6_findOneVariable_47 : decode cX6_findOneVariable 47 = .ok (.iinc 2 (-1), 3) := by decide +kernel
theorem dX6_findOneVariable_50 : decode cX6_findOneVariable 50 = .ok (.goto (-32), 3) := by decide +kernel
theorem dX6_findOneVariable_53 : decode cX6_findOneVariable 53 = .ok (.bipush (-6), 2) := by decide +kernel
theorem dX6_findOneVariable_55 : decode cX6_findOneVariable 55 = .ok (.ireturn, 1) := by decide +kernel
theorem dX6_nextWord_0 : decode cX6_nextWord 0 = .ok (.iload_n 1, 1) := by decide +kernel
theorem dX6_nextWord_1 : decode cX6_nextWord 1 = .ok (.iconst 1, 1) := by decide +kernel
theorem dX6_nextWord_2 : decode cX6_nextWord 2 = .ok (.isub, 1) := by decide +kernel
theorem dX6_nextWord_3 : decode cX6_nextWord 3 = .ok (.istore_n 2, 1) := by decide +kernel
theorem dX6_nextWord_4 : decode cX6_nextWord 4 = .ok (.iload_n 2, 1) := by decide +kernel
theorem dX6_nextWord_5 : decode cX6_nextWord 5 = .ok (.ifCond .lt 31, 3) := by decide +kernel
theorem dX6_nextWord_8 : decode cX6_nextWord 8 = .ok (.aload_n 0, 1) := by decide +kernel
theorem dX6_nextWord_9 : decode cX6_nextWord 9 = .ok (.getfield 61, 3) := by decide +kernel
theorem dX6_nextWord_12 : decode cX6_nextWord 12 = .ok (.iload_n 2, 1) := by decide +kernel
theorem dX6_nextWord_13 : decode cX6_nextWord 13 = .ok (.iaload, 1) := by decide +kernel
theorem dX6_nextWord_14 : decode cX6_nextWord 14 = .ok (.aload_n 0, 1) := by decide +kernel
theorem dX6_nextWord_15 : decode cX6_nextWord 15 = .ok (.getfield 9, 3) := by decide +kernel
theorem dX6_nextWord_18 : decode cX6_nextWord 18 = .ok (.iconst 1, 1) := by decide +kernel
theorem dX6_nextWord_19 : decode cX6_nextWord 19 = .ok (.isub, 1) := by decide +kernel
theorem dX6_nextWord_20 : decode cX6_nextWord 20 = .ok (.if_icmp .ne 16, 3) := by decide +kernel
theorem dX6_nextWord_23 : decode cX6_nextWord 23 = .ok (.aload_n 0, 1) := by decide +kernel
theorem dX6_nextWord_24 : decode cX6_nextWord 24 = .ok (.getfield 61, 3) := by decide +kernel
theorem dX6_nextWord_27 : decode cX6_nextWord 27 = .ok (.iload_n 2, 1) := by decide +kernel
theorem dX6_nextWord_28 : decode cX6_nextWord 28 = .ok (.iconst 0, 1) := by decide +kernel
theorem dX6_nextWord_29 : decode cX6_nextWord 29 = .ok (.iastore, 1) := by decide +kernel
theorem dX6_nextWord_30 : decode cX6_nextWord 30 = .ok (.iinc 2 (-1), 3) := by decide +kernel
theorem dX6_nextWord_33 : decode cX6_nextWord 33 = .ok (.goto (-29), 3) := by decide +kernel
theorem dX6_nextWord_36 : decode cX6_nextWord 36 = .ok (.iload_n 2, 1) := by decide +kernel
theorem dX6_nextWord_37 : decode cX6_nextWord 37 = .ok (.ifCond .lt 13, 3) := by decide +kernel
theorem dX6_nextWord_40 : decode cX6_nextWord 40 = .ok (.aload_n 0, 1) := by decide +kernel
theorem dX6_nextWord_41 : decode cX6_nextWord 41 = .ok (.getfield 61, 3) := by decide +kernel
theorem dX6_nextWord_44 : decode cX6_nextWord 44 = .ok (.iload_n 2, 1) := by decide +kernel
theorem dX6_nextWord_45 : decode cX6_nextWord 45 = .ok (.dup2, 1) := by decide +kernel
theorem dX6_nextWord_46 : decode cX6_nextWord 46 = .ok (.iaload, 1) := by decide +kernel
theorem dX6_nextWord_47 : decode cX6_nextWord 47 = .ok (.iconst 1, 1) := by decide +kernel
theorem dX6_nextWord_48 : decode cX6_nextWord 48 = .ok (.iadd, 1) := by decide +kernel
theorem dX6_nextWord_49 : decode cX6_nextWord 49 = .ok (.iastore, 1) := by decide +kernel
theorem dX6_nextWord_50 : decode cX6_nextWord 50 = .ok (.iload_n 2, 1) := by decide +kernel
theorem dX6_nextWord_51 : decode cX6_nextWord 51 = .ok (.ifCond .lt 7, 3) := by decide +kernel
theorem dX6_nextWord_54 : decode cX6_nextWord 54 = .ok (.iconst 1, 1) := by decide +kernel
theorem dX6_nextWord_55 : decode cX6_nextWord 55 = .ok (.goto 4, 3) := by decide +kernel
theorem dX6_nextWord_58 : decode cX6_nextWord 58 = .ok (.iconst 0, 1) := by decide +kernel
theorem dX6_nextWord_59 : decode cX6_nextWord 59 = .ok (.ireturn, 1) := by decide +kernel
theorem dX6_firstWord_0 : decode cX6_firstWord 0 = .ok (.iconst 0, 1) := by decide +kernel
theorem dX6_firstWord_1 : decode cX6_firstWord 1 = .ok (.istore_n 1, 1) := by decide +kernel
theorem dX6_firstWord_2 : decode cX6_firstWord 2 = .ok (.iload_n 1, 1) := by decide +kernel
theorem dX6_firstWord_3 : decode cX6_firstWord 3 = .ok (.bipush 8, 2) := by decide +kernel
theorem dX6_firstWord_5 : decode cX6_firstWord 5 = .ok (.if_icmp .ge 16, 3) := by decide +kernel
theorem dX6_firstWord_8 : decode cX6_firstWord 8 = .ok (.aload_n 0, 1) := by decide +kernel
theorem dX6_firstWord_9 : decode cX6_firstWord 9 = .ok (.getfield 61, 3) := by decide +kernel
theorem dX6_firstWord_12 : decode cX6_firstWord 12 = .ok (.iload_n 1, 1) := by decide +kernel
theorem dX6_firstWord_13 : decode cX6_firstWord 13 = .ok (.iconst 0, 1) := by decide +kernel
theorem dX6_firstWord_14 : decode cX6_firstWord 14 = .ok (.iastore, 1) := by decide +kernel
theorem dX6_firstWord_15 : decode cX6_firstWord 15 = .ok (.iinc 1 1, 3) := by decide +kernel
theorem dX6_firstWord_18 : decode cX6_firstWord 18 = .ok (.goto (-16), 3) := by decide +kernel
theorem dX6_firstWord_21 : decode cX6_firstWord 21 = .ok (.return_, 1) := by decide +kernel
theorem dX6_generates_0 : decode cX6_generates 0 = .ok (.aload_n 0, 1) := by decide +kernel
theorem dX6_generates_1 : decode cX6_generates 1 = .ok (.aload_n 0, 1) := by decide +kernel
theorem dX6_generates_2 : decode cX6_generates 2 = .ok (.getfield 15, 3) := by decide +kernel
theorem dX6_generates_5 : decode cX6_generates 5 = .ok (.bipush 8, 2) := by decide +kernel
theorem dX6_generates_7 : decode cX6_generates 7 = .ok (.iload_n 1, 1) := by decide +kernel
theorem dX6_generates_8 : decode cX6_generates 8 = .ok (.imul, 1) := by decide +kernel
theorem dX6_generates_9 : decode cX6_generates 9 = .ok (.aload_n 0, 1) := by decide +kernel
theorem dX6_generates_10 : decode cX6_generates 10 = .ok (.getfield 19, 3) := by decide +kernel
theorem dX6_generates_13 : decode cX6_generates 13 = .ok (.iload_n 1, 1) := by decide +kernel
theorem dX6_generates_14 : decode cX6_generates 14 = .ok (.iaload, 1) := by decide +kernel
theorem dX6_generates_15 : decode cX6_generates 15 = .ok (.aload_n 0, 1) := by decide +kernel
theorem dX6_generates_16 : decode cX6_generates 16 = .ok (.getfield 61, 3) := by decide +kernel
theorem dX6_generates_19 : decode cX6_generates 19 = .ok (.iconst 0, 1) := by decide +kernel
theorem dX6_generates_20 : decode cX6_generates 20 = .ok (.iload_n 3, 1) := by decide +kernel
theorem dX6_generates_21 : decode cX6_generates 21 = .ok (.iload_n 2, 1) := by decide +kernel
theorem dX6_generates_22 : decode cX6_generates 22 = .ok (.iconst 1, 1) := by decide +kernel
theorem dX6_generates_23 : decode cX6_generates 23 = .ok (.invokevirtual 217, 3) := by decide +kernel
theorem dX6_generates_26 : decode cX6_generates 26 = .ok (.iconst 1, 1) := by decide +kernel
theorem dX6_generates_27 : decode cX6_generates 27 = .ok (.if_icmp .ne 7, 3) := by decide +kernel
theorem dX6_generates_30 : decode cX6_generates 30 = .ok (.iconst 1, 1) := by decide +kernel
theorem dX6_generates_31 : decode cX6_generates 31 = .ok (.goto 4, 3) := by decide +kernel
theorem dX6_generates_34 : decode cX6_generates 34 = .ok (.iconst 0, 1) := by decide +kernel
theorem dX6_generates_35 : decode cX6_generates 35 = .ok (.ireturn, 1) := by decide +kernel
theorem dX6_countWords_0 : decode cX6_countWords 0 = .ok (.iload_n 1, 1) := by decide +kernel
theorem dX6_countWords_1 : decode cX6_countWords 1 = .ok (.invokestatic 139, 3) := by decide +kernel
theorem dX6_countWords_4 : decode cX6_countWords 4 = .ok (.ifCond .ne 6, 3) := by decide +kernel
theorem dX6_countWords_7 : decode cX6_countWords 7 = .ok (.bipush (-2), 2) := by decide +kernel
theorem dX6_countWords_9 : decode cX6_countWords 9 = .ok (.ireturn, 1) := by decide +kernel
theorem dX6_countWords_10 : decode cX6_countWords 10 = .ok (.iload_n 2, 1) := by decide +kernel
theorem dX6_countWords_11 : decode cX6_countWords 11 = .ok (.invokestatic 221, 3) := by decide +kernel
theorem dX6_countWords_14 : decode cX6_countWords 14 = .ok (.ifCond .eq 13, 3) := by decide +kernel
theorem dX6_countWords_17 : decode cX6_countWords 17 = .ok (.iload_n 3, 1) := by decide +kernel
theorem dX6_countWords_18 : decode cX6_countWords 18 = .ok (.iconst 0, 1) := by decide +kernel
theorem dX6_countWords_19 : decode cX6_countWords 19 = .ok (.bipush 6, 2) := by decide +kernel
theorem dX6_countWords_21 : decode cX6_countWords 21 = .ok (.invokestatic 101, 3) := by decide +kernel
theorem dX6_countWords_24 : decode cX6_countWords 24 = .ok (.ifCond .ne 5, 3) := by decide +kernel
theorem dX6_countWords_27 : decode cX6_countWords 27 = .ok (.iconst (-1), 1) := by decide +kernel
theorem dX6_countWords_28 : decode cX6_countWords 28 = .ok (.ireturn, 1) := by decide +kernel
theorem dX6_countWords_29 : decode cX6_countWords 29 = .ok (.aload_n 0, 1) := by decide +kernel
theorem dX6_countWords_30 : decode cX6_countWords 30 = .ok (.invokevirtual 264, 3) := by decide +kernel
theorem dX6_countWords_33 : decode cX6_countWords 33 = .ok (.iconst 0, 1) := by decide +kernel
theorem dX6_countWords_34 : decode cX6_countWords 34 = .ok (.istore 4, 2) := by decide +kernel
theorem dX6_countWords_36 : decode cX6_countWords 36 = .ok (.iconst 1, 1) := by decide +kernel
theorem dX6_countWords_37 : decode cX6_countWords 37 = .ok (.istore 5, 2) := by decide +kernel
theorem dX6_countWords_39 : decode cX6_countWords 39 = .ok (.iload 5, 2) := by decide +kernel
theorem dX6_countWords_41 : decode cX6_countWords 41 = .ok (.ifCond .eq 33, 3) := by decide +kernel
theorem dX6_countWords_44 : decode cX6_countWords 44 = .ok (.iload 4, 2) := by decide +kernel
theorem dX6_countWords_46 : decode cX6_countWords 46 = .ok (.aload_n 0, 1) := by decide +kernel
theorem dX6_countWords_47 : decode cX6_countWords 47 = .ok (.iload_n 1, 1) := by decide +kernel
theorem dX6_countWords_48 : decode cX6_countWords 48 = .ok (.iload_n 2, 1) := by decide +kernel
theorem dX6_countWords_49 : decode cX6_countWords 49 = .ok (.iload_n 3, 1) := by decide +kernel
theorem dX6_countWords_50 : decode cX6_countWords 50 = .ok (.invokevirtual 267, 3) := by decide +kernel
theorem dX6_countWords_53 : decode cX6_countWords 53 = .ok (.ifCond .eq 7, 3) := by decide +kernel
theorem dX6_countWords_56 : decode cX6_countWords 56 = .ok (.iconst 1, 1) := by decide +kernel
theorem dX6_countWords_57 : decode cX6_countWords 57 = .ok (.goto 4, 3) := by decide +kernel
theorem dX6_countWords_60 : decode cX6_countWords 60 = .ok (.iconst 0, 1) := by decide +kernel
theorem dX6_countWords_61 : decode cX6_countWords 61 = .ok (.iadd, 1) := by decide +kernel
theorem dX6_countWords_62 : decode cX6_countWords 62 = .ok (.istore 4, 2) := by decide +kernel
theorem dX6_countWords_64 : decode cX6_countWords 64 = .ok (.aload_n 0, 1) := by decide +kernel
theorem dX6_countWords_65 : decode cX6_countWords 65 = .ok (.iload_n 3, 1) := by decide +kernel
theorem dX6_countWords_66 : decode cX6_countWords 66 = .ok (.invokevirtual 270, 3) := by decide +kernel
theorem dX6_countWords_69 : decode cX6_countWords 69 = .ok (.istore 5, 2) := by decide +kernel
theorem dX6_countWords_71 : decode cX6_countWords 71 = .ok (.goto (-32), 3) := by decide +kernel
theorem dX6_countWords_74 : decode cX6_countWords 74 = .ok (.iload 4, 2) := by decide +kernel
theorem dX6_countWords_76 : decode cX6_countWords 76 = .ok (.ireturn, 1) := by decide +kernel
theorem dX6_difference_0 : decode cX6_difference 0 = .ok (.iload_n 1, 1) := by decide +kernel
theorem dX6_difference_1 : decode cX6_difference 1 = .ok (.invokestatic 139, 3) := by decide +kernel
theorem dX6_difference_4 : decode cX6_difference 4 = .ok (.ifCond .eq 28, 3) := by decide +kernel
theorem dX6_difference_7 : decode cX6_difference 7 = .ok (.iload_n 2, 1) := by decide +kernel
theorem dX6_difference_8 : decode cX6_difference 8 = .ok (.invokestatic 139, 3) := by decide +kernel
theorem dX6_difference_11 : decode cX6_difference 11 = .ok (.ifCond .eq 21, 3) := by decide +kernel
theorem dX6_difference_14 : decode cX6_difference 14 = .ok (.iload_n 3, 1) := by decide +kernel
theorem dX6_difference_15 : decode cX6_difference 15 = .ok (.invokestatic 221, 3) := by decide +kernel
theorem dX6_difference_18 : decode cX6_difference 18 = .ok (.ifCond .eq 14, 3) := by decide +kernel
theorem dX6_difference_21 : decode cX6_difference 21 = .ok (.iload 4, 2) := by decide +kernel
theorem dX6_difference_23 : decode cX6_difference 23 = .ok (.iconst 0, 1) := by decide +kernel
theorem dX6_difference_24 : decode cX6_difference 24 = .ok (.bipush 6, 2) := by decide +kernel
theorem dX6_difference_26 : decode cX6_difference 26 = .ok (.invokestatic 101, 3) := by decide +kernel
theorem dX6_difference_29 : decode cX6_difference 29 = .ok (.ifCond .ne 7, 3) := by decide +kernel
theorem dX6_difference_32 : decode cX6_difference 32 = .ok (.ldc2_w 244, 3) := by decide +kernel
theorem dX6_difference_35 : decode cX6_difference 35 = .ok (.lreturn, 1) := by decide +kernel
theorem dX6_difference_36 : decode cX6_difference 36 = .ok (.iconst 0, 1) := by decide +kernel
theorem dX6_difference_37 : decode cX6_difference 37 = .ok (.istore 5, 2) := by decide +kernel
theorem dX6_difference_39 : decode cX6_difference 39 = .ok (.iload 5, 2) := by decide +kernel
theorem dX6_difference_41 : decode cX6_difference 41 = .ok (.iload 4, 2) := by decide +kernel
theorem dX6_difference_43 : decode cX6_difference 43 = .ok (.if_icmp .gt 65, 3) := by decide +kernel
theorem dX6_difference_46 : decode cX6_difference 46 = .ok (.aload_n 0, 1) := by decide +kernel
theorem dX6_difference_47 : decode cX6_difference 47 = .ok (.invokevirtual 264, 3) := by decide +kernel
theorem dX6_difference_50 : decode cX6_difference 50 = .ok (.iconst 1, 1) := by decide +kernel
theorem dX6_difference_51 : decode cX6_difference 51 = .ok (.istore 6, 2) := by decide +kernel
theorem dX6_difference_53 : decode cX6_difference 53 = .ok (.iload 6, 2) := by decide +kernel
theorem dX6_difference_55 : decode cX6_difference 55 = .ok (.ifCond .eq 47, 3) := by decide +kernel
theorem dX6_difference_58 : decode cX6_difference 58 = .ok (.aload_n 0, 1) := by decide +kernel
theorem dX6_difference_59 : decode cX6_difference 59 = .ok (.iload_n 1, 1) := by decide +kernel
theorem dX6_difference_60 : decode cX6_difference 60 = .ok (.iload_n 3, 1) := by decide +kernel
theorem dX6_difference_61 : decode cX6_difference 61 = .ok (.iload 5, 2) := by decide +kernel
theorem dX6_difference_63 : decode cX6_difference 63 = .ok (.invokevirtual 267, 3) := by decide +kernel
theorem dX6_difference_66 : decode cX6_difference 66 = .ok (.ifCond .eq 25, 3) := by decide +kernel
theorem dX6_difference_69 : decode cX6_difference 69 = .ok (.aload_n 0, 1) := by decide +kernel
theorem dX6_difference_70 : decode cX6_difference 70 = .ok (.iload_n 2, 1) := by decide +kernel
theorem dX6_difference_71 : decode cX6_difference 71 = .ok (.iload_n 3, 1) := by decide +kernel
theorem dX6_difference_72 : decode cX6_difference 72 = .ok (.iload 5, 2) := by decide +kernel
theorem dX6_difference_74 : decode cX6_difference 74 = .ok (.invokevirtual 267, 3) := by decide +kernel
theorem dX6_difference_77 : decode cX6_difference 77 = .ok (.ifCond .ne 14, 3) := by decide +kernel
theorem dX6_difference_80 : decode cX6_difference 80 = .ok (.aload_n 0, 1) := by decide +kernel
theorem dX6_difference_81 : decode cX6_difference 81 = .ok (.getfield 61, 3) := by decide +kernel
theorem dX6_difference_84 : decode cX6_difference 84 = .ok (.iconst 0, 1) := by decide +kernel
theorem dX6_difference_85 : decode cX6_difference 85 = .ok (.iload 5, 2) := by decide +kernel
theorem dX6_difference_87 : decode cX6_difference 87 = .ok (.invokestatic 241, 3) := by decide +kernel
theorem dX6_difference_90 : decode cX6_difference 90 = .ok (.lreturn, 1) := by decide +kernel
theorem dX6_difference_91 : decode cX6_difference 91 = .ok (.aload_n 0, 1) := by decide +kernel
theorem dX6_difference_92 : decode cX6_difference 92 = .ok (.iload 5, 2) := by decide +kernel
theorem dX6_difference_94 : decode cX6_difference 94 = .ok (.invokevirtual 270, 3) := by decide +kernel
theorem dX6_difference_97 : decode cX6_difference 97 = .ok (.istore 6, 2) := by decide +kernel
theorem dX6_difference_99 : decode cX6_difference 99 = .ok (.goto (-46), 3) := by decide +kernel
theorem dX6_difference_102 : decode cX6_difference 102 = .ok (.iinc 5 1, 3) := by decide +kernel
theorem dX6_difference_105 : decode cX6_difference 105 = .ok (.goto (-66), 3) := by decide +kernel
theorem dX6_difference_108 : decode cX6_difference 108 = .ok (.ldc2_w 244, 3) := by decide +kernel
theorem dX6_difference_111 : decode cX6_difference 111 = .ok (.lreturn, 1) := by decide +kernel
theorem dX6_isSlot_0 : decode cX6_isSlot 0 = .ok (.iload_n 0, 1) := by decide +kernel
theorem dX6_isSlot_1 : decode cX6_isSlot 1 = .ok (.iconst 0, 1) := by decide +kernel
theorem dX6_isSlot_2 : decode cX6_isSlot 2 = .ok (.iconst 3, 1) := by decide +kernel
theorem dX6_isSlot_3 : decode cX6_isSlot 3 = .ok (.invokestatic 101, 3) := by decide +kernel
theorem dX6_isSlot_6 : decode cX6_isSlot 6 = .ok (.ireturn, 1) := by decide +kernel
theorem dX6_allocate_0 : decode cX6_allocate 0 = .ok (.iload_n 1, 1) := by decide +kernel
theorem dX6_allocate_1 : decode cX6_allocate 1 = .ok (.invokestatic 273, 3) := by decide +kernel
theorem dX6_allocate_4 : decode cX6_allocate 4 = .ok (.ifCond .eq 18, 3) := by decide +kernel
theorem dX6_allocate_7 : decode cX6_allocate 7 = .ok (.iload_n 2, 1) := by decide +kernel
theorem dX6_allocate_8 : decode cX6_allocate 8 = .ok (.iconst 0, 1) := by decide +kernel
theorem dX6_allocate_9 : decode cX6_allocate 9 = .ok (.iconst 3, 1) := by decide +kernel
theorem dX6_allocate_10 : decode cX6_allocate 10 = .ok (.invokestatic 101, 3) := by decide +kernel
theorem dX6_allocate_13 : decode cX6_allocate 13 = .ok (.ifCond .eq 9, 3) := by decide +kernel
theorem dX6_allocate_16 : decode cX6_allocate 16 = .ok (.iload_n 3, 1) := by decide +kernel
theorem dX6_allocate_17 : decode cX6_allocate 17 = .ok (.bipush 40, 2) := by decide +kernel
theorem dX6_allocate_19 : decode cX6_allocate 19 = .ok (.if_icmp .le 5, 3) := by decide +kernel
theorem dX6_allocate_22 : decode cX6_allocate 22 = .ok (.iconst (-1), 1) := by decide +kernel
theorem dX6_allocate_23 : decode cX6_allocate 23 = .ok (.ireturn, 1) := by decide +kernel
theorem dX6_allocate_24 : decode cX6_allocate 24 = .ok (.iload_n 3, 1) := by decide +kernel
theorem dX6_allocate_25 : decode cX6_allocate 25 = .ok (.ifCond .ge 6, 3) := by decide +kernel
theorem dX6_allocate_28 : decode cX6_allocate 28 = .ok (.bipush (-14), 2) := by decide +kernel
theorem dX6_allocate_30 : decode cX6_allocate 30 = .ok (.ireturn, 1) := by decide +kernel
theorem dX6_allocate_31 : decode cX6_allocate 31 = .ok (.aload_n 0, 1) := by decide +kernel
theorem dX6_allocate_32 : decode cX6_allocate 32 = .ok (.getfield 64, 3) := by decide +kernel
theorem dX6_allocate_35 : decode cX6_allocate 35 = .ok (.iload_n 1, 1) := by decide +kernel
theorem dX6_allocate_36 : decode cX6_allocate 36 = .ok (.iload_n 2, 1) := by decide +kernel
theorem dX6_allocate_37 : decode cX6_allocate 37 = .ok (.iastore, 1) := by decide +kernel
theorem dX6_allocate_38 : decode cX6_allocate 38 = .ok (.aload_n 0, 1) := by decide +kernel
theorem dX6_allocate_39 : decode cX6_allocate 39 = .ok (.getfield 67, 3) := by decide +kernel
theorem dX6_allocate_42 : decode cX6_allocate 42 = .ok (.iload_n 1, 1) := by decide +kernel
theorem dX6_allocate_43 : decode cX6_allocate 43 = .ok (.iload_n 3, 1) := by decide +kernel
theorem dX6_allocate_44 : decode cX6_allocate 44 = .ok (.iastore, 1) := by decide +kernel
theorem dX6_allocate_45 : decode cX6_allocate 45 = .ok (.iconst 0, 1) := by decide +kernel
theorem dX6_allocate_46 : decode cX6_allocate 46 = .ok (.istore 4, 2) := by decide +kernel
theorem dX6_allocate_48 : decode cX6_allocate 48 = .ok (.iload 4, 2) := by decide +kernel
theorem dX6_allocate_50 : decode cX6_allocate 50 = .ok (.bipush 40, 2) := by decide +kernel
theorem dX6_allocate_52 : decode cX6_allocate 52 = .ok (.if_icmp .ge 22, 3) := by decide +kernel
theorem dX6_allocate_55 : decode cX6_allocate 55 = .ok (.aload_n 0, 1) := by decide +kernel
theorem dX6_allocate_56 : decode cX6_allocate 56 = .ok (.getfield 70, 3) := by decide +kernel
theorem dX6_allocate_59 : decode cX6_allocate 59 = .ok (.bipush 40, 2) := by decide +kernel
theorem dX6_allocate_61 : decode cX6_allocate 61 = .ok (.iload_n 1, 1) := by decide +kernel
theorem dX6_allocate_62 : decode cX6_allocate 62 = .ok (.imul, 1) := by decide +kernel
theorem dX6_allocate_63 : decode cX6_allocate 63 = .ok (.iload 4, 2) := by decide +kernel
theorem dX6_allocate_65 : decode cX6_allocate 65 = .ok (.iadd, 1) := by decide +kernel
theorem dX6_allocate_66 : decode cX6_allocate 66 = .ok (.lconst 0, 1) := by decide +kernel
theorem dX6_allocate_67 : decode cX6_allocate 67 = .ok (.lastore, 1) := by decide +kernel
theorem dX6_allocate_68 : decode cX6_allocate 68 = .ok (.iinc 4 1, 3) := by decide +kernel
theorem dX6_allocate_71 : decode cX6_allocate 71 = .ok (.goto (-23), 3) := by decide +kernel
theorem dX6_allocate_74 : decode cX6_allocate 74 = .ok (.iload_n 3, 1) := by decide +kernel
theorem dX6_allocate_75 : decode cX6_allocate 75 = .ok (.ireturn, 1) := by decide +kernel
theorem dX6_release_0 : decode cX6_release 0 = .ok (.iload_n 1, 1) := by decide +kernel
theorem dX6_release_1 : decode cX6_release 1 = .ok (.invokestatic 273, 3) := by decide +kernel
theorem dX6_release_4 : decode cX6_release 4 = .ok (.ifCond .ne 5, 3) := by decide +kernel
theorem dX6_release_7 : decode cX6_release 7 = .ok (.iconst (-1), 1) := by decide +kernel
theorem dX6_release_8 : decode cX6_release 8 = .ok (.ireturn, 1) := by decide +kernel
theorem dX6_release_9 : decode cX6_release 9 = .ok (.aload_n 0, 1) := by decide +kernel
theorem dX6_release_10 : decode cX6_release 10 = .ok (.getfield 64, 3) := by decide +kernel
theorem dX6_release_13 : decode cX6_release 13 = .ok (.iload_n 1, 1) := by decide +kernel
theorem dX6_release_14 : decode cX6_release 14 = .ok (.iaload, 1) := by decide +kernel
theorem dX6_release_15 : decode cX6_release 15 = .ok (.ifCond .ge 7, 3) := by decide +kernel
theorem dX6_release_18 : decode cX6_release 18 = .ok (.iconst 0, 1) := by decide +kernel
theorem dX6_release_19 : decode cX6_release 19 = .ok (.goto 4, 3) := by decide +kernel
theorem dX6_release_22 : decode cX6_release 22 = .ok (.iconst 1, 1) := by decide +kernel
theorem dX6_release_23 : decode cX6_release 23 = .ok (.istore_n 2, 1) := by decide +kernel
theorem dX6_release_24 : decode cX6_release 24 = .ok (.aload_n 0, 1) := by decide +kernel
theorem dX6_release_25 : decode cX6_release 25 = .ok (.getfield 64, 3) := by decide +kernel
theorem dX6_release_28 : decode cX6_release 28 = .ok (.iload_n 1, 1) := by decide +kernel
theorem dX6_release_29 : decode cX6_release 29 = .ok (.iconst (-1), 1) := by decide +kernel
theorem dX6_release_30 : decode cX6_release 30 = .ok (.iastore, 1) := by decide +kernel
theorem dX6_release_31 : decode cX6_release 31 = .ok (.iload_n 2, 1) := by decide +kernel
theorem dX6_release_32 : decode cX6_release 32 = .ok (.ireturn, 1) := by decide +kernel
theorem dX6_narrowed_0 : decode cX6_narrowed 0 = .ok (.iload_n 0, 1) := by decide +kernel
theorem dX6_narrowed_1 : decode cX6_narrowed 1 = .ok (.tableswitch 41 0 2 #[27, 32, 37], 27) := by decide +kernel
theorem dX6_narrowed_28 : decode cX6_narrowed 28 = .ok (.lload_n 1, 1) := by decide +kernel
theorem dX6_narrowed_29 : decode cX6_narrowed 29 = .ok (.l2i, 1) := by decide +kernel
theorem dX6_narrowed_30 : decode cX6_narrowed 30 = .ok (.i2b, 1) := by decide +kernel
theorem dX6_narrowed_31 : decode cX6_narrowed 31 = .ok (.i2l, 1) := by decide +kernel
theorem dX6_narrowed_32 : decode cX6_narrowed 32 = .ok (.lreturn, 1) := by decide +kernel
theorem dX6_narrowed_33 : decode cX6_narrowed 33 = .ok (.lload_n 1, 1) := by decide +kernel
theorem dX6_narrowed_34 : decode cX6_narrowed 34 = .ok (.l2i, 1) := by decide +kernel
theorem dX6_narrowed_35 : decode cX6_narrowed 35 = .ok (.i2c, 1) := by decide +kernel
theorem dX6_narrowed_36 : decode cX6_narrowed 36 = .ok (.i2l, 1) := by decide +kernel
theorem dX6_narrowed_37 : decode cX6_narrowed 37 = .ok (.lreturn, 1) := by decide +kernel
theorem dX6_narrowed_38 : decode cX6_narrowed 38 = .ok (.lload_n 1, 1) := by decide +kernel
theorem dX6_narrowed_39 : decode cX6_narrowed 39 = .ok (.l2i, 1) := by decide +kernel
theorem dX6_narrowed_40 : decode cX6_narrowed 40 = .ok (.i2l, 1) := by decide +kernel
theorem dX6_narrowed_41 : decode cX6_narrowed 41 = .ok (.lreturn, 1) := by decide +kernel
theorem dX6_narrowed_42 : decode cX6_narrowed 42 = .ok (.lload_n 1, 1) := by decide +kernel
theorem dX6_narrowed_43 : decode cX6_narrowed 43 = .ok (.lconst 0, 1) := by decide +kernel
theorem dX6_narrowed_44 : decode cX6_narrowed 44 = .ok (.lcmp, 1) := by decide +kernel
theorem dX6_narrowed_45 : decode cX6_narrowed 45 = .ok (.ifCond .eq 7, 3) := by decide +kernel
theorem dX6_narrowed_48 : decode cX6_narrowed 48 = .ok (.lconst 1, 1) := by decide +kernel
theorem dX6_narrowed_49 : decode cX6_narrowed 49 = .ok (.goto 4, 3) := by decide +kernel
theorem dX6_narrowed_52 : decode cX6_narrowed 52 = .ok (.lconst 0, 1) := by decide +kernel
theorem dX6_narrowed_53 : decode cX6_narrowed 53 = .ok (.lreturn, 1) := by decide +kernel
theorem dX6_putElement_0 : decode cX6_putElement 0 = .ok (.iload_n 1, 1) := by decide +kernel
theorem dX6_putElement_1 : decode cX6_putElement 1 = .ok (.invokestatic 273, 3) := by decide +kernel
theorem dX6_putElement_4 : decode cX6_putElement 4 = .ok (.ifCond .ne 5, 3) := by decide +kernel
theorem dX6_putElement_7 : decode cX6_putElement 7 = .ok (.iconst (-1), 1) := by decide +kernel
theorem dX6_putElement_8 : decode cX6_putElement 8 = .ok (.ireturn, 1) := by decide +kernel
theorem dX6_putElement_9 : decode cX6_putElement 9 = .ok (.aload_n 0, 1) := by decide +kernel
theorem dX6_putElement_10 : decode cX6_putElement 10 = .ok (.getfield 64, 3) := by decide +kernel
theorem dX6_putElement_13 : decode cX6_putElement 13 = .ok (.iload_n 1, 1) := by decide +kernel
theorem dX6_putElement_14 : decode cX6_putElement 14 = .ok (.iaload, 1) := by decide +kernel
theorem dX6_putElement_15 : decode cX6_putElement 15 = .ok (.ifCond .ge 6, 3) := by decide +kernel
theorem dX6_putElement_18 : decode cX6_putElement 18 = .ok (.bipush (-11), 2) := by decide +kernel
theorem dX6_putElement_20 : decode cX6_putElement 20 = .ok (.ireturn, 1) := by decide +kernel
theorem dX6_putElement_21 : decode cX6_putElement 21 = .ok (.iload_n 2, 1) := by decide +kernel
theorem dX6_putElement_22 : decode cX6_putElement 22 = .ok (.iconst 0, 1) := by decide +kernel
theorem dX6_putElement_23 : decode cX6_putElement 23 = .ok (.aload_n 0, 1) := by decide +kernel
theorem dX6_putElement_24 : decode cX6_putElement 24 = .ok (.getfield 67, 3) := by decide +kernel
theorem dX6_putElement_27 : decode cX6_putElement 27 = .ok (.iload_n 1, 1) := by decide +kernel
theorem dX6_putElement_28 : decode cX6_putElement 28 = .ok (.iaload, 1) := by decide +kernel
theorem dX6_putElement_29 : decode cX6_putElement 29 = .ok (.iconst 1, 1) := by decide +kernel
theorem dX6_putElement_30 : decode cX6_putElement 30 = .ok (.isub, 1) := by decide +kernel
theorem dX6_putElement_31 : decode cX6_putElement 31 = .ok (.invokestatic 101, 3) := by decide +kernel
theorem dX6_putElement_34 : decode cX6_putElement 34 = .ok (.ifCond .ne 6, 3) := by decide +kernel
theorem dX6_putElement_37 : decode cX6_putElement 37 = .ok (.bipush (-13), 2) := by decide +kernel
theorem dX6_putElement_39 : decode cX6_putElement 39 = .ok (.ireturn, 1) := by decide +kernel
theorem dX6_putElement_40 : decode cX6_putElement 40 = .ok (.aload_n 0, 1) := by decide +kernel
theorem dX6_putElement_41 : decode cX6_putElement 41 = .ok (.getfield 70, 3) := by decide +kernel
theorem dX6_putElement_44 : decode cX6_putElement 44 = .ok (.bipush 40, 2) := by decide +kernel
theorem dX6_putElement_46 : decode cX6_putElement 46 = .ok (.iload_n 1, 1) := by decide +kernel
theorem dX6_putElement_47 : decode cX6_putElement 47 = .ok (.imul, 1) := by decide +kernel
theorem dX6_putElement_48 : decode cX6_putElement 48 = .ok (.iload_n 2, 1) := by decide +kernel
theorem dX6_putElement_49 : decode cX6_putElement 49 = .ok (.iadd, 1) := by decide +kernel
theorem dX6_putElement_50 : decode cX6_putElement 50 = .ok (.aload_n 0, 1) := by decide +kernel
theorem dX6_putElement_51 : decode cX6_putElement 51 = .ok (.getfield 64, 3) := by decide +kernel
theorem dX6_putElement_54 : decode cX6_putElement 54 = .ok (.iload_n 1, 1) := by decide +kernel
theorem dX6_putElement_55 : decode cX6_putElement 55 = .ok (.iaload, 1) := by decide +kernel
theorem dX6_putElement_56 : decode cX6_putElement 56 = .ok (.lload_n 3, 1) := by decide +kernel
theorem dX6_putElement_57 : decode cX6_putElement 57 = .ok (.invokestatic 276, 3) := by decide +kernel
theorem dX6_putElement_60 : decode cX6_putElement 60 = .ok (.lastore, 1) := by decide +kernel
theorem dX6_putElement_61 : decode cX6_putElement 61 = .ok (.iconst 1, 1) := by decide +kernel
theorem dX6_putElement_62 : decode cX6_putElement 62 = .ok (.ireturn, 1) := by decide +kernel
theorem dX6_element_0 : decode cX6_element 0 = .ok (.iload_n 1, 1) := by decide +kernel
theorem dX6_element_1 : decode cX6_element 1 = .ok (.invokestatic 273, 3) := by decide +kernel
theorem dX6_element_4 : decode cX6_element 4 = .ok (.ifCond .eq 28, 3) := by decide +kernel
theorem dX6_element_7 : decode cX6_element 7 = .ok (.aload_n 0, 1) := by decide +kernel
theorem dX6_element_8 : decode cX6_element 8 = .ok (.getfield 64, 3) := by decide +kernel
theorem dX6_element_11 : decode cX6_element 11 = .ok (.iload_n 1, 1) := by decide +kernel
theorem dX6_element_12 : decode cX6_element 12 = .ok (.iaload, 1) := by decide +kernel
theorem dX6_element_13 : decode cX6_element 13 = .ok (.ifCond .lt 19, 3) := by decide +kernel
theorem dX6_element_16 : decode cX6_element 16 = .ok (.iload_n 2, 1) := by decide +kernel
theorem dX6_element_17 : decode cX6_element 17 = .ok (.iconst 0, 1) := by decide +kernel
theorem dX6_element_18 : decode cX6_element 18 = .ok (.aload_n 0, 1) := by decide +kernel
theorem dX6_element_19 : decode cX6_element 19 = .ok (.getfield 67, 3) := by decide +kernel
theorem dX6_element_22 : decode cX6_element 22 = .ok (.iload_n 1, 1) := by decide +kernel
theorem dX6_element_23 : decode cX6_element 23 = .ok (.iaload, 1) := by decide +kernel
theorem dX6_element_24 : decode cX6_element 24 = .ok (.iconst 1, 1) := by decide +kernel
theorem dX6_element_25 : decode cX6_element 25 = .ok (.isub, 1) := by decide +kernel
theorem dX6_element_26 : decode cX6_element 26 = .ok (.invokestatic 101, 3) := by decide +kernel
theorem dX6_element_29 : decode cX6_element 29 = .ok (.ifCond .ne 7, 3) := by decide +kernel
theorem dX6_element_32 : decode cX6_element 32 = .ok (.ldc2_w 244, 3) := by decide +kernel
theorem dX6_element_35 : decode cX6_element 35 = .ok (.lreturn, 1) := by decide +kernel
theorem dX6_element_36 : decode cX6_element 36 = .ok (.aload_n 0, 1) := by decide +kernel
theorem dX6_element_37 : decode cX6_element 37 = .ok (.getfield 70, 3) := by decide +kernel
theorem dX6_element_40 : decode cX6_element 40 = .ok (.bipush 40, 2) := by decide +kernel
theorem dX6_element_42 : decode cX6_element 42 = .ok (.iload_n 1, 1) := by decide +kernel
theorem dX6_element_43 : decode cX6_element 43 = .ok (.imul, 1) := by decide +kernel
theorem dX6_element_44 : decode cX6_element 44 = .ok (.iload_n 2, 1) := by decide +kernel
theorem dX6_element_45 : decode cX6_element 45 = .ok (.iadd, 1) := by decide +kernel
theorem dX6_element_46 : decode cX6_element 46 = .ok (.laload, 1) := by decide +kernel
theorem dX6_element_47 : decode cX6_element 47 = .ok (.lreturn, 1) := by decide +kernel
theorem dX6_copyElements_0 : decode cX6_copyElements 0 = .ok (.iload_n 1, 1) := by decide +kernel
theorem dX6_copyElements_1 : decode cX6_copyElements 1 = .ok (.invokestatic 273, 3) := by decide +kernel
theorem dX6_copyElements_4 : decode cX6_copyElements 4 = .ok (.ifCond .eq 10, 3) := by decide +kernel
theorem dX6_copyElements_7 : decode cX6_copyElements 7 = .ok (.iload_n 3, 1) := by decide +kernel
theorem dX6_copyElements_8 : decode cX6_copyElements 8 = .ok (.invokestatic 273, 3) := by decide +kernel
theorem dX6_copyElements_11 : decode cX6_copyElements 11 = .ok (.ifCond .ne 5, 3) := by decide +kernel
theorem dX6_copyElements_14 : decode cX6_copyElements 14 = .ok (.iconst (-1), 1) := by decide +kernel
theorem dX6_copyElements_15 : decode cX6_copyElements 15 = .ok (.ireturn, 1) := by decide +kernel
theorem dX6_copyElements_16 : decode cX6_copyElements 16 = .ok (.aload_n 0, 1) := by decide +kernel
theorem dX6_copyElements_17 : decode cX6_copyElements 17 = .ok (.getfield 64, 3) := by decide +kernel
theorem dX6_copyElements_20 : decode cX6_copyElements 20 = .ok (.iload_n 1, 1) := by decide +kernel
theorem dX6_copyElements_21 : decode cX6_copyElements 21 = .ok (.iaload, 1) := by decide +kernel
theorem dX6_copyElements_22 : decode cX6_copyElements 22 = .ok (.ifCond .lt 12, 3) := by decide +kernel
theorem dX6_copyElements_25 : decode cX6_copyElements 25 = .ok (.aload_n 0, 1) := by decide +kernel
theorem dX6_copyElements_26 : decode cX6_copyElements 26 = .ok (.getfield 64, 3) := by decide +kernel
theorem dX6_copyElements_29 : decode cX6_copyElements 29 = .ok (.iload_n 3, 1) := by decide +kernel
theorem dX6_copyElements_30 : decode cX6_copyElements 30 = .ok (.iaload, 1) := by decide +kernel
theorem dX6_copyElements_31 : decode cX6_copyElements 31 = .ok (.ifCond .ge 6, 3) := by decide +kernel
theorem dX6_copyElements_34 : decode cX6_copyElements 34 = .ok (.bipush (-11), 2) := by decide +kernel
theorem dX6_copyElements_36 : decode cX6_copyElements 36 = .ok (.ireturn, 1) := by decide +kernel
theorem dX6_copyElements_37 : decode cX6_copyElements 37 = .ok (.aload_n 0, 1) := by decide +kernel
theorem dX6_copyElements_38 : decode cX6_copyElements 38 = .ok (.getfield 64, 3) := by decide +kernel
theorem dX6_copyElements_41 : decode cX6_copyElements 41 = .ok (.iload_n 1, 1) := by decide +kernel
theorem dX6_copyElements_42 : decode cX6_copyElements 42 = .ok (.iaload, 1) := by decide +kernel
theorem dX6_copyElements_43 : decode cX6_copyElements 43 = .ok (.aload_n 0, 1) := by decide +kernel
theorem dX6_copyElements_44 : decode cX6_copyElements 44 = .ok (.getfield 64, 3) := by decide +kernel
theorem dX6_copyElements_47 : decode cX6_copyElements 47 = .ok (.iload_n 3, 1) := by decide +kernel
theorem dX6_copyElements_48 : decode cX6_copyElements 48 = .ok (.iaload, 1) := by decide +kernel
theorem dX6_copyElements_49 : decode cX6_copyElements 49 = .ok (.if_icmp .eq 6, 3) := by decide +kernel
theorem dX6_copyElements_52 : decode cX6_copyElements 52 = .ok (.bipush (-12), 2) := by decide +kernel
theorem dX6_copyElements_54 : decode cX6_copyElements 54 = .ok (.ireturn, 1) := by decide +kernel
theorem dX6_copyElements_55 : decode cX6_copyElements 55 = .ok (.iload_n 2, 1) := by decide +kernel
theorem dX6_copyElements_56 : decode cX6_copyElements 56 = .ok (.ifCond .lt 40, 3) := by decide +kernel
theorem dX6_copyElements_59 : decode cX6_copyElements 59 = .ok (.iload 4, 2) := by decide +kernel
theorem dX6_copyElements_61 : decode cX6_copyElements 61 = .ok (.ifCond .lt 35, 3) := by decide +kernel
theorem dX6_copyElements_64 : decode cX6_copyElements 64 = .ok (.iload 5, 2) := by decide +kernel
theorem dX6_copyElements_66 : decode cX6_copyElements 66 = .ok (.ifCond .lt 30, 3) := by decide +kernel
theorem dX6_copyElements_69 : decode cX6_copyElements 69 = .ok (.iload_n 2, 1) := by decide +kernel
theorem dX6_copyElements_70 : decode cX6_copyElements 70 = .ok (.aload_n 0, 1) := by decide +kernel
theorem dX6_copyElements_71 : decode cX6_copyElements 71 = .ok (.getfield 67, 3) := by decide +kernel
theorem dX6_copyElements_74 : decode cX6_copyElements 74 = .ok (.iload_n 1, 1) := by decide +kernel
theorem dX6_copyElements_75 : decode cX6_copyElements 75 = .ok (.iaload, 1) := by decide +kernel
theorem dX6_copyElements_76 : decode cX6_copyElements 76 = .ok (.iload 5, 2) := by decide +kernel
theorem dX6_copyElements_78 : decode cX6_copyElements 78 = .ok (.isub, 1) := by decide +kernel
theorem dX6_copyElements_79 : decode cX6_copyElements 79 = .ok (.if_icmp .gt 17, 3) := by decide +kernel
theorem dX6_copyElements_82 : decode cX6_copyElements 82 = .ok (.iload 4, 2) := by decide +kernel
theorem dX6_copyElements_84 : decode cX6_copyElements 84 = .ok (.aload_n 0, 1) := by decide +kernel
theorem dX6_copyElements_85 : decode cX6_copyElements 85 = .ok (.getfield 67, 3) := by decide +kernel
theorem dX6_copyElements_88 : decode cX6_copyElements 88 = .ok (.iload_n 3, 1) := by decide +kernel
theorem dX6_copyElements_89 : decode cX6_copyElements 89 = .ok (.iaload, 1) := by decide +kernel
theorem dX6_copyElements_90 : decode cX6_copyElements 90 = .ok (.iload 5, 2) := by decide +kernel
theorem dX6_copyElements_92 : decode cX6_copyElements 92 = .ok (.isub, 1) := by decide +kernel
theorem dX6_copyElements_93 : decode cX6_copyElements 93 = .ok (.if_icmp .le 6, 3) := by decide +kernel
theorem dX6_copyElements_96 : decode cX6_copyElements 96 = .ok (.bipush (-13), 2) := by decide +kernel
theorem dX6_copyElements_98 : decode cX6_copyElements 98 = .ok (.ireturn, 1) := by decide +kernel
theorem dX6_copyElements_99 : decode cX6_copyElements 99 = .ok (.iconst 0, 1) := by decide +kernel
theorem dX6_copyElements_100 : decode cX6_copyElements 100 = .ok (.istore 6, 2) := by decide +kernel
theorem dX6_copyElements_102 : decode cX6_copyElements 102 = .ok (.iload 6, 2) := by decide +kernel
theorem dX6_copyElements_104 : decode cX6_copyElements 104 = .ok (.iload 5, 2) := by decide +kernel
theorem dX6_copyElements_106 : decode cX6_copyElements 106 = .ok (.if_icmp .ge 30, 3) := by decide +kernel
theorem dX6_copyElements_109 : decode cX6_copyElements 109 = .ok (.aload_n 0, 1) := by decide +kernel
theorem dX6_copyElements_110 : decode cX6_copyElements 110 = .ok (.getfield 74, 3) := by decide +kernel
theorem dX6_copyElements_113 : decode cX6_copyElements 113 = .ok (.iload 6, 2) := by decide +kernel
theorem dX6_copyElements_115 : decode cX6_copyElements 115 = .ok (.aload_n 0, 1) := by decide +kernel
theorem dX6_copyElements_116 : decode cX6_copyElements 116 = .ok (.getfield 70, 3) := by decide +kernel
theorem dX6_copyElements_119 : decode cX6_copyElements 119 = .ok (.bipush 40, 2) := by decide +kernel
theorem dX6_copyElements_121 : decode cX6_copyElements 121 = .ok (.iload_n 1, 1) := by decide +kernel
theorem dX6_copyElements_122 : decode cX6_copyElements 122 = .ok (.imul, 1) := by decide +kernel
theorem dX6_copyElements_123 : decode cX6_copyElements 123 = .ok (.iload_n 2, 1) := by decide +kernel
theorem dX6_copyElements_124 : decode cX6_copyElements 124 = .ok (.iadd, 1) := by decide +kernel
theorem dX6_copyElements_125 : decode cX6_copyElements 125 = .ok (.iload 6, 2) := by decide +kernel
theorem dX6_copyElements_127 : decode cX6_copyElements 127 = .ok (.iadd, 1) := by decide +kernel
theorem dX6_copyElements_128 : decode cX6_copyElements 128 = .ok (.laload, 1) := by decide +kernel
theorem dX6_copyElements_129 : decode cX6_copyElements 129 = .ok (.lastore, 1) := by decide +kernel
theorem dX6_copyElements_130 : decode cX6_copyElements 130 = .ok (.iinc 6 1, 3) := by decide +kernel
theorem dX6_copyElements_133 : decode cX6_copyElements 133 = .ok (.goto (-31), 3) := by decide +kernel
theorem dX6_copyElements_136 : decode cX6_copyElements 136 = .ok (.iconst 0, 1) := by decide +kernel
theorem dX6_copyElements_137 : decode cX6_copyElements 137 = .ok (.istore 6, 2) := by decide +kernel
theorem dX6_copyElements_139 : decode cX6_copyElements 139 = .ok (.iload 6, 2) := by decide +kernel
theorem dX6_copyElements_141 : decode cX6_copyElements 141 = .ok (.iload 5, 2) := by decide +kernel
theorem dX6_copyElements_143 : decode cX6_copyElements 143 = .ok (.if_icmp .ge 31, 3) := by decide +kernel
theorem dX6_copyElements_146 : decode cX6_copyElements 146 = .ok (.aload_n 0, 1) := by decide +kernel
theorem dX6_copyElements_147 : decode cX6_copyElements 147 = .ok (.getfield 70, 3) := by decide +kernel
theorem dX6_copyElements_150 : decode cX6_copyElements 150 = .ok (.bipush 40, 2) := by decide +kernel
theorem dX6_copyElements_152 : decode cX6_copyElements 152 = .ok (.iload_n 3, 1) := by decide +kernel
theorem dX6_copyElements_153 : decode cX6_copyElements 153 = .ok (.imul, 1) := by decide +kernel
theorem dX6_copyElements_154 : decode cX6_copyElements 154 = .ok (.iload 4, 2) := by decide +kernel
theorem dX6_copyElements_156 : decode cX6_copyElements 156 = .ok (.iadd, 1) := by decide +kernel
theorem dX6_copyElements_157 : decode cX6_copyElements 157 = .ok (.iload 6, 2) := by decide +kernel
theorem dX6_copyElements_159 : decode cX6_copyElements 159 = .ok (.iadd, 1) := by decide +kernel
theorem dX6_copyElements_160 : decode cX6_copyElements 160 = .ok (.aload_n 0, 1) := by decide +kernel
theorem dX6_copyElements_161 : decode cX6_copyElements 161 = .ok (.getfield 74, 3) := by decide +kernel
theorem dX6_copyElements_164 : decode cX6_copyElements 164 = .ok (.iload 6, 2) := by decide +kernel
theorem dX6_copyElements_166 : decode cX6_copyElements 166 = .ok (.laload, 1) := by decide +kernel
theorem dX6_copyElements_167 : decode cX6_copyElements 167 = .ok (.lastore, 1) := by decide +kernel
theorem dX6_copyElements_168 : decode cX6_copyElements 168 = .ok (.iinc 6 1, 3) := by decide +kernel
theorem dX6_copyElements_171 : decode cX6_copyElements 171 = .ok (.goto (-32), 3) := by decide +kernel
theorem dX6_copyElements_174 : decode cX6_copyElements 174 = .ok (.iload 5, 2) := by decide +kernel
theorem dX6_copyElements_176 : decode cX6_copyElements 176 = .ok (.ireturn, 1) := by decide +kernel
theorem dX6_loadPattern_0 : decode cX6_loadPattern 0 = .ok (.iload_n 1, 1) := by decide +kernel
theorem dX6_loadPattern_1 : decode cX6_loadPattern 1 = .ok (.invokestatic 139, 3) := by decide +kernel
theorem dX6_loadPattern_4 : decode cX6_loadPattern 4 = .ok (.ifCond .ne 6, 3) := by decide +kernel
theorem dX6_loadPattern_7 : decode cX6_loadPattern 7 = .ok (.bipush (-2), 2) := by decide +kernel
theorem dX6_loadPattern_9 : decode cX6_loadPattern 9 = .ok (.ireturn, 1) := by decide +kernel
theorem dX6_loadPattern_10 : decode cX6_loadPattern 10 = .ok (.iload_n 2, 1) := by decide +kernel
theorem dX6_loadPattern_11 : decode cX6_loadPattern 11 = .ok (.invokestatic 273, 3) := by decide +kernel
theorem dX6_loadPattern_14 : decode cX6_loadPattern 14 = .ok (.ifCond .ne 5, 3) := by decide +kernel
theorem dX6_loadPattern_17 : decode cX6_loadPattern 17 = .ok (.iconst (-1), 1) := by decide +kernel
theorem dX6_loadPattern_18 : decode cX6_loadPattern 18 = .ok (.ireturn, 1) := by decide +kernel
theorem dX6_loadPattern_19 : decode cX6_loadPattern 19 = .ok (.aload_n 0, 1) := by decide +kernel
theorem dX6_loadPattern_20 : decode cX6_loadPattern 20 = .ok (.getfield 64, 3) := by decide +kernel
theorem dX6_loadPattern_23 : decode cX6_loadPattern 23 = .ok (.iload_n 2, 1) := by decide +kernel
theorem dX6_loadPattern_24 : decode cX6_loadPattern 24 = .ok (.iaload, 1) := by decide +kernel
theorem dX6_loadPattern_25 : decode cX6_loadPattern 25 = .ok (.ifCond .ge 6, 3) := by decide +kernel
theorem dX6_loadPattern_28 : decode cX6_loadPattern 28 = .ok (.bipush (-11), 2) := by decide +kernel
theorem dX6_loadPattern_30 : decode cX6_loadPattern 30 = .ok (.ireturn, 1) := by decide +kernel
theorem dX6_loadPattern_31 : decode cX6_loadPattern 31 = .ok (.aload_n 0, 1) := by decide +kernel
theorem dX6_loadPattern_32 : decode cX6_loadPattern 32 = .ok (.getfield 64, 3) := by decide +kernel
theorem dX6_loadPattern_35 : decode cX6_loadPattern 35 = .ok (.iload_n 2, 1) := by decide +kernel
theorem dX6_loadPattern_36 : decode cX6_loadPattern 36 = .ok (.iaload, 1) := by decide +kernel
theorem dX6_loadPattern_37 : decode cX6_loadPattern 37 = .ok (.iconst 1, 1) := by decide +kernel
theorem dX6_loadPattern_38 : decode cX6_loadPattern 38 = .ok (.if_icmp .eq 6, 3) := by decide +kernel
theorem dX6_loadPattern_41 : decode cX6_loadPattern 41 = .ok (.bipush (-12), 2) := by decide +kernel
theorem dX6_loadPattern_43 : decode cX6_loadPattern 43 = .ok (.ireturn, 1) := by decide +kernel
theorem dX6_loadPattern_44 : decode cX6_loadPattern 44 = .ok (.aload_n 0, 1) := by decide +kernel
theorem dX6_loadPattern_45 : decode cX6_loadPattern 45 = .ok (.getfield 67, 3) := by decide +kernel
theorem dX6_loadPattern_48 : decode cX6_loadPattern 48 = .ok (.iload_n 2, 1) := by decide +kernel
theorem dX6_loadPattern_49 : decode cX6_loadPattern 49 = .ok (.iaload, 1) := by decide +kernel
theorem dX6_loadPattern_50 : decode cX6_loadPattern 50 = .ok (.iconst 1, 1) := by decide +kernel
theorem dX6_loadPattern_51 : decode cX6_loadPattern 51 = .ok (.bipush 8, 2) := by decide +kernel
theorem dX6_loadPattern_53 : decode cX6_loadPattern 53 = .ok (.invokestatic 101, 3) := by decide +kernel
theorem dX6_loadPattern_56 : decode cX6_loadPattern 56 = .ok (.ifCond .ne 6, 3) := by decide +kernel
theorem dX6_loadPattern_59 : decode cX6_loadPattern 59 = .ok (.bipush (-5), 2) := by decide +kernel
theorem dX6_loadPattern_61 : decode cX6_loadPattern 61 = .ok (.ireturn, 1) := by decide +kernel
theorem dX6_loadPattern_62 : decode cX6_loadPattern 62 = .ok (.iconst 0, 1) := by decide +kernel
theorem dX6_loadPattern_63 : decode cX6_loadPattern 63 = .ok (.istore_n 3, 1) := by decide +kernel
theorem dX6_loadPattern_64 : decode cX6_loadPattern 64 = .ok (.iload_n 3, 1) := by decide +kernel
theorem dX6_loadPattern_65 : decode cX6_loadPattern 65 = .ok (.aload_n 0, 1) := by decide +kernel
theorem dX6_loadPattern_66 : decode cX6_loadPattern 66 = .ok (.getfield 67, 3) := by decide +kernel
theorem dX6_loadPattern_69 : decode cX6_loadPattern 69 = .ok (.iload_n 2, 1) := by decide +kernel
theorem dX6_loadPattern_70 : decode cX6_loadPattern 70 = .ok (.iaload, 1) := by decide +kernel
theorem dX6_loadPattern_71 : decode cX6_loadPattern 71 = .ok (.if_icmp .ge 43, 3) := by decide +kernel
theorem dX6_loadPattern_74 : decode cX6_loadPattern 74 = .ok (.aload_n 0, 1) := by decide +kernel
theorem dX6_loadPattern_75 : decode cX6_loadPattern 75 = .ok (.getfield 37, 3) := by decide +kernel
theorem dX6_loadPattern_78 : decode cX6_loadPattern 78 = .ok (.iload_n 3, 1) := by decide +kernel
theorem dX6_loadPattern_79 : decode cX6_loadPattern 79 = .ok (.aload_n 0, 1) := by decide +kernel
theorem dX6_loadPattern_80 : decode cX6_loadPattern 80 = .ok (.aload_n 0, 1) := by decide +kernel
theorem dX6_loadPattern_81 : decode cX6_loadPattern 81 = .ok (.getfield 70, 3) := by decide +kernel
theorem dX6_loadPattern_84 : decode cX6_loadPattern 84 = .ok (.bipush 40, 2) := by decide +kernel
theorem dX6_loadPattern_86 : decode cX6_loadPattern 86 = .ok (.iload_n 2, 1) := by decide +kernel
theorem dX6_loadPattern_87 : decode cX6_loadPattern 87 = .ok (.imul, 1) := by decide +kernel
theorem dX6_loadPattern_88 : decode cX6_loadPattern 88 = .ok (.iload_n 3, 1) := by decide +kernel
theorem dX6_loadPattern_89 : decode cX6_loadPattern 89 = .ok (.iadd, 1) := by decide +kernel
theorem dX6_loadPattern_90 : decode cX6_loadPattern 90 = .ok (.laload, 1) := by decide +kernel
theorem dX6_loadPattern_91 : decode cX6_loadPattern 91 = .ok (.l2i, 1) := by decide +kernel
theorem dX6_loadPattern_92 : decode cX6_loadPattern 92 = .ok (.invokevirtual 108, 3) := by decide +kernel
theorem dX6_loadPattern_95 : decode cX6_loadPattern 95 = .ok (.iastore, 1) := by decide +kernel
theorem dX6_loadPattern_96 : decode cX6_loadPattern 96 = .ok (.aload_n 0, 1) := by decide +kernel
theorem dX6_loadPattern_97 : decode cX6_loadPattern 97 = .ok (.getfield 37, 3) := by decide +kernel
theorem dX6_loadPattern_100 : decode cX6_loadPattern 100 = .ok (.iload_n 3, 1) := by decide +kernel
theorem dX6_loadPattern_101 : decode cX6_loadPattern 101 = .ok (.iaload, 1) := by decide +kernel
theorem dX6_loadPattern_102 : decode cX6_loadPattern 102 = .ok (.ifCond .ge 6, 3) := by decide +kernel
theorem dX6_loadPattern_105 : decode cX6_loadPattern 105 = .ok (.bipush (-5), 2) := by decide +kernel
theorem dX6_loadPattern_107 : decode cX6_loadPattern 107 = .ok (.ireturn, 1) := by decide +kernel
theorem dX6_loadPattern_108 : decode cX6_loadPattern 108 = .ok (.iinc 3 1, 3) := by decide +kernel
theorem dX6_loadPattern_111 : decode cX6_loadPattern 111 = .ok (.goto (-47), 3) := by decide +kernel
theorem dX6_loadPattern_114 : decode cX6_loadPattern 114 = .ok (.aload_n 0, 1) := by decide +kernel
theorem dX6_loadPattern_115 : decode cX6_loadPattern 115 = .ok (.aload_n 0, 1) := by decide +kernel
theorem dX6_loadPattern_116 : decode cX6_loadPattern 116 = .ok (.getfield 67, 3) := by decide +kernel
theorem dX6_loadPattern_119 : decode cX6_loadPattern 119 = .ok (.iload_n 2, 1) := by decide +kernel
theorem dX6_loadPattern_120 : decode cX6_loadPattern 120 = .ok (.iaload, 1) := by decide +kernel
theorem dX6_loadPattern_121 : decode cX6_loadPattern 121 = .ok (.putfield 112, 3) := by decide +kernel
theorem dX6_loadPattern_124 : decode cX6_loadPattern 124 = .ok (.aload_n 0, 1) := by decide +kernel
theorem dX6_loadPattern_125 : decode cX6_loadPattern 125 = .ok (.iload_n 1, 1) := by decide +kernel
theorem dX6_loadPattern_126 : decode cX6_loadPattern 126 = .ok (.invokevirtual 143, 3) := by decide +kernel
theorem dX6_loadPattern_129 : decode cX6_loadPattern 129 = .ok (.ireturn, 1) := by decide +kernel
theorem dX6_carry_0 : decode cX6_carry 0 = .ok (.iload_n 2, 1) := by decide +kernel
theorem dX6_carry_1 : decode cX6_carry 1 = .ok (.ifCond .eq 7, 3) := by decide +kernel
theorem dX6_carry_4 : decode cX6_carry 4 = .ok (.aload_n 0, 1) := by decide +kernel
theorem dX6_carry_5 : decode cX6_carry 5 = .ok (.goto 4, 3) := by decide +kernel
theorem dX6_carry_8 : decode cX6_carry 8 = .ok (.aload_n 1, 1) := by decide +kernel
theorem dX6_carry_9 : decode cX6_carry 9 = .ok (.iconst 0, 1) := by decide +kernel
theorem dX6_carry_10 : decode cX6_carry 10 = .ok (.iload_n 2, 1) := by decide +kernel
theorem dX6_carry_11 : decode cX6_carry 11 = .ok (.ifCond .eq 7, 3) := by decide +kernel
theorem dX6_carry_14 : decode cX6_carry 14 = .ok (.aload_n 1, 1) := by decide +kernel
theorem dX6_carry_15 : decode cX6_carry 15 = .ok (.goto 4, 3) := by decide +kernel
theorem dX6_carry_18 : decode cX6_carry 18 = .ok (.aload_n 0, 1) := by decide +kernel
theorem dX6_carry_19 : decode cX6_carry 19 = .ok (.iconst 0, 1) := by decide +kernel
theorem dX6_carry_20 : decode cX6_carry 20 = .ok (.aload_n 0, 1) := by decide +kernel
theorem dX6_carry_21 : decode cX6_carry 21 = .ok (.arraylength, 1) := by decide +kernel
theorem dX6_carry_22 : decode cX6_carry 22 = .ok (.invokestatic 125, 3) := by decide +kernel
theorem dX6_carry_25 : decode cX6_carry 25 = .ok (.return_, 1) := by decide +kernel
theorem dX6_carryAll_0 : decode cX6_carryAll 0 = .ok (.aload_n 0, 1) := by decide +kernel
theorem dX6_carryAll_1 : decode cX6_carryAll 1 = .ok (.getfield 15, 3) := by decide +kernel
theorem dX6_carryAll_4 : decode cX6_carryAll 4 = .ok (.aload_n 0, 1) := by decide +kernel
theorem dX6_carryAll_5 : decode cX6_carryAll 5 = .ok (.getfield 77, 3) := by decide +kernel
theorem dX6_carryAll_8 : decode cX6_carryAll 8 = .ok (.iload_n 1, 1) := by decide +kernel
theorem dX6_carryAll_9 : decode cX6_carryAll 9 = .ok (.invokestatic 280, 3) := by decide +kernel
theorem dX6_carryAll_12 : decode cX6_carryAll 12 = .ok (.aload_n 0, 1) := by decide +kernel
theorem dX6_carryAll_13 : decode cX6_carryAll 13 = .ok (.getfield 19, 3) := by decide +kernel
theorem dX6_carryAll_16 : decode cX6_carryAll 16 = .ok (.aload_n 0, 1) := by decide +kernel
theorem dX6_carryAll_17 : decode cX6_carryAll 17 = .ok (.getfield 80, 3) := by decide +kernel
theorem dX6_carryAll_20 : decode cX6_carryAll 20 = .ok (.iload_n 1, 1) := by decide +kernel
theorem dX6_carryAll_21 : decode cX6_carryAll 21 = .ok (.invokestatic 280, 3) := by decide +kernel
theorem dX6_carryAll_24 : decode cX6_carryAll 24 = .ok (.aload_n 0, 1) := by decide +kernel
theorem dX6_carryAll_25 : decode cX6_carryAll 25 = .ok (.getfield 22, 3) := by decide +kernel
theorem dX6_carryAll_28 : decode cX6_carryAll 28 = .ok (.aload_n 0, 1) := by decide +kernel
theorem dX6_carryAll_29 : decode cX6_carryAll 29 = .ok (.getfield 83, 3) := by decide +kernel
theorem dX6_carryAll_32 : decode cX6_carryAll 32 = .ok (.iload_n 1, 1) := by decide +kernel
theorem dX6_carryAll_33 : decode cX6_carryAll 33 = .ok (.invokestatic 280, 3) := by decide +kernel
theorem dX6_carryAll_36 : decode cX6_carryAll 36 = .ok (.aload_n 0, 1) := by decide +kernel
theorem dX6_carryAll_37 : decode cX6_carryAll 37 = .ok (.getfield 25, 3) := by decide +kernel
theorem dX6_carryAll_40 : decode cX6_carryAll 40 = .ok (.aload_n 0, 1) := by decide +kernel
theorem dX6_carryAll_41 : decode cX6_carryAll 41 = .ok (.getfield 86, 3) := by decide +kernel
theorem dX6_carryAll_44 : decode cX6_carryAll 44 = .ok (.iload_n 1, 1) := by decide +kernel
theorem dX6_carryAll_45 : decode cX6_carryAll 45 = .ok (.invokestatic 280, 3) := by decide +kernel
theorem dX6_carryAll_48 : decode cX6_carryAll 48 = .ok (.aload_n 0, 1) := by decide +kernel
theorem dX6_carryAll_49 : decode cX6_carryAll 49 = .ok (.getfield 28, 3) := by decide +kernel
theorem dX6_carryAll_52 : decode cX6_carryAll 52 = .ok (.aload_n 0, 1) := by decide +kernel
theorem dX6_carryAll_53 : decode cX6_carryAll 53 = .ok (.getfield 89, 3) := by decide +kernel
theorem dX6_carryAll_56 : decode cX6_carryAll 56 = .ok (.iload_n 1, 1) := by decide +kernel
theorem dX6_carryAll_57 : decode cX6_carryAll 57 = .ok (.invokestatic 280, 3) := by decide +kernel
theorem dX6_carryAll_60 : decode cX6_carryAll 60 = .ok (.aload_n 0, 1) := by decide +kernel
theorem dX6_carryAll_61 : decode cX6_carryAll 61 = .ok (.getfield 31, 3) := by decide +kernel
theorem dX6_carryAll_64 : decode cX6_carryAll 64 = .ok (.aload_n 0, 1) := by decide +kernel
theorem dX6_carryAll_65 : decode cX6_carryAll 65 = .ok (.getfield 92, 3) := by decide +kernel
theorem dX6_carryAll_68 : decode cX6_carryAll 68 = .ok (.iload_n 1, 1) := by decide +kernel
theorem dX6_carryAll_69 : decode cX6_carryAll 69 = .ok (.invokestatic 280, 3) := by decide +kernel
theorem dX6_carryAll_72 : decode cX6_carryAll 72 = .ok (.return_, 1) := by decide +kernel
theorem dX6_snapshot_0 : decode cX6_snapshot 0 = .ok (.aload_n 0, 1) := by decide +kernel
theorem dX6_snapshot_1 : decode cX6_snapshot 1 = .ok (.iconst 1, 1) := by decide +kernel
theorem dX6_snapshot_2 : decode cX6_snapshot 2 = .ok (.invokevirtual 284, 3) := by decide +kernel
theorem dX6_snapshot_5 : decode cX6_snapshot 5 = .ok (.aload_n 0, 1) := by decide +kernel
theorem dX6_snapshot_6 : decode cX6_snapshot 6 = .ok (.aload_n 0, 1) := by decide +kernel
theorem dX6_snapshot_7 : decode cX6_snapshot 7 = .ok (.getfield 9, 3) := by decide +kernel
theorem dX6_snapshot_10 : decode cX6_snapshot 10 = .ok (.putfield 288, 3) := by decide +kernel
theorem dX6_snapshot_13 : decode cX6_snapshot 13 = .ok (.aload_n 0, 1) := by decide +kernel
theorem dX6_snapshot_14 : decode cX6_snapshot 14 = .ok (.aload_n 0, 1) := by decide +kernel
theorem dX6_snapshot_15 : decode cX6_snapshot 15 = .ok (.getfield 98, 3) := by decide +kernel
theorem dX6_snapshot_18 : decode cX6_snapshot 18 = .ok (.putfield 291, 3) := by decide +kernel
theorem dX6_snapshot_21 : decode cX6_snapshot 21 = .ok (.aload_n 0, 1) := by decide +kernel
theorem dX6_snapshot_22 : decode cX6_snapshot 22 = .ok (.iconst 1, 1) := by decide +kernel
theorem dX6_snapshot_23 : decode cX6_snapshot 23 = .ok (.putfield 294, 3) := by decide +kernel
theorem dX6_snapshot_26 : decode cX6_snapshot 26 = .ok (.aload_n 0, 1) := by decide +kernel
theorem dX6_snapshot_27 : decode cX6_snapshot 27 = .ok (.getfield 98, 3) := by decide +kernel
theorem dX6_snapshot_30 : decode cX6_snapshot 30 = .ok (.ireturn, 1) := by decide +kernel
theorem dX6_restore_0 : decode cX6_restore 0 = .ok (.aload_n 0, 1) := by decide +kernel
theorem dX6_restore_1 : decode cX6_restore 1 = .ok (.getfield 294, 3) := by decide +kernel
theorem dX6_restore_4 : decode cX6_restore 4 = .ok (.ifCond .ne 6, 3) := by decide +kernel
theorem dX6_restore_7 : decode cX6_restore 7 = .ok (.bipush (-6), 2) := by decide +kernel
theorem dX6_restore_9 : decode cX6_restore 9 = .ok (.ireturn, 1) := by decide +kernel
theorem dX6_restore_10 : decode cX6_restore 10 = .ok (.aload_n 0, 1) := by decide +kernel
theorem dX6_restore_11 : decode cX6_restore 11 = .ok (.iconst 0, 1) := by decide +kernel
theorem dX6_restore_12 : decode cX6_restore 12 = .ok (.invokevirtual 284, 3) := by decide +kernel
theorem dX6_restore_15 : decode cX6_restore 15 = .ok (.aload_n 0, 1) := by decide +kernel
theorem dX6_restore_16 : decode cX6_restore 16 = .ok (.aload_n 0, 1) := by decide +kernel
theorem dX6_restore_17 : decode cX6_restore 17 = .ok (.getfield 288, 3) := by decide +kernel
theorem dX6_restore_20 : decode cX6_restore 20 = .ok (.putfield 9, 3) := by decide +kernel
theorem dX6_restore_23 : decode cX6_restore 23 = .ok (.aload_n 0, 1) := by decide +kernel
theorem dX6_restore_24 : decode cX6_restore 24 = .ok (.aload_n 0, 1) := by decide +kernel
theorem dX6_restore_25 : decode cX6_restore 25 = .ok (.getfield 291, 3) := by decide +kernel
theorem dX6_restore_28 : decode cX6_restore 28 = .ok (.putfield 98, 3) := by decide +kernel
theorem dX6_restore_31 : decode cX6_restore 31 = .ok (.aload_n 0, 1) := by decide +kernel
theorem dX6_restore_32 : decode cX6_restore 32 = .ok (.getfield 98, 3) := by decide +kernel
theorem dX6_restore_35 : decode cX6_restore 35 = .ok (.ireturn, 1) := by decide +kernel
end
section
theorem dL_law_0 : decode cL_law 0 = .ok (.new 7, 3) := by decide +kernel
theorem dL_law_3 : decode cL_law 3 = .ok (.dup, 1) := by decide +kernel
theorem dL_law_4 : decode cL_law 4 = .ok (.invokespecial 9, 3) := by decide +kernel
theorem dL_law_7 : decode cL_law 7 = .ok (.astore_n 1, 1) := by decide +kernel
theorem dL_law_8 : decode cL_law 8 = .ok (.new 10, 3) := by decide +kernel
theorem dL_law_11 : decode cL_law 11 = .ok (.dup, 1) := by decide +kernel
theorem dL_law_12 : decode cL_law 12 = .ok (.invokespecial 12, 3) := by decide +kernel
theorem dL_law_15 : decode cL_law 15 = .ok (.astore_n 2, 1) := by decide +kernel
theorem dL_law_16 : decode cL_law 16 = .ok (.iconst 0, 1) := by decide +kernel
theorem dL_law_17 : decode cL_law 17 = .ok (.istore_n 3, 1) := by decide +kernel
theorem dL_law_18 : decode cL_law 18 = .ok (.iload_n 3, 1) := by decide +kernel
theorem dL_law_19 : decode cL_law 19 = .ok (.aload_n 0, 1) := by decide +kernel
theorem dL_law_20 : decode cL_law 20 = .ok (.arraylength, 1) := by decide +kernel
theorem dL_law_21 : decode cL_law 21 = .ok (.bipush 6, 2) := by decide +kernel
theorem dL_law_23 : decode cL_law 23 = .ok (.isub, 1) := by decide +kernel
theorem dL_law_24 : decode cL_law 24 = .ok (.if_icmp .gt 1443, 3) := by decide +kernel
theorem dL_law_27 : decode cL_law 27 = .ok (.aload_n 0, 1) := by decide +kernel
theorem dL_law_28 : decode cL_law 28 = .ok (.iload_n 3, 1) := by decide +kernel
theorem dL_law_29 : decode cL_law 29 = .ok (.iaload, 1) := by decide +kernel
theorem dL_law_30 : decode cL_law 30 = .ok (.bipush 63, 2) := by decide +kernel
theorem dL_law_32 : decode cL_law 32 = .ok (.iand, 1) := by decide +kernel
theorem dL_law_33 : decode cL_law 33 = .ok (.tableswitch 1428 0 39 #[175, 198, 211, 244, 257, 280, 313, 336, 369, 392, 425, 458, 501, 544, 577, 600, 633, 666, 699, 722, 755, 778, 791, 814, 827, 851, 884, 927, 970, 1013, 1036, 1079, 1133, 1176, 1199, 1272, 1306, 1369, 1402, 1415], 175) := by decide +kernel
theorem dL_law_208 : decode cL_law 208 = .ok (.aload_n 1, 1) := by decide +kernel
theorem dL_law_209 : decode cL_law 209 = .ok (.aload_n 0, 1) := by decide +kernel
theorem dL_law_210 : decode cL_law 210 = .ok (.iload_n 3, 1) := by decide +kernel
theorem dL_law_211 : decode cL_law 211 = .ok (.iconst 1, 1) := by decide +kernel
theorem dL_law_212 : decode cL_law 212 = .ok (.iadd, 1) := by decide +kernel
theorem dL_law_213 : decode cL_law 213 = .ok (.iaload, 1) := by decide +kernel
theorem dL_law_214 : decode cL_law 214 = .ok (.invokevirtual 13, 3) := by decide +kernel
theorem dL_law_217 : decode cL_law 217 = .ok (.aload_n 2, 1) := by decide +kernel
theorem dL_law_218 : decode cL_law 218 = .ok (.aload_n 0, 1) := by decide +kernel
theorem dL_law_219 : decode cL_law 219 = .ok (.iload_n 3, 1) := by decide +kernel
theorem dL_law_220 : decode cL_law 220 = .ok (.iconst 1, 1) := by decide +kernel
theorem dL_law_221 : decode cL_law 221 = .ok (.iadd, 1) := by decide +kernel
theorem dL_law_222 : decode cL_law 222 = .ok (.iaload, 1) := by decide +kernel
theorem dL_law_223 : decode cL_law 223 = .ok (.invokevirtual 17, 3) := by decide +kernel
theorem dL_law_226 : decode cL_law 226 = .ok (.if_icmp .eq 1235, 3) := by decide +kernel
theorem dL_law_229 : decode cL_law 229 = .ok (.iconst 0, 1) := by decide +kernel
theorem dL_law_230 : decode cL_law 230 = .ok (.ireturn, 1) := by decide +kernel
theorem dL_law_231 : decode cL_law 231 = .ok (.aload_n 1, 1) := by decide +kernel
theorem dL_law_232 : decode cL_law 232 = .ok (.invokevirtual 18, 3) := by decide +kernel
theorem dL_law_235 : decode cL_law 235 = .ok (.aload_n 2, 1) := by decide +kernel
theorem dL_law_236 : decode cL_law 236 = .ok (.invokevirtual 22, 3) := by decide +kernel
theorem dL_law_239 : decode cL_law 239 = .ok (.if_icmp .eq 1222, 3) := by decide +kernel
theorem dL_law_242 : decode cL_law 242 = .ok (.iconst 0, 1) := by decide +kernel
theorem dL_law_243 : decode cL_law 243 = .ok (.ireturn, 1) := by decide +kernel
theorem dL_law_244 : decode cL_law 244 = .ok (.aload_n 1, 1) := by decide +kernel
theorem dL_law_245 : decode cL_law 245 = .ok (.aload_n 0, 1) := by decide +kernel
theorem dL_law_246 : decode cL_law 246 = .ok (.iload_n 3, 1) := by decide +kernel
theorem dL_law_247 : decode cL_law 247 = .ok (.iconst 1, 1) := by decide +kernel
theorem dL_law_248 : decode cL_law 248 = .ok (.iadd, 1) := by decide +kernel
theorem dL_law_249 : decode cL_law 249 = .ok (.iaload, 1) := by decide +kernel
theorem dL_law_250 : decode cL_law 250 = .ok (.aload_n 0, 1) := by decide +kernel
theorem dL_law_251 : decode cL_law 251 = .ok (.iload_n 3, 1) := by decide +kernel
theorem dL_law_252 : decode cL_law 252 = .ok (.iconst 2, 1) := by decide +kernel
theorem dL_law_253 : decode cL_law 253 = .ok (.iadd, 1) := by decide +kernel
theorem dL_law_254 : decode cL_law 254 = .ok (.iaload, 1) := by decide +kernel
theorem dL_law_255 : decode cL_law 255 = .ok (.invokevirtual 23, 3) := by decide +kernel
theorem dL_law_258 : decode cL_law 258 = .ok (.aload_n 2, 1) := by decide +kernel
theorem dL_law_259 : decode cL_law 259 = .ok (.aload_n 0, 1) := by decide +kernel
theorem dL_law_260 : decode cL_law 260 = .ok (.iload_n 3, 1) := by decide +kernel
theorem dL_law_261 : decode cL_law 261 = .ok (.iconst 1, 1) := by decide +kernel
theorem dL_law_262 : decode cL_law 262 = .ok (.iadd, 1) := by decide +kernel
theorem dL_law_263 : decode cL_law 263 = .ok (.iaload, 1) := by decide +kernel
theorem dL_law_264 : decode cL_law 264 = .ok (.aload_n 0, 1) := by decide +kernel
theorem dL_law_265 : decode cL_law 265 = .ok (.iload_n 3, 1) := by decide +kernel
theorem dL_law_266 : decode cL_law 266 = .ok (.iconst 2, 1) := by decide +kernel
theorem dL_law_267 : decode cL_law 267 = .ok (.iadd, 1) := by decide +kernel
theorem dL_law_268 : decode cL_law 268 = .ok (.iaload, 1) := by decide +kernel
theorem dL_law_269 : decode cL_law 269 = .ok (.invokevirtual 27, 3) := by decide +kernel
theorem dL_law_272 : decode cL_law 272 = .ok (.if_icmp .eq 1189, 3) := by decide +kernel
theorem dL_law_275 : decode cL_law 275 = .ok (.iconst 0, 1) := by decide +kernel
theorem dL_law_276 : decode cL_law 276 = .ok (.ireturn, 1) := by decide +kernel
theorem dL_law_277 : decode cL_law 277 = .ok (.aload_n 1, 1) := by decide +kernel
theorem dL_law_278 : decode cL_law 278 = .ok (.invokevirtual 28, 3) := by decide +kernel
theorem dL_law_281 : decode cL_law 281 = .ok (.aload_n 2, 1) := by decide +kernel
theorem dL_law_282 : decode cL_law 282 = .ok (.invokevirtual 31, 3) := by decide +kernel
theorem dL_law_285 : decode cL_law 285 = .ok (.if_icmp .eq 1176, 3) := by decide +kernel
theorem dL_law_288 : decode cL_law 288 = .ok (.iconst 0, 1) := by decide +kernel
theorem dL_law_289 : decode cL_law 289 = .ok (.ireturn, 1) := by decide +kernel
theorem dL_law_290 : decode cL_law 290 = .ok (.aload_n 1, 1) := by decide +kernel
theorem dL_law_291 : decode cL_law 291 = .ok (.aload_n 0, 1) := by decide +kernel
theorem dL_law_292 : decode cL_law 292 = .ok (.iload_n 3, 1) := by decide +kernel
theorem dL_law_293 : decode cL_law 293 = .ok (.iconst 1, 1) := by decide +kernel
theorem dL_law_294 : decode cL_law 294 = .ok (.iadd, 1) := by decide +kernel
theorem dL_law_295 : decode cL_law 295 = .ok (.iaload, 1) := by decide +kernel
theorem dL_law_296 : decode cL_law 296 = .ok (.invokevirtual 32, 3) := by decide +kernel
theorem dL_law_299 : decode cL_law 299 = .ok (.aload_n 2, 1) := by decide +kernel
theorem dL_law_300 : decode cL_law 300 = .ok (.aload_n 0, 1) := by decide +kernel
theorem dL_law_301 : decode cL_law 301 = .ok (.iload_n 3, 1) := by decide +kernel
theorem dL_law_302 : decode cL_law 302 = .ok (.iconst 1, 1) := by decide +kernel
theorem dL_law_303 : decode cL_law 303 = .ok (.iadd, 1) := by decide +kernel
theorem dL_law_304 : decode cL_law 304 = .ok (.iaload, 1) := by decide +kernel
theorem dL_law_305 : decode cL_law 305 = .ok (.invokevirtual 35, 3) := by decide +kernel
theorem dL_law_308 : decode cL_law 308 = .ok (.if_icmp .eq 1153, 3) := by decide +kernel
theorem dL_law_311 : decode cL_law 311 = .ok (.iconst 0, 1) := by decide +kernel
theorem dL_law_312 : decode cL_law 312 = .ok (.ireturn, 1) := by decide +kernel
theorem dL_law_313 : decode cL_law 313 = .ok (.aload_n 1, 1) := by decide +kernel
theorem dL_law_314 : decode cL_law 314 = .ok (.aload_n 0, 1) := by decide +kernel
theorem dL_law_315 : decode cL_law 315 = .ok (.iload_n 3, 1) := by decide +kernel
theorem dL_law_316 : decode cL_law 316 = .ok (.iconst 1, 1) := by decide +kernel
theorem dL_law_317 : decode cL_law 317 = .ok (.iadd, 1) := by decide +kernel
theorem dL_law_318 : decode cL_law 318 = .ok (.iaload, 1) := by decide +kernel
theorem dL_law_319 : decode cL_law 319 = .ok (.aload_n 0, 1) := by decide +kernel
theorem dL_law_320 : decode cL_law 320 = .ok (.iload_n 3, 1) := by decide +kernel
theorem dL_law_321 : decode cL_law 321 = .ok (.iconst 2, 1) := by decide +kernel
theorem dL_law_322 : decode cL_law 322 = .ok (.iadd, 1) := by decide +kernel
theorem dL_law_323 : decode cL_law 323 = .ok (.iaload, 1) := by decide +kernel
theorem dL_law_324 : decode cL_law 324 = .ok (.invokevirtual 36, 3) := by decide +kernel
theorem dL_law_327 : decode cL_law 327 = .ok (.aload_n 2, 1) := by decide +kernel
theorem dL_law_328 : decode cL_law 328 = .ok (.aload_n 0, 1) := by decide +kernel
theorem dL_law_329 : decode cL_law 329 = .ok (.iload_n 3, 1) := by decide +kernel
theorem dL_law_330 : decode cL_law 330 = .ok (.iconst 1, 1) := by decide +kernel
theorem dL_law_331 : decode cL_law 331 = .ok (.iadd, 1) := by decide +kernel
theorem dL_law_332 : decode cL_law 332 = .ok (.iaload, 1) := by decide +kernel
theorem dL_law_333 : decode cL_law 333 = .ok (.aload_n 0, 1) := by decide +kernel
theorem dL_law_334 : decode cL_law 334 = .ok (.iload_n 3, 1) := by decide +kernel
theorem dL_law_335 : decode cL_law 335 = .ok (.iconst 2, 1) := by decide +kernel
theorem dL_law_336 : decode cL_law 336 = .ok (.iadd, 1) := by decide +kernel
theorem dL_law_337 : decode cL_law 337 = .ok (.iaload, 1) := by decide +kernel
theorem dL_law_338 : decode cL_law 338 = .ok (.invokevirtual 39, 3) := by decide +kernel
theorem dL_law_341 : decode cL_law 341 = .ok (.if_icmp .eq 1120, 3) := by decide +kernel
theorem dL_law_344 : decode cL_law 344 = .ok (.iconst 0, 1) := by decide +kernel
theorem dL_law_345 : decode cL_law 345 = .ok (.ireturn, 1) := by decide +kernel
theorem dL_law_346 : decode cL_law 346 = .ok (.aload_n 1, 1) := by decide +kernel
theorem dL_law_347 : decode cL_law 347 = .ok (.aload_n 0, 1) := by decide +kernel
theorem dL_law_348 : decode cL_law 348 = .ok (.iload_n 3, 1) := by decide +kernel
theorem dL_law_349 : decode cL_law 349 = .ok (.iconst 1, 1) := by decide +kernel
theorem dL_law_350 : decode cL_law 350 = .ok (.iadd, 1) := by decide +kernel
theorem dL_law_351 : decode cL_law 351 = .ok (.iaload, 1) := by decide +kernel
theorem dL_law_352 : decode cL_law 352 = .ok (.invokevirtual 40, 3) := by decide +kernel
theorem dL_law_355 : decode cL_law 355 = .ok (.aload_n 2, 1) := by decide +kernel
theorem dL_law_356 : decode cL_law 356 = .ok (.aload_n 0, 1) := by decide +kernel
theorem dL_law_357 : decode cL_law 357 = .ok (.iload_n 3, 1) := by decide +kernel
theorem dL_law_358 : decode cL_law 358 = .ok (.iconst 1, 1) := by decide +kernel
theorem dL_law_359 : decode cL_law 359 = .ok (.iadd, 1) := by decide +kernel
theorem dL_law_360 : decode cL_law 360 = .ok (.iaload, 1) := by decide +kernel
theorem dL_law_361 : decode cL_law 361 = .ok (.invokevirtual 43, 3) := by decide +kernel
theorem dL_law_364 : decode cL_law 364 = .ok (.if_icmp .eq 1097, 3) := by decide +kernel
theorem dL_law_367 : decode cL_law 367 = .ok (.iconst 0, 1) := by decide +kernel
theorem dL_law_368 : decode cL_law 368 = .ok (.ireturn, 1) := by decide +kernel
theorem dL_law_369 : decode cL_law 369 = .ok (.aload_n 1, 1) := by decide +kernel
theorem dL_law_370 : decode cL_law 370 = .ok (.aload_n 0, 1) := by decide +kernel
theorem dL_law_371 : decode cL_law 371 = .ok (.iload_n 3, 1) := by decide +kernel
theorem dL_law_372 : decode cL_law 372 = .ok (.iconst 1, 1) := by decide +kernel
theorem dL_law_373 : decode cL_law 373 = .ok (.iadd, 1) := by decide +kernel
theorem dL_law_374 : decode cL_law 374 = .ok (.iaload, 1) := by decide +kernel
theorem dL_law_375 : decode cL_law 375 = .ok (.aload_n 0, 1) := by decide +kernel
theorem dL_law_376 : decode cL_law 376 = .ok (.iload_n 3, 1) := by decide +kernel
theorem dL_law_377 : decode cL_law 377 = .ok (.iconst 2, 1) := by decide +kernel
theorem dL_law_378 : decode cL_law 378 = .ok (.iadd, 1) := by decide +kernel
theorem dL_law_379 : decode cL_law 379 = .ok (.iaload, 1) := by decide +kernel
theorem dL_law_380 : decode cL_law 380 = .ok (.invokevirtual 44, 3) := by decide +kernel
theorem dL_law_383 : decode cL_law 383 = .ok (.aload_n 2, 1) := by decide +kernel
theorem dL_law_384 : decode cL_law 384 = .ok (.aload_n 0, 1) := by decide +kernel
theorem dL_law_385 : decode cL_law 385 = .ok (.iload_n 3, 1) := by decide +kernel
theorem dL_law_386 : decode cL_law 386 = .ok (.iconst 1, 1) := by decide +kernel
theorem dL_law_387 : decode cL_law 387 = .ok (.iadd, 1) := by decide +kernel
theorem dL_law_388 : decode cL_law 388 = .ok (.iaload, 1) := by decide +kernel
theorem dL_law_389 : decode cL_law 389 = .ok (.aload_n 0, 1) := by decide +kernel
theorem dL_law_390 : decode cL_law 390 = .ok (.iload_n 3, 1) := by decide +kernel
theorem dL_law_391 : decode cL_law 391 = .ok (.iconst 2, 1) := by decide +kernel
theorem dL_law_392 : decode cL_law 392 = .ok (.iadd, 1) := by decide +kernel
theorem dL_law_393 : decode cL_law 393 = .ok (.iaload, 1) := by decide +kernel
theorem dL_law_394 : decode cL_law 394 = .ok (.invokevirtual 47, 3) := by decide +kernel
theorem dL_law_397 : decode cL_law 397 = .ok (.if_icmp .eq 1064, 3) := by decide +kernel
theorem dL_law_400 : decode cL_law 400 = .ok (.iconst 0, 1) := by decide +kernel
theorem dL_law_401 : decode cL_law 401 = .ok (.ireturn, 1) := by decide +kernel
theorem dL_law_402 : decode cL_law 402 = .ok (.aload_n 1, 1) := by decide +kernel
theorem dL_law_403 : decode cL_law 403 = .ok (.aload_n 0, 1) := by decide +kernel
theorem dL_law_404 : decode cL_law 404 = .ok (.iload_n 3, 1) := by decide +kernel
theorem dL_law_405 : decode cL_law 405 = .ok (.iconst 1, 1) := by decide +kernel
theorem dL_law_406 : decode cL_law 406 = .ok (.iadd, 1) := by decide +kernel
theorem dL_law_407 : decode cL_law 407 = .ok (.iaload, 1) := by decide +kernel
theorem dL_law_408 : decode cL_law 408 = .ok (.invokevirtual 48, 3) := by decide +kernel
theorem dL_law_411 : decode cL_law 411 = .ok (.aload_n 2, 1) := by decide +kernel
theorem dL_law_412 : decode cL_law 412 = .ok (.aload_n 0, 1) := by decide +kernel
theorem dL_law_413 : decode cL_law 413 = .ok (.iload_n 3, 1) := by decide +kernel
theorem dL_law_414 : decode cL_law 414 = .ok (.iconst 1, 1) := by decide +kernel
theorem dL_law_415 : decode cL_law 415 = .ok (.iadd, 1) := by decide +kernel
theorem dL_law_416 : decode cL_law 416 = .ok (.iaload, 1) := by decide +kernel
theorem dL_law_417 : decode cL_law 417 = .ok (.invokevirtual 51, 3) := by decide +kernel
theorem dL_law_420 : decode cL_law 420 = .ok (.if_icmp .eq 1041, 3) := by decide +kernel
theorem dL_law_423 : decode cL_law 423 = .ok (.iconst 0, 1) := by decide +kernel
theorem dL_law_424 : decode cL_law 424 = .ok (.ireturn, 1) := by decide +kernel
theorem dL_law_425 : decode cL_law 425 = .ok (.aload_n 1, 1) := by decide +kernel
theorem dL_law_426 : decode cL_law 426 = .ok (.aload_n 0, 1) := by decide +kernel
theorem dL_law_427 : decode cL_law 427 = .ok (.iload_n 3, 1) := by decide +kernel
theorem dL_law_428 : decode cL_law 428 = .ok (.iconst 1, 1) := by decide +kernel
theorem dL_law_429 : decode cL_law 429 = .ok (.iadd, 1) := by decide +kernel
theorem dL_law_430 : decode cL_law 430 = .ok (.iaload, 1) := by decide +kernel
theorem dL_law_431 : decode cL_law 431 = .ok (.aload_n 0, 1) := by decide +kernel
theorem dL_law_432 : decode cL_law 432 = .ok (.iload_n 3, 1) := by decide +kernel
theorem dL_law_433 : decode cL_law 433 = .ok (.iconst 2, 1) := by decide +kernel
theorem dL_law_434 : decode cL_law 434 = .ok (.iadd, 1) := by decide +kernel
theorem dL_law_435 : decode cL_law 435 = .ok (.iaload, 1) := by decide +kernel
theorem dL_law_436 : decode cL_law 436 = .ok (.invokevirtual 52, 3) := by decide +kernel
theorem dL_law_439 : decode cL_law 439 = .ok (.aload_n 2, 1) := by decide +kernel
theorem dL_law_440 : decode cL_law 440 = .ok (.aload_n 0, 1) := by decide +kernel
theorem dL_law_441 : decode cL_law 441 = .ok (.iload_n 3, 1) := by decide +kernel
theorem dL_law_442 : decode cL_law 442 = .ok (.iconst 1, 1) := by decide +kernel
theorem dL_law_443 : decode cL_law 443 = .ok (.iadd, 1) := by decide +kernel
theorem dL_law_444 : decode cL_law 444 = .ok (.iaload, 1) := by decide +kernel
theorem dL_law_445 : decode cL_law 445 = .ok (.aload_n 0, 1) := by decide +kernel
theorem dL_law_446 : decode cL_law 446 = .ok (.iload_n 3, 1) := by decide +kernel
theorem dL_law_447 : decode cL_law 447 = .ok (.iconst 2, 1) := by decide +kernel
theorem dL_law_448 : decode cL_law 448 = .ok (.iadd, 1) := by decide +kernel
theorem dL_law_449 : decode cL_law 449 = .ok (.iaload, 1) := by decide +kernel
theorem dL_law_450 : decode cL_law 450 = .ok (.invokevirtual 55, 3) := by decide +kernel
theorem dL_law_453 : decode cL_law 453 = .ok (.if_icmp .eq 1008, 3) := by decide +kernel
theorem dL_law_456 : decode cL_law 456 = .ok (.iconst 0, 1) := by decide +kernel
theorem dL_law_457 : decode cL_law 457 = .ok (.ireturn, 1) := by decide +kernel
theorem dL_law_458 : decode cL_law 458 = .ok (.aload_n 1, 1) := by decide +kernel
theorem dL_law_459 : decode cL_law 459 = .ok (.aload_n 0, 1) := by decide +kernel
theorem dL_law_460 : decode cL_law 460 = .ok (.iload_n 3, 1) := by decide +kernel
theorem dL_law_461 : decode cL_law 461 = .ok (.iconst 1, 1) := by decide +kernel
theorem dL_law_462 : decode cL_law 462 = .ok (.iadd, 1) := by decide +kernel
theorem dL_law_463 : decode cL_law 463 = .ok (.iaload, 1) := by decide +kernel
theorem dL_law_464 : decode cL_law 464 = .ok (.aload_n 0, 1) := by decide +kernel
theorem dL_law_465 : decode cL_law 465 = .ok (.iload_n 3, 1) := by decide +kernel
theorem dL_law_466 : decode cL_law 466 = .ok (.iconst 2, 1) := by decide +kernel
theorem dL_law_467 : decode cL_law 467 = .ok (.iadd, 1) := by decide +kernel
theorem dL_law_468 : decode cL_law 468 = .ok (.iaload, 1) := by decide +kernel
theorem dL_law_469 : decode cL_law 469 = .ok (.invokevirtual 56, 3) := by decide +kernel
theorem dL_law_472 : decode cL_law 472 = .ok (.aload_n 2, 1) := by decide +kernel
theorem dL_law_473 : decode cL_law 473 = .ok (.aload_n 0, 1) := by decide +kernel
theorem dL_law_474 : decode cL_law 474 = .ok (.iload_n 3, 1) := by decide +kernel
theorem dL_law_475 : decode cL_law 475 = .ok (.iconst 1, 1) := by decide +kernel
theorem dL_law_476 : decode cL_law 476 = .ok (.iadd, 1) := by decide +kernel
theorem dL_law_477 : decode cL_law 477 = .ok (.iaload, 1) := by decide +kernel
theorem dL_law_478 : decode cL_law 478 = .ok (.aload_n 0, 1) := by decide +kernel
theorem dL_law_479 : decode cL_law 479 = .ok (.iload_n 3, 1) := by decide +kernel
theorem dL_law_480 : decode cL_law 480 = .ok (.iconst 2, 1) := by decide +kernel
theorem dL_law_481 : decode cL_law 481 = .ok (.iadd, 1) := by decide +kernel
theorem dL_law_482 : decode cL_law 482 = .ok (.iaload, 1) := by decide +kernel
theorem dL_law_483 : decode cL_law 483 = .ok (.invokevirtual 59, 3) := by decide +kernel
theorem dL_law_486 : decode cL_law 486 = .ok (.if_icmp .eq 975, 3) := by decide +kernel
theorem dL_law_489 : decode cL_law 489 = .ok (.iconst 0, 1) := by decide +kernel
theorem dL_law_490 : decode cL_law 490 = .ok (.ireturn, 1) := by decide +kernel
theorem dL_law_491 : decode cL_law 491 = .ok (.aload_n 1, 1) := by decide +kernel
theorem dL_law_492 : decode cL_law 492 = .ok (.aload_n 0, 1) := by decide +kernel
theorem dL_law_493 : decode cL_law 493 = .ok (.iload_n 3, 1) := by decide +kernel
theorem dL_law_494 : decode cL_law 494 = .ok (.iconst 1, 1) := by decide +kernel
theorem dL_law_495 : decode cL_law 495 = .ok (.iadd, 1) := by decide +kernel
theorem dL_law_496 : decode cL_law 496 = .ok (.iaload, 1) := by decide +kernel
theorem dL_law_497 : decode cL_law 497 = .ok (.aload_n 0, 1) := by decide +kernel
theorem dL_law_498 : decode cL_law 498 = .ok (.iload_n 3, 1) := by decide +kernel
theorem dL_law_499 : decode cL_law 499 = .ok (.iconst 2, 1) := by decide +kernel
theorem dL_law_500 : decode cL_law 500 = .ok (.iadd, 1) := by decide +kernel
theorem dL_law_501 : decode cL_law 501 = .ok (.iaload, 1) := by decide +kernel
theorem dL_law_502 : decode cL_law 502 = .ok (.aload_n 0, 1) := by decide +kernel
theorem dL_law_503 : decode cL_law 503 = .ok (.iload_n 3, 1) := by decide +kernel
theorem dL_law_504 : decode cL_law 504 = .ok (.iconst 3, 1) := by decide +kernel
theorem dL_law_505 : decode cL_law 505 = .ok (.iadd, 1) := by decide +kernel
theorem dL_law_506 : decode cL_law 506 = .ok (.iaload, 1) := by decide +kernel
theorem dL_law_507 : decode cL_law 507 = .ok (.invokevirtual 60, 3) := by decide +kernel
theorem dL_law_510 : decode cL_law 510 = .ok (.aload_n 2, 1) := by decide +kernel
theorem dL_law_511 : decode cL_law 511 = .ok (.aload_n 0, 1) := by decide +kernel
theorem dL_law_512 : decode cL_law 512 = .ok (.iload_n 3, 1) := by decide +kernel
theorem dL_law_513 : decode cL_law 513 = .ok (.iconst 1, 1) := by decide +kernel
theorem dL_law_514 : decode cL_law 514 = .ok (.iadd, 1) := by decide +kernel
theorem dL_law_515 : decode cL_law 515 = .ok (.iaload, 1) := by decide +kernel
theorem dL_law_516 : decode cL_law 516 = .ok (.aload_n 0, 1) := by decide +kernel
theorem dL_law_517 : decode cL_law 517 = .ok (.iload_n 3, 1) := by decide +kernel
theorem dL_law_518 : decode cL_law 518 = .ok (.iconst 2, 1) := by decide +kernel
theorem dL_law_519 : decode cL_law 519 = .ok (.iadd, 1) := by decide +kernel
theorem dL_law_520 : decode cL_law 520 = .ok (.iaload, 1) := by decide +kernel
theorem dL_law_521 : decode cL_law 521 = .ok (.aload_n 0, 1) := by decide +kernel
theorem dL_law_522 : decode cL_law 522 = .ok (.iload_n 3, 1) := by decide +kernel
theorem dL_law_523 : decode cL_law 523 = .ok (.iconst 3, 1) := by decide +kernel
theorem dL_law_524 : decode cL_law 524 = .ok (.iadd, 1) := by decide +kernel
theorem dL_law_525 : decode cL_law 525 = .ok (.iaload, 1) := by decide +kernel
theorem dL_law_526 : decode cL_law 526 = .ok (.invokevirtual 64, 3) := by decide +kernel
theorem dL_law_529 : decode cL_law 529 = .ok (.if_icmp .eq 932, 3) := by decide +kernel
theorem dL_law_532 : decode cL_law 532 = .ok (.iconst 0, 1) := by decide +kernel
theorem dL_law_533 : decode cL_law 533 = .ok (.ireturn, 1) := by decide +kernel
theorem dL_law_534 : decode cL_law 534 = .ok (.aload_n 1, 1) := by decide +kernel
theorem dL_law_535 : decode cL_law 535 = .ok (.aload_n 0, 1) := by decide +kernel
theorem dL_law_536 : decode cL_law 536 = .ok (.iload_n 3, 1) := by decide +kernel
theorem dL_law_537 : decode cL_law 537 = .ok (.iconst 1, 1) := by decide +kernel
theorem dL_law_538 : decode cL_law 538 = .ok (.iadd, 1) := by decide +kernel
theorem dL_law_539 : decode cL_law 539 = .ok (.iaload, 1) := by decide +kernel
theorem dL_law_540 : decode cL_law 540 = .ok (.aload_n 0, 1) := by decide +kernel
theorem dL_law_541 : decode cL_law 541 = .ok (.iload_n 3, 1) := by decide +kernel
theorem dL_law_542 : decode cL_law 542 = .ok (.iconst 2, 1) := by decide +kernel
theorem dL_law_543 : decode cL_law 543 = .ok (.iadd, 1) := by decide +kernel
theorem dL_law_544 : decode cL_law 544 = .ok (.iaload, 1) := by decide +kernel
theorem dL_law_545 : decode cL_law 545 = .ok (.aload_n 0, 1) := by decide +kernel
theorem dL_law_546 : decode cL_law 546 = .ok (.iload_n 3, 1) := by decide +kernel
theorem dL_law_547 : decode cL_law 547 = .ok (.iconst 3, 1) := by decide +kernel
theorem dL_law_548 : decode cL_law 548 = .ok (.iadd, 1) := by decide +kernel
theorem dL_law_549 : decode cL_law 549 = .ok (.iaload, 1) := by decide +kernel
theorem dL_law_550 : decode cL_law 550 = .ok (.invokevirtual 65, 3) := by decide +kernel
theorem dL_law_553 : decode cL_law 553 = .ok (.aload_n 2, 1) := by decide +kernel
theorem dL_law_554 : decode cL_law 554 = .ok (.aload_n 0, 1) := by decide +kernel
theorem dL_law_555 : decode cL_law 555 = .ok (.iload_n 3, 1) := by decide +kernel
theorem dL_law_556 : decode cL_law 556 = .ok (.iconst 1, 1) := by decide +kernel
theorem dL_law_557 : decode cL_law 557 = .ok (.iadd, 1) := by decide +kernel
theorem dL_law_558 : decode cL_law 558 = .ok (.iaload, 1) := by decide +kernel
theorem dL_law_559 : decode cL_law 559 = .ok (.aload_n 0, 1) := by decide +kernel
theorem dL_law_560 : decode cL_law 560 = .ok (.iload_n 3, 1) := by decide +kernel
theorem dL_law_561 : decode cL_law 561 = .ok (.iconst 2, 1) := by decide +kernel
theorem dL_law_562 : decode cL_law 562 = .ok (.iadd, 1) := by decide +kernel
theorem dL_law_563 : decode cL_law 563 = .ok (.iaload, 1) := by decide +kernel
theorem dL_law_564 : decode cL_law 564 = .ok (.aload_n 0, 1) := by decide +kernel
theorem dL_law_565 : decode cL_law 565 = .ok (.iload_n 3, 1) := by decide +kernel
theorem dL_law_566 : decode cL_law 566 = .ok (.iconst 3, 1) := by decide +kernel
theorem dL_law_567 : decode cL_law 567 = .ok (.iadd, 1) := by decide +kernel
theorem dL_law_568 : decode cL_law 568 = .ok (.iaload, 1) := by decide +kernel
theorem dL_law_569 : decode cL_law 569 = .ok (.invokevirtual 68, 3) := by decide +kernel
theorem dL_law_572 : decode cL_law 572 = .ok (.if_icmp .eq 889, 3) := by decide +kernel
theorem dL_law_575 : decode cL_law 575 = .ok (.iconst 0, 1) := by decide +kernel
theorem dL_law_576 : decode cL_law 576 = .ok (.ireturn, 1) := by decide +kernel
theorem dL_law_577 : decode cL_law 577 = .ok (.aload_n 1, 1) := by decide +kernel
theorem dL_law_578 : decode cL_law 578 = .ok (.aload_n 0, 1) := by decide +kernel
theorem dL_law_579 : decode cL_law 579 = .ok (.iload_n 3, 1) := by decide +kernel
theorem dL_law_580 : decode cL_law 580 = .ok (.iconst 1, 1) := by decide +kernel
theorem dL_law_581 : decode cL_law 581 = .ok (.iadd, 1) := by decide +kernel
theorem dL_law_582 : decode cL_law 582 = .ok (.iaload, 1) := by decide +kernel
theorem dL_law_583 : decode cL_law 583 = .ok (.aload_n 0, 1) := by decide +kernel
theorem dL_law_584 : decode cL_law 584 = .ok (.iload_n 3, 1) := by decide +kernel
theorem dL_law_585 : decode cL_law 585 = .ok (.iconst 2, 1) := by decide +kernel
theorem dL_law_586 : decode cL_law 586 = .ok (.iadd, 1) := by decide +kernel
theorem dL_law_587 : decode cL_law 587 = .ok (.iaload, 1) := by decide +kernel
theorem dL_law_588 : decode cL_law 588 = .ok (.invokevirtual 69, 3) := by decide +kernel
theorem dL_law_591 : decode cL_law 591 = .ok (.aload_n 2, 1) := by decide +kernel
theorem dL_law_592 : decode cL_law 592 = .ok (.aload_n 0, 1) := by decide +kernel
theorem dL_law_593 : decode cL_law 593 = .ok (.iload_n 3, 1) := by decide +kernel
theorem dL_law_594 : decode cL_law 594 = .ok (.iconst 1, 1) := by decide +kernel
theorem dL_law_595 : decode cL_law 595 = .ok (.iadd, 1) := by decide +kernel
theorem dL_law_596 : decode cL_law 596 = .ok (.iaload, 1) := by decide +kernel
theorem dL_law_597 : decode cL_law 597 = .ok (.aload_n 0, 1) := by decide +kernel
theorem dL_law_598 : decode cL_law 598 = .ok (.iload_n 3, 1) := by decide +kernel
theorem dL_law_599 : decode cL_law 599 = .ok (.iconst 2, 1) := by decide +kernel
theorem dL_law_600 : decode cL_law 600 = .ok (.iadd, 1) := by decide +kernel
theorem dL_law_601 : decode cL_law 601 = .ok (.iaload, 1) := by decide +kernel
theorem dL_law_602 : decode cL_law 602 = .ok (.invokevirtual 72, 3) := by decide +kernel
theorem dL_law_605 : decode cL_law 605 = .ok (.if_icmp .eq 856, 3) := by decide +kernel
theorem dL_law_608 : decode cL_law 608 = .ok (.iconst 0, 1) := by decide +kernel
theorem dL_law_609 : decode cL_law 609 = .ok (.ireturn, 1) := by decide +kernel
theorem dL_law_610 : decode cL_law 610 = .ok (.aload_n 1, 1) := by decide +kernel
theorem dL_law_611 : decode cL_law 611 = .ok (.aload_n 0, 1) := by decide +kernel
theorem dL_law_612 : decode cL_law 612 = .ok (.iload_n 3, 1) := by decide +kernel
theorem dL_law_613 : decode cL_law 613 = .ok (.iconst 1, 1) := by decide +kernel
theorem dL_law_614 : decode cL_law 614 = .ok (.iadd, 1) := by decide +kernel
theorem dL_law_615 : decode cL_law 615 = .ok (.iaload, 1) := by decide +kernel
theorem dL_law_616 : decode cL_law 616 = .ok (.invokevirtual 73, 3) := by decide +kernel
theorem dL_law_619 : decode cL_law 619 = .ok (.aload_n 2, 1) := by decide +kernel
theorem dL_law_620 : decode cL_law 620 = .ok (.aload_n 0, 1) := by decide +kernel
theorem dL_law_621 : decode cL_law 621 = .ok (.iload_n 3, 1) := by decide +kernel
theorem dL_law_622 : decode cL_law 622 = .ok (.iconst 1, 1) := by decide +kernel
theorem dL_law_623 : decode cL_law 623 = .ok (.iadd, 1) := by decide +kernel
theorem dL_law_624 : decode cL_law 624 = .ok (.iaload, 1) := by decide +kernel
theorem dL_law_625 : decode cL_law 625 = .ok (.invokevirtual 76, 3) := by decide +kernel
theorem dL_law_628 : decode cL_law 628 = .ok (.if_icmp .eq 833, 3) := by decide +kernel
theorem dL_law_631 : decode cL_law 631 = .ok (.iconst 0, 1) := by decide +kernel
theorem dL_law_632 : decode cL_law 632 = .ok (.ireturn, 1) := by decide +kernel
theorem dL_law_633 : decode cL_law 633 = .ok (.aload_n 1, 1) := by decide +kernel
theorem dL_law_634 : decode cL_law 634 = .ok (.aload_n 0, 1) := by decide +kernel
theorem dL_law_635 : decode cL_law 635 = .ok (.iload_n 3, 1) := by decide +kernel
theorem dL_law_636 : decode cL_law 636 = .ok (.iconst 1, 1) := by decide +kernel
theorem dL_law_637 : decode cL_law 637 = .ok (.iadd, 1) := by decide +kernel
theorem dL_law_638 : decode cL_law 638 = .ok (.iaload, 1) := by decide +kernel
theorem dL_law_639 : decode cL_law 639 = .ok (.aload_n 0, 1) := by decide +kernel
theorem dL_law_640 : decode cL_law 640 = .ok (.iload_n 3, 1) := by decide +kernel
theorem dL_law_641 : decode cL_law 641 = .ok (.iconst 2, 1) := by decide +kernel
theorem dL_law_642 : decode cL_law 642 = .ok (.iadd, 1) := by decide +kernel
theorem dL_law_643 : decode cL_law 643 = .ok (.iaload, 1) := by decide +kernel
theorem dL_law_644 : decode cL_law 644 = .ok (.invokevirtual 77, 3) := by decide +kernel
theorem dL_law_647 : decode cL_law 647 = .ok (.aload_n 2, 1) := by decide +kernel
theorem dL_law_648 : decode cL_law 648 = .ok (.aload_n 0, 1) := by decide +kernel
theorem dL_law_649 : decode cL_law 649 = .ok (.iload_n 3, 1) := by decide +kernel
theorem dL_law_650 : decode cL_law 650 = .ok (.iconst 1, 1) := by decide +kernel
theorem dL_law_651 : decode cL_law 651 = .ok (.iadd, 1) := by decide +kernel
theorem dL_law_652 : decode cL_law 652 = .ok (.iaload, 1) := by decide +kernel
theorem dL_law_653 : decode cL_law 653 = .ok (.aload_n 0, 1) := by decide +kernel
theorem dL_law_654 : decode cL_law 654 = .ok (.iload_n 3, 1) := by decide +kernel
theorem dL_law_655 : decode cL_law 655 = .ok (.iconst 2, 1) := by decide +kernel
theorem dL_law_656 : decode cL_law 656 = .ok (.iadd, 1) := by decide +kernel
theorem dL_law_657 : decode cL_law 657 = .ok (.iaload, 1) := by decide +kernel
theorem dL_law_658 : decode cL_law 658 = .ok (.invokevirtual 80, 3) := by decide +kernel
theorem dL_law_661 : decode cL_law 661 = .ok (.if_icmp .eq 800, 3) := by decide +kernel
theorem dL_law_664 : decode cL_law 664 = .ok (.iconst 0, 1) := by decide +kernel
theorem dL_law_665 : decode cL_law 665 = .ok (.ireturn, 1) := by decide +kernel
theorem dL_law_666 : decode cL_law 666 = .ok (.aload_n 1, 1) := by decide +kernel
theorem dL_law_667 : decode cL_law 667 = .ok (.aload_n 0, 1) := by decide +kernel
theorem dL_law_668 : decode cL_law 668 = .ok (.iload_n 3, 1) := by decide +kernel
theorem dL_law_669 : decode cL_law 669 = .ok (.iconst 1, 1) := by decide +kernel
theorem dL_law_670 : decode cL_law 670 = .ok (.iadd, 1) := by decide +kernel
theorem dL_law_671 : decode cL_law 671 = .ok (.iaload, 1) := by decide +kernel
theorem dL_law_672 : decode cL_law 672 = .ok (.aload_n 0, 1) := by decide +kernel
theorem dL_law_673 : decode cL_law 673 = .ok (.iload_n 3, 1) := by decide +kernel
theorem dL_law_674 : decode cL_law 674 = .ok (.iconst 2, 1) := by decide +kernel
theorem dL_law_675 : decode cL_law 675 = .ok (.iadd, 1) := by decide +kernel
theorem dL_law_676 : decode cL_law 676 = .ok (.iaload, 1) := by decide +kernel
theorem dL_law_677 : decode cL_law 677 = .ok (.invokevirtual 81, 3) := by decide +kernel
theorem dL_law_680 : decode cL_law 680 = .ok (.aload_n 2, 1) := by decide +kernel
theorem dL_law_681 : decode cL_law 681 = .ok (.aload_n 0, 1) := by decide +kernel
theorem dL_law_682 : decode cL_law 682 = .ok (.iload_n 3, 1) := by decide +kernel
theorem dL_law_683 : decode cL_law 683 = .ok (.iconst 1, 1) := by decide +kernel
theorem dL_law_684 : decode cL_law 684 = .ok (.iadd, 1) := by decide +kernel
theorem dL_law_685 : decode cL_law 685 = .ok (.iaload, 1) := by decide +kernel
theorem dL_law_686 : decode cL_law 686 = .ok (.aload_n 0, 1) := by decide +kernel
theorem dL_law_687 : decode cL_law 687 = .ok (.iload_n 3, 1) := by decide +kernel
theorem dL_law_688 : decode cL_law 688 = .ok (.iconst 2, 1) := by decide +kernel
theorem dL_law_689 : decode cL_law 689 = .ok (.iadd, 1) := by decide +kernel
theorem dL_law_690 : decode cL_law 690 = .ok (.iaload, 1) := by decide +kernel
theorem dL_law_691 : decode cL_law 691 = .ok (.invokevirtual 84, 3) := by decide +kernel
theorem dL_law_694 : decode cL_law 694 = .ok (.if_icmp .eq 767, 3) := by decide +kernel
theorem dL_law_697 : decode cL_law 697 = .ok (.iconst 0, 1) := by decide +kernel
theorem dL_law_698 : decode cL_law 698 = .ok (.ireturn, 1) := by decide +kernel
theorem dL_law_699 : decode cL_law 699 = .ok (.aload_n 1, 1) := by decide +kernel
theorem dL_law_700 : decode cL_law 700 = .ok (.aload_n 0, 1) := by decide +kernel
theorem dL_law_701 : decode cL_law 701 = .ok (.iload_n 3, 1) := by decide +kernel
theorem dL_law_702 : decode cL_law 702 = .ok (.iconst 1, 1) := by decide +kernel
theorem dL_law_703 : decode cL_law 703 = .ok (.iadd, 1) := by decide +kernel
theorem dL_law_704 : decode cL_law 704 = .ok (.iaload, 1) := by decide +kernel
theorem dL_law_705 : decode cL_law 705 = .ok (.aload_n 0, 1) := by decide +kernel
theorem dL_law_706 : decode cL_law 706 = .ok (.iload_n 3, 1) := by decide +kernel
theorem dL_law_707 : decode cL_law 707 = .ok (.iconst 2, 1) := by decide +kernel
theorem dL_law_708 : decode cL_law 708 = .ok (.iadd, 1) := by decide +kernel
theorem dL_law_709 : decode cL_law 709 = .ok (.iaload, 1) := by decide +kernel
theorem dL_law_710 : decode cL_law 710 = .ok (.invokevirtual 85, 3) := by decide +kernel
theorem dL_law_713 : decode cL_law 713 = .ok (.aload_n 2, 1) := by decide +kernel
theorem dL_law_714 : decode cL_law 714 = .ok (.aload_n 0, 1) := by decide +kernel
theorem dL_law_715 : decode cL_law 715 = .ok (.iload_n 3, 1) := by decide +kernel
theorem dL_law_716 : decode cL_law 716 = .ok (.iconst 1, 1) := by decide +kernel
theorem dL_law_717 : decode cL_law 717 = .ok (.iadd, 1) := by decide +kernel
theorem dL_law_718 : decode cL_law 718 = .ok (.iaload, 1) := by decide +kernel
theorem dL_law_719 : decode cL_law 719 = .ok (.aload_n 0, 1) := by decide +kernel
theorem dL_law_720 : decode cL_law 720 = .ok (.iload_n 3, 1) := by decide +kernel
theorem dL_law_721 : decode cL_law 721 = .ok (.iconst 2, 1) := by decide +kernel
theorem dL_law_722 : decode cL_law 722 = .ok (.iadd, 1) := by decide +kernel
theorem dL_law_723 : decode cL_law 723 = .ok (.iaload, 1) := by decide +kernel
theorem dL_law_724 : decode cL_law 724 = .ok (.invokevirtual 88, 3) := by decide +kernel
theorem dL_law_727 : decode cL_law 727 = .ok (.if_icmp .eq 734, 3) := by decide +kernel
theorem dL_law_730 : decode cL_law 730 = .ok (.iconst 0, 1) := by decide +kernel
theorem dL_law_731 : decode cL_law 731 = .ok (.ireturn, 1) := by decide +kernel
theorem dL_law_732 : decode cL_law 732 = .ok (.aload_n 1, 1) := by decide +kernel
theorem dL_law_733 : decode cL_law 733 = .ok (.aload_n 0, 1) := by decide +kernel
theorem dL_law_734 : decode cL_law 734 = .ok (.iload_n 3, 1) := by decide +kernel
theorem dL_law_735 : decode cL_law 735 = .ok (.iconst 1, 1) := by decide +kernel
theorem dL_law_736 : decode cL_law 736 = .ok (.iadd, 1) := by decide +kernel
theorem dL_law_737 : decode cL_law 737 = .ok (.iaload, 1) := by decide +kernel
theorem dL_law_738 : decode cL_law 738 = .ok (.invokevirtual 89, 3) := by decide +kernel
theorem dL_law_741 : decode cL_law 741 = .ok (.aload_n 2, 1) := by decide +kernel
theorem dL_law_742 : decode cL_law 742 = .ok (.aload_n 0, 1) := by decide +kernel
theorem dL_law_743 : decode cL_law 743 = .ok (.iload_n 3, 1) := by decide +kernel
theorem dL_law_744 : decode cL_law 744 = .ok (.iconst 1, 1) := by decide +kernel
theorem dL_law_745 : decode cL_law 745 = .ok (.iadd, 1) := by decide +kernel
theorem dL_law_746 : decode cL_law 746 = .ok (.iaload, 1) := by decide +kernel
theorem dL_law_747 : decode cL_law 747 = .ok (.invokevirtual 92, 3) := by decide +kernel
theorem dL_law_750 : decode cL_law 750 = .ok (.if_icmp .eq 711, 3) := by decide +kernel
theorem dL_law_753 : decode cL_law 753 = .ok (.iconst 0, 1) := by decide +kernel
theorem dL_law_754 : decode cL_law 754 = .ok (.ireturn, 1) := by decide +kernel
theorem dL_law_755 : decode cL_law 755 = .ok (.aload_n 1, 1) := by decide +kernel
theorem dL_law_756 : decode cL_law 756 = .ok (.aload_n 0, 1) := by decide +kernel
theorem dL_law_757 : decode cL_law 757 = .ok (.iload_n 3, 1) := by decide +kernel
theorem dL_law_758 : decode cL_law 758 = .ok (.iconst 1, 1) := by decide +kernel
theorem dL_law_759 : decode cL_law 759 = .ok (.iadd, 1) := by decide +kernel
theorem dL_law_760 : decode cL_law 760 = .ok (.iaload, 1) := by decide +kernel
theorem dL_law_761 : decode cL_law 761 = .ok (.aload_n 0, 1) := by decide +kernel
theorem dL_law_762 : decode cL_law 762 = .ok (.iload_n 3, 1) := by decide +kernel
theorem dL_law_763 : decode cL_law 763 = .ok (.iconst 2, 1) := by decide +kernel
theorem dL_law_764 : decode cL_law 764 = .ok (.iadd, 1) := by decide +kernel
theorem dL_law_765 : decode cL_law 765 = .ok (.iaload, 1) := by decide +kernel
theorem dL_law_766 : decode cL_law 766 = .ok (.invokevirtual 93, 3) := by decide +kernel
theorem dL_law_769 : decode cL_law 769 = .ok (.aload_n 2, 1) := by decide +kernel
theorem dL_law_770 : decode cL_law 770 = .ok (.aload_n 0, 1) := by decide +kernel
theorem dL_law_771 : decode cL_law 771 = .ok (.iload_n 3, 1) := by decide +kernel
theorem dL_law_772 : decode cL_law 772 = .ok (.iconst 1, 1) := by decide +kernel
theorem dL_law_773 : decode cL_law 773 = .ok (.iadd, 1) := by decide +kernel
theorem dL_law_774 : decode cL_law 774 = .ok (.iaload, 1) := by decide +kernel
theorem dL_law_775 : decode cL_law 775 = .ok (.aload_n 0, 1) := by decide +kernel
theorem dL_law_776 : decode cL_law 776 = .ok (.iload_n 3, 1) := by decide +kernel
theorem dL_law_777 : decode cL_law 777 = .ok (.iconst 2, 1) := by decide +kernel
theorem dL_law_778 : decode cL_law 778 = .ok (.iadd, 1) := by decide +kernel
theorem dL_law_779 : decode cL_law 779 = .ok (.iaload, 1) := by decide +kernel
theorem dL_law_780 : decode cL_law 780 = .ok (.invokevirtual 96, 3) := by decide +kernel
theorem dL_law_783 : decode cL_law 783 = .ok (.if_icmp .eq 678, 3) := by decide +kernel
theorem dL_law_786 : decode cL_law 786 = .ok (.iconst 0, 1) := by decide +kernel
theorem dL_law_787 : decode cL_law 787 = .ok (.ireturn, 1) := by decide +kernel
theorem dL_law_788 : decode cL_law 788 = .ok (.aload_n 1, 1) := by decide +kernel
theorem dL_law_789 : decode cL_law 789 = .ok (.aload_n 0, 1) := by decide +kernel
theorem dL_law_790 : decode cL_law 790 = .ok (.iload_n 3, 1) := by decide +kernel
theorem dL_law_791 : decode cL_law 791 = .ok (.iconst 1, 1) := by decide +kernel
theorem dL_law_792 : decode cL_law 792 = .ok (.iadd, 1) := by decide +kernel
theorem dL_law_793 : decode cL_law 793 = .ok (.iaload, 1) := by decide +kernel
theorem dL_law_794 : decode cL_law 794 = .ok (.invokevirtual 97, 3) := by decide +kernel
theorem dL_law_797 : decode cL_law 797 = .ok (.aload_n 2, 1) := by decide +kernel
theorem dL_law_798 : decode cL_law 798 = .ok (.aload_n 0, 1) := by decide +kernel
theorem dL_law_799 : decode cL_law 799 = .ok (.iload_n 3, 1) := by decide +kernel
theorem dL_law_800 : decode cL_law 800 = .ok (.iconst 1, 1) := by decide +kernel
theorem dL_law_801 : decode cL_law 801 = .ok (.iadd, 1) := by decide +kernel
theorem dL_law_802 : decode cL_law 802 = .ok (.iaload, 1) := by decide +kernel
theorem dL_law_803 : decode cL_law 803 = .ok (.invokevirtual 100, 3) := by decide +kernel
theorem dL_law_806 : decode cL_law 806 = .ok (.if_icmp .eq 655, 3) := by decide +kernel
theorem dL_law_809 : decode cL_law 809 = .ok (.iconst 0, 1) := by decide +kernel
theorem dL_law_810 : decode cL_law 810 = .ok (.ireturn, 1) := by decide +kernel
theorem dL_law_811 : decode cL_law 811 = .ok (.aload_n 1, 1) := by decide +kernel
theorem dL_law_812 : decode cL_law 812 = .ok (.invokevirtual 101, 3) := by decide +kernel
theorem dL_law_815 : decode cL_law 815 = .ok (.aload_n 2, 1) := by decide +kernel
theorem dL_law_816 : decode cL_law 816 = .ok (.invokevirtual 104, 3) := by decide +kernel
theorem dL_law_819 : decode cL_law 819 = .ok (.if_icmp .eq 642, 3) := by decide +kernel
theorem dL_law_822 : decode cL_law 822 = .ok (.iconst 0, 1) := by decide +kernel
theorem dL_law_823 : decode cL_law 823 = .ok (.ireturn, 1) := by decide +kernel
theorem dL_law_824 : decode cL_law 824 = .ok (.aload_n 1, 1) := by decide +kernel
theorem dL_law_825 : decode cL_law 825 = .ok (.aload_n 0, 1) := by decide +kernel
theorem dL_law_826 : decode cL_law 826 = .ok (.iload_n 3, 1) := by decide +kernel
theorem dL_law_827 : decode cL_law 827 = .ok (.iconst 1, 1) := by decide +kernel
theorem dL_law_828 : decode cL_law 828 = .ok (.iadd, 1) := by decide +kernel
theorem dL_law_829 : decode cL_law 829 = .ok (.iaload, 1) := by decide +kernel
theorem dL_law_830 : decode cL_law 830 = .ok (.invokevirtual 105, 3) := by decide +kernel
theorem dL_law_833 : decode cL_law 833 = .ok (.aload_n 2, 1) := by decide +kernel
theorem dL_law_834 : decode cL_law 834 = .ok (.aload_n 0, 1) := by decide +kernel
theorem dL_law_835 : decode cL_law 835 = .ok (.iload_n 3, 1) := by decide +kernel
theorem dL_law_836 : decode cL_law 836 = .ok (.iconst 1, 1) := by decide +kernel
theorem dL_law_837 : decode cL_law 837 = .ok (.iadd, 1) := by decide +kernel
theorem dL_law_838 : decode cL_law 838 = .ok (.iaload, 1) := by decide +kernel
theorem dL_law_839 : decode cL_law 839 = .ok (.invokevirtual 108, 3) := by decide +kernel
theorem dL_law_842 : decode cL_law 842 = .ok (.if_icmp .eq 619, 3) := by decide +kernel
theorem dL_law_845 : decode cL_law 845 = .ok (.iconst 0, 1) := by decide +kernel
theorem dL_law_846 : decode cL_law 846 = .ok (.ireturn, 1) := by decide +kernel
theorem dL_law_847 : decode cL_law 847 = .ok (.aload_n 1, 1) := by decide +kernel
theorem dL_law_848 : decode cL_law 848 = .ok (.invokevirtual 109, 3) := by decide +kernel
theorem dL_law_851 : decode cL_law 851 = .ok (.aload_n 2, 1) := by decide +kernel
theorem dL_law_852 : decode cL_law 852 = .ok (.invokevirtual 112, 3) := by decide +kernel
theorem dL_law_855 : decode cL_law 855 = .ok (.if_icmp .eq 606, 3) := by decide +kernel
theorem dL_law_858 : decode cL_law 858 = .ok (.iconst 0, 1) := by decide +kernel
theorem dL_law_859 : decode cL_law 859 = .ok (.ireturn, 1) := by decide +kernel
theorem dL_law_860 : decode cL_law 860 = .ok (.aload_n 1, 1) := by decide +kernel
theorem dL_law_861 : decode cL_law 861 = .ok (.aload_n 0, 1) := by decide +kernel
theorem dL_law_862 : decode cL_law 862 = .ok (.iload_n 3, 1) := by decide +kernel
theorem dL_law_863 : decode cL_law 863 = .ok (.iconst 1, 1) := by decide +kernel
theorem dL_law_864 : decode cL_law 864 = .ok (.iadd, 1) := by decide +kernel
theorem dL_law_865 : decode cL_law 865 = .ok (.iaload, 1) := by decide +kernel
theorem dL_law_866 : decode cL_law 866 = .ok (.invokevirtual 113, 3) := by decide +kernel
theorem dL_law_869 : decode cL_law 869 = .ok (.aload_n 2, 1) := by decide +kernel
theorem dL_law_870 : decode cL_law 870 = .ok (.aload_n 0, 1) := by decide +kernel
theorem dL_law_871 : decode cL_law 871 = .ok (.iload_n 3, 1) := by decide +kernel
theorem dL_law_872 : decode cL_law 872 = .ok (.iconst 1, 1) := by decide +kernel
theorem dL_law_873 : decode cL_law 873 = .ok (.iadd, 1) := by decide +kernel
theorem dL_law_874 : decode cL_law 874 = .ok (.iaload, 1) := by decide +kernel
theorem dL_law_875 : decode cL_law 875 = .ok (.invokevirtual 117, 3) := by decide +kernel
theorem dL_law_878 : decode cL_law 878 = .ok (.lcmp, 1) := by decide +kernel
theorem dL_law_879 : decode cL_law 879 = .ok (.ifCond .eq 582, 3) := by decide +kernel
theorem dL_law_882 : decode cL_law 882 = .ok (.iconst 0, 1) := by decide +kernel
theorem dL_law_883 : decode cL_law 883 = .ok (.ireturn, 1) := by decide +kernel
theorem dL_law_884 : decode cL_law 884 = .ok (.aload_n 1, 1) := by decide +kernel
theorem dL_law_885 : decode cL_law 885 = .ok (.aload_n 0, 1) := by decide +kernel
theorem dL_law_886 : decode cL_law 886 = .ok (.iload_n 3, 1) := by decide +kernel
theorem dL_law_887 : decode cL_law 887 = .ok (.iconst 1, 1) := by decide +kernel
theorem dL_law_888 : decode cL_law 888 = .ok (.iadd, 1) := by decide +kernel
theorem dL_law_889 : decode cL_law 889 = .ok (.iaload, 1) := by decide +kernel
theorem dL_law_890 : decode cL_law 890 = .ok (.aload_n 0, 1) := by decide +kernel
theorem dL_law_891 : decode cL_law 891 = .ok (.iload_n 3, 1) := by decide +kernel
theorem dL_law_892 : decode cL_law 892 = .ok (.iconst 2, 1) := by decide +kernel
theorem dL_law_893 : decode cL_law 893 = .ok (.iadd, 1) := by decide +kernel
theorem dL_law_894 : decode cL_law 894 = .ok (.iaload, 1) := by decide +kernel
theorem dL_law_895 : decode cL_law 895 = .ok (.invokevirtual 118, 3) := by decide +kernel
theorem dL_law_898 : decode cL_law 898 = .ok (.aload_n 2, 1) := by decide +kernel
theorem dL_law_899 : decode cL_law 899 = .ok (.aload_n 0, 1) := by decide +kernel
theorem dL_law_900 : decode cL_law 900 = .ok (.iload_n 3, 1) := by decide +kernel
theorem dL_law_901 : decode cL_law 901 = .ok (.iconst 1, 1) := by decide +kernel
theorem dL_law_902 : decode cL_law 902 = .ok (.iadd, 1) := by decide +kernel
theorem dL_law_903 : decode cL_law 903 = .ok (.iaload, 1) := by decide +kernel
theorem dL_law_904 : decode cL_law 904 = .ok (.aload_n 0, 1) := by decide +kernel
theorem dL_law_905 : decode cL_law 905 = .ok (.iload_n 3, 1) := by decide +kernel
theorem dL_law_906 : decode cL_law 906 = .ok (.iconst 2, 1) := by decide +kernel
theorem dL_law_907 : decode cL_law 907 = .ok (.iadd, 1) := by decide +kernel
theorem dL_law_908 : decode cL_law 908 = .ok (.iaload, 1) := by decide +kernel
theorem dL_law_909 : decode cL_law 909 = .ok (.invokevirtual 121, 3) := by decide +kernel
theorem dL_law_912 : decode cL_law 912 = .ok (.if_icmp .eq 549, 3) := by decide +kernel
theorem dL_law_915 : decode cL_law 915 = .ok (.iconst 0, 1) := by decide +kernel
theorem dL_law_916 : decode cL_law 916 = .ok (.ireturn, 1) := by decide +kernel
theorem dL_law_917 : decode cL_law 917 = .ok (.aload_n 1, 1) := by decide +kernel
theorem dL_law_918 : decode cL_law 918 = .ok (.aload_n 0, 1) := by decide +kernel
theorem dL_law_919 : decode cL_law 919 = .ok (.iload_n 3, 1) := by decide +kernel
theorem dL_law_920 : decode cL_law 920 = .ok (.iconst 1, 1) := by decide +kernel
theorem dL_law_921 : decode cL_law 921 = .ok (.iadd, 1) := by decide +kernel
theorem dL_law_922 : decode cL_law 922 = .ok (.iaload, 1) := by decide +kernel
theorem dL_law_923 : decode cL_law 923 = .ok (.aload_n 0, 1) := by decide +kernel
theorem dL_law_924 : decode cL_law 924 = .ok (.iload_n 3, 1) := by decide +kernel
theorem dL_law_925 : decode cL_law 925 = .ok (.iconst 2, 1) := by decide +kernel
theorem dL_law_926 : decode cL_law 926 = .ok (.iadd, 1) := by decide +kernel
theorem dL_law_927 : decode cL_law 927 = .ok (.iaload, 1) := by decide +kernel
theorem dL_law_928 : decode cL_law 928 = .ok (.aload_n 0, 1) := by decide +kernel
theorem dL_law_929 : decode cL_law 929 = .ok (.iload_n 3, 1) := by decide +kernel
theorem dL_law_930 : decode cL_law 930 = .ok (.iconst 3, 1) := by decide +kernel
theorem dL_law_931 : decode cL_law 931 = .ok (.iadd, 1) := by decide +kernel
theorem dL_law_932 : decode cL_law 932 = .ok (.iaload, 1) := by decide +kernel
theorem dL_law_933 : decode cL_law 933 = .ok (.invokevirtual 122, 3) := by decide +kernel
theorem dL_law_936 : decode cL_law 936 = .ok (.aload_n 2, 1) := by decide +kernel
theorem dL_law_937 : decode cL_law 937 = .ok (.aload_n 0, 1) := by decide +kernel
theorem dL_law_938 : decode cL_law 938 = .ok (.iload_n 3, 1) := by decide +kernel
theorem dL_law_939 : decode cL_law 939 = .ok (.iconst 1, 1) := by decide +kernel
theorem dL_law_940 : decode cL_law 940 = .ok (.iadd, 1) := by decide +kernel
theorem dL_law_941 : decode cL_law 941 = .ok (.iaload, 1) := by decide +kernel
theorem dL_law_942 : decode cL_law 942 = .ok (.aload_n 0, 1) := by decide +kernel
theorem dL_law_943 : decode cL_law 943 = .ok (.iload_n 3, 1) := by decide +kernel
theorem dL_law_944 : decode cL_law 944 = .ok (.iconst 2, 1) := by decide +kernel
theorem dL_law_945 : decode cL_law 945 = .ok (.iadd, 1) := by decide +kernel
theorem dL_law_946 : decode cL_law 946 = .ok (.iaload, 1) := by decide +kernel
theorem dL_law_947 : decode cL_law 947 = .ok (.aload_n 0, 1) := by decide +kernel
theorem dL_law_948 : decode cL_law 948 = .ok (.iload_n 3, 1) := by decide +kernel
theorem dL_law_949 : decode cL_law 949 = .ok (.iconst 3, 1) := by decide +kernel
theorem dL_law_950 : decode cL_law 950 = .ok (.iadd, 1) := by decide +kernel
theorem dL_law_951 : decode cL_law 951 = .ok (.iaload, 1) := by decide +kernel
theorem dL_law_952 : decode cL_law 952 = .ok (.invokevirtual 125, 3) := by decide +kernel
theorem dL_law_955 : decode cL_law 955 = .ok (.if_icmp .eq 506, 3) := by decide +kernel
theorem dL_law_958 : decode cL_law 958 = .ok (.iconst 0, 1) := by decide +kernel
theorem dL_law_959 : decode cL_law 959 = .ok (.ireturn, 1) := by decide +kernel
theorem dL_law_960 : decode cL_law 960 = .ok (.aload_n 1, 1) := by decide +kernel
theorem dL_law_961 : decode cL_law 961 = .ok (.aload_n 0, 1) := by decide +kernel
theorem dL_law_962 : decode cL_law 962 = .ok (.iload_n 3, 1) := by decide +kernel
theorem dL_law_963 : decode cL_law 963 = .ok (.iconst 1, 1) := by decide +kernel
theorem dL_law_964 : decode cL_law 964 = .ok (.iadd, 1) := by decide +kernel
theorem dL_law_965 : decode cL_law 965 = .ok (.iaload, 1) := by decide +kernel
theorem dL_law_966 : decode cL_law 966 = .ok (.aload_n 0, 1) := by decide +kernel
theorem dL_law_967 : decode cL_law 967 = .ok (.iload_n 3, 1) := by decide +kernel
theorem dL_law_968 : decode cL_law 968 = .ok (.iconst 2, 1) := by decide +kernel
theorem dL_law_969 : decode cL_law 969 = .ok (.iadd, 1) := by decide +kernel
theorem dL_law_970 : decode cL_law 970 = .ok (.iaload, 1) := by decide +kernel
theorem dL_law_971 : decode cL_law 971 = .ok (.aload_n 0, 1) := by decide +kernel
theorem dL_law_972 : decode cL_law 972 = .ok (.iload_n 3, 1) := by decide +kernel
theorem dL_law_973 : decode cL_law 973 = .ok (.iconst 3, 1) := by decide +kernel
theorem dL_law_974 : decode cL_law 974 = .ok (.iadd, 1) := by decide +kernel
theorem dL_law_975 : decode cL_law 975 = .ok (.iaload, 1) := by decide +kernel
theorem dL_law_976 : decode cL_law 976 = .ok (.invokevirtual 126, 3) := by decide +kernel
theorem dL_law_979 : decode cL_law 979 = .ok (.aload_n 2, 1) := by decide +kernel
theorem dL_law_980 : decode cL_law 980 = .ok (.aload_n 0, 1) := by decide +kernel
theorem dL_law_981 : decode cL_law 981 = .ok (.iload_n 3, 1) := by decide +kernel
theorem dL_law_982 : decode cL_law 982 = .ok (.iconst 1, 1) := by decide +kernel
theorem dL_law_983 : decode cL_law 983 = .ok (.iadd, 1) := by decide +kernel
theorem dL_law_984 : decode cL_law 984 = .ok (.iaload, 1) := by decide +kernel
theorem dL_law_985 : decode cL_law 985 = .ok (.aload_n 0, 1) := by decide +kernel
theorem dL_law_986 : decode cL_law 986 = .ok (.iload_n 3, 1) := by decide +kernel
theorem dL_law_987 : decode cL_law 987 = .ok (.iconst 2, 1) := by decide +kernel
theorem dL_law_988 : decode cL_law 988 = .ok (.iadd, 1) := by decide +kernel
theorem dL_law_989 : decode cL_law 989 = .ok (.iaload, 1) := by decide +kernel
theorem dL_law_990 : decode cL_law 990 = .ok (.aload_n 0, 1) := by decide +kernel
theorem dL_law_991 : decode cL_law 991 = .ok (.iload_n 3, 1) := by decide +kernel
theorem dL_law_992 : decode cL_law 992 = .ok (.iconst 3, 1) := by decide +kernel
theorem dL_law_993 : decode cL_law 993 = .ok (.iadd, 1) := by decide +kernel
theorem dL_law_994 : decode cL_law 994 = .ok (.iaload, 1) := by decide +kernel
theorem dL_law_995 : decode cL_law 995 = .ok (.invokevirtual 129, 3) := by decide +kernel
theorem dL_law_998 : decode cL_law 998 = .ok (.if_icmp .eq 463, 3) := by decide +kernel
theorem dL_law_1001 : decode cL_law 1001 = .ok (.iconst 0, 1) := by decide +kernel
theorem dL_law_1002 : decode cL_law 1002 = .ok (.ireturn, 1) := by decide +kernel
theorem dL_law_1003 : decode cL_law 1003 = .ok (.aload_n 1, 1) := by decide +kernel
theorem dL_law_1004 : decode cL_law 1004 = .ok (.aload_n 0, 1) := by decide +kernel
theorem dL_law_1005 : decode cL_law 1005 = .ok (.iload_n 3, 1) := by decide +kernel
theorem dL_law_1006 : decode cL_law 1006 = .ok (.iconst 1, 1) := by decide +kernel
theorem dL_law_1007 : decode cL_law 1007 = .ok (.iadd, 1) := by decide +kernel
theorem dL_law_1008 : decode cL_law 1008 = .ok (.iaload, 1) := by decide +kernel
theorem dL_law_1009 : decode cL_law 1009 = .ok (.aload_n 0, 1) := by decide +kernel
theorem dL_law_1010 : decode cL_law 1010 = .ok (.iload_n 3, 1) := by decide +kernel
theorem dL_law_1011 : decode cL_law 1011 = .ok (.iconst 2, 1) := by decide +kernel
theorem dL_law_1012 : decode cL_law 1012 = .ok (.iadd, 1) := by decide +kernel
theorem dL_law_1013 : decode cL_law 1013 = .ok (.iaload, 1) := by decide +kernel
theorem dL_law_1014 : decode cL_law 1014 = .ok (.aload_n 0, 1) := by decide +kernel
theorem dL_law_1015 : decode cL_law 1015 = .ok (.iload_n 3, 1) := by decide +kernel
theorem dL_law_1016 : decode cL_law 1016 = .ok (.iconst 3, 1) := by decide +kernel
theorem dL_law_1017 : decode cL_law 1017 = .ok (.iadd, 1) := by decide +kernel
theorem dL_law_1018 : decode cL_law 1018 = .ok (.iaload, 1) := by decide +kernel
theorem dL_law_1019 : decode cL_law 1019 = .ok (.invokevirtual 130, 3) := by decide +kernel
theorem dL_law_1022 : decode cL_law 1022 = .ok (.aload_n 2, 1) := by decide +kernel
theorem dL_law_1023 : decode cL_law 1023 = .ok (.aload_n 0, 1) := by decide +kernel
theorem dL_law_1024 : decode cL_law 1024 = .ok (.iload_n 3, 1) := by decide +kernel
theorem dL_law_1025 : decode cL_law 1025 = .ok (.iconst 1, 1) := by decide +kernel
theorem dL_law_1026 : decode cL_law 1026 = .ok (.iadd, 1) := by decide +kernel
theorem dL_law_1027 : decode cL_law 1027 = .ok (.iaload, 1) := by decide +kernel
theorem dL_law_1028 : decode cL_law 1028 = .ok (.aload_n 0, 1) := by decide +kernel
theorem dL_law_1029 : decode cL_law 1029 = .ok (.iload_n 3, 1) := by decide +kernel
theorem dL_law_1030 : decode cL_law 1030 = .ok (.iconst 2, 1) := by decide +kernel
theorem dL_law_1031 : decode cL_law 1031 = .ok (.iadd, 1) := by decide +kernel
theorem dL_law_1032 : decode cL_law 1032 = .ok (.iaload, 1) := by decide +kernel
theorem dL_law_1033 : decode cL_law 1033 = .ok (.aload_n 0, 1) := by decide +kernel
theorem dL_law_1034 : decode cL_law 1034 = .ok (.iload_n 3, 1) := by decide +kernel
theorem dL_law_1035 : decode cL_law 1035 = .ok (.iconst 3, 1) := by decide +kernel
theorem dL_law_1036 : decode cL_law 1036 = .ok (.iadd, 1) := by decide +kernel
theorem dL_law_1037 : decode cL_law 1037 = .ok (.iaload, 1) := by decide +kernel
theorem dL_law_1038 : decode cL_law 1038 = .ok (.invokevirtual 133, 3) := by decide +kernel
theorem dL_law_1041 : decode cL_law 1041 = .ok (.if_icmp .eq 420, 3) := by decide +kernel
theorem dL_law_1044 : decode cL_law 1044 = .ok (.iconst 0, 1) := by decide +kernel
theorem dL_law_1045 : decode cL_law 1045 = .ok (.ireturn, 1) := by decide +kernel
theorem dL_law_1046 : decode cL_law 1046 = .ok (.aload_n 1, 1) := by decide +kernel
theorem dL_law_1047 : decode cL_law 1047 = .ok (.aload_n 0, 1) := by decide +kernel
theorem dL_law_1048 : decode cL_law 1048 = .ok (.iload_n 3, 1) := by decide +kernel
theorem dL_law_1049 : decode cL_law 1049 = .ok (.iconst 1, 1) := by decide +kernel
theorem dL_law_1050 : decode cL_law 1050 = .ok (.iadd, 1) := by decide +kernel
theorem dL_law_1051 : decode cL_law 1051 = .ok (.iaload, 1) := by decide +kernel
theorem dL_law_1052 : decode cL_law 1052 = .ok (.invokevirtual 134, 3) := by decide +kernel
theorem dL_law_1055 : decode cL_law 1055 = .ok (.aload_n 2, 1) := by decide +kernel
theorem dL_law_1056 : decode cL_law 1056 = .ok (.aload_n 0, 1) := by decide +kernel
theorem dL_law_1057 : decode cL_law 1057 = .ok (.iload_n 3, 1) := by decide +kernel
theorem dL_law_1058 : decode cL_law 1058 = .ok (.iconst 1, 1) := by decide +kernel
theorem dL_law_1059 : decode cL_law 1059 = .ok (.iadd, 1) := by decide +kernel
theorem dL_law_1060 : decode cL_law 1060 = .ok (.iaload, 1) := by decide +kernel
theorem dL_law_1061 : decode cL_law 1061 = .ok (.invokevirtual 137, 3) := by decide +kernel
theorem dL_law_1064 : decode cL_law 1064 = .ok (.if_icmp .eq 397, 3) := by decide +kernel
theorem dL_law_1067 : decode cL_law 1067 = .ok (.iconst 0, 1) := by decide +kernel
theorem dL_law_1068 : decode cL_law 1068 = .ok (.ireturn, 1) := by decide +kernel
theorem dL_law_1069 : decode cL_law 1069 = .ok (.aload_n 1, 1) := by decide +kernel
theorem dL_law_1070 : decode cL_law 1070 = .ok (.aload_n 0, 1) := by decide +kernel
theorem dL_law_1071 : decode cL_law 1071 = .ok (.iload_n 3, 1) := by decide +kernel
theorem dL_law_1072 : decode cL_law 1072 = .ok (.iconst 1, 1) := by decide +kernel
theorem dL_law_1073 : decode cL_law 1073 = .ok (.iadd, 1) := by decide +kernel
theorem dL_law_1074 : decode cL_law 1074 = .ok (.iaload, 1) := by decide +kernel
theorem dL_law_1075 : decode cL_law 1075 = .ok (.aload_n 0, 1) := by decide +kernel
theorem dL_law_1076 : decode cL_law 1076 = .ok (.iload_n 3, 1) := by decide +kernel
theorem dL_law_1077 : decode cL_law 1077 = .ok (.iconst 2, 1) := by decide +kernel
theorem dL_law_1078 : decode cL_law 1078 = .ok (.iadd, 1) := by decide +kernel
theorem dL_law_1079 : decode cL_law 1079 = .ok (.iaload, 1) := by decide +kernel
theorem dL_law_1080 : decode cL_law 1080 = .ok (.aload_n 0, 1) := by decide +kernel
theorem dL_law_1081 : decode cL_law 1081 = .ok (.iload_n 3, 1) := by decide +kernel
theorem dL_law_1082 : decode cL_law 1082 = .ok (.iconst 3, 1) := by decide +kernel
theorem dL_law_1083 : decode cL_law 1083 = .ok (.iadd, 1) := by decide +kernel
theorem dL_law_1084 : decode cL_law 1084 = .ok (.iaload, 1) := by decide +kernel
theorem dL_law_1085 : decode cL_law 1085 = .ok (.invokevirtual 138, 3) := by decide +kernel
theorem dL_law_1088 : decode cL_law 1088 = .ok (.aload_n 2, 1) := by decide +kernel
theorem dL_law_1089 : decode cL_law 1089 = .ok (.aload_n 0, 1) := by decide +kernel
theorem dL_law_1090 : decode cL_law 1090 = .ok (.iload_n 3, 1) := by decide +kernel
theorem dL_law_1091 : decode cL_law 1091 = .ok (.iconst 1, 1) := by decide +kernel
theorem dL_law_1092 : decode cL_law 1092 = .ok (.iadd, 1) := by decide +kernel
theorem dL_law_1093 : decode cL_law 1093 = .ok (.iaload, 1) := by decide +kernel
theorem dL_law_1094 : decode cL_law 1094 = .ok (.aload_n 0, 1) := by decide +kernel
theorem dL_law_1095 : decode cL_law 1095 = .ok (.iload_n 3, 1) := by decide +kernel
theorem dL_law_1096 : decode cL_law 1096 = .ok (.iconst 2, 1) := by decide +kernel
theorem dL_law_1097 : decode cL_law 1097 = .ok (.iadd, 1) := by decide +kernel
theorem dL_law_1098 : decode cL_law 1098 = .ok (.iaload, 1) := by decide +kernel
theorem dL_law_1099 : decode cL_law 1099 = .ok (.aload_n 0, 1) := by decide +kernel
theorem dL_law_1100 : decode cL_law 1100 = .ok (.iload_n 3, 1) := by decide +kernel
theorem dL_law_1101 : decode cL_law 1101 = .ok (.iconst 3, 1) := by decide +kernel
theorem dL_law_1102 : decode cL_law 1102 = .ok (.iadd, 1) := by decide +kernel
theorem dL_law_1103 : decode cL_law 1103 = .ok (.iaload, 1) := by decide +kernel
theorem dL_law_1104 : decode cL_law 1104 = .ok (.invokevirtual 141, 3) := by decide +kernel
theorem dL_law_1107 : decode cL_law 1107 = .ok (.if_icmp .eq 354, 3) := by decide +kernel
theorem dL_law_1110 : decode cL_law 1110 = .ok (.iconst 0, 1) := by decide +kernel
theorem dL_law_1111 : decode cL_law 1111 = .ok (.ireturn, 1) := by decide +kernel
theorem dL_law_1112 : decode cL_law 1112 = .ok (.aload_n 1, 1) := by decide +kernel
theorem dL_law_1113 : decode cL_law 1113 = .ok (.aload_n 0, 1) := by decide +kernel
theorem dL_law_1114 : decode cL_law 1114 = .ok (.iload_n 3, 1) := by decide +kernel
theorem dL_law_1115 : decode cL_law 1115 = .ok (.iconst 1, 1) := by decide +kernel
theorem dL_law_1116 : decode cL_law 1116 = .ok (.iadd, 1) := by decide +kernel
theorem dL_law_1117 : decode cL_law 1117 = .ok (.iaload, 1) := by decide +kernel
theorem dL_law_1118 : decode cL_law 1118 = .ok (.aload_n 0, 1) := by decide +kernel
theorem dL_law_1119 : decode cL_law 1119 = .ok (.iload_n 3, 1) := by decide +kernel
theorem dL_law_1120 : decode cL_law 1120 = .ok (.iconst 2, 1) := by decide +kernel
theorem dL_law_1121 : decode cL_law 1121 = .ok (.iadd, 1) := by decide +kernel
theorem dL_law_1122 : decode cL_law 1122 = .ok (.iaload, 1) := by decide +kernel
theorem dL_law_1123 : decode cL_law 1123 = .ok (.aload_n 0, 1) := by decide +kernel
theorem dL_law_1124 : decode cL_law 1124 = .ok (.iload_n 3, 1) := by decide +kernel
theorem dL_law_1125 : decode cL_law 1125 = .ok (.iconst 3, 1) := by decide +kernel
theorem dL_law_1126 : decode cL_law 1126 = .ok (.iadd, 1) := by decide +kernel
theorem dL_law_1127 : decode cL_law 1127 = .ok (.iaload, 1) := by decide +kernel
theorem dL_law_1128 : decode cL_law 1128 = .ok (.aload_n 0, 1) := by decide +kernel
theorem dL_law_1129 : decode cL_law 1129 = .ok (.iload_n 3, 1) := by decide +kernel
theorem dL_law_1130 : decode cL_law 1130 = .ok (.iconst 4, 1) := by decide +kernel
theorem dL_law_1131 : decode cL_law 1131 = .ok (.iadd, 1) := by decide +kernel
theorem dL_law_1132 : decode cL_law 1132 = .ok (.iaload, 1) := by decide +kernel
theorem dL_law_1133 : decode cL_law 1133 = .ok (.invokevirtual 142, 3) := by decide +kernel
theorem dL_law_1136 : decode cL_law 1136 = .ok (.aload_n 2, 1) := by decide +kernel
theorem dL_law_1137 : decode cL_law 1137 = .ok (.aload_n 0, 1) := by decide +kernel
theorem dL_law_1138 : decode cL_law 1138 = .ok (.iload_n 3, 1) := by decide +kernel
theorem dL_law_1139 : decode cL_law 1139 = .ok (.iconst 1, 1) := by decide +kernel
theorem dL_law_1140 : decode cL_law 1140 = .ok (.iadd, 1) := by decide +kernel
theorem dL_law_1141 : decode cL_law 1141 = .ok (.iaload, 1) := by decide +kernel
theorem dL_law_1142 : decode cL_law 1142 = .ok (.aload_n 0, 1) := by decide +kernel
theorem dL_law_1143 : decode cL_law 1143 = .ok (.iload_n 3, 1) := by decide +kernel
theorem dL_law_1144 : decode cL_law 1144 = .ok (.iconst 2, 1) := by decide +kernel
theorem dL_law_1145 : decode cL_law 1145 = .ok (.iadd, 1) := by decide +kernel
theorem dL_law_1146 : decode cL_law 1146 = .ok (.iaload, 1) := by decide +kernel
theorem dL_law_1147 : decode cL_law 1147 = .ok (.aload_n 0, 1) := by decide +kernel
theorem dL_law_1148 : decode cL_law 1148 = .ok (.iload_n 3, 1) := by decide +kernel
theorem dL_law_1149 : decode cL_law 1149 = .ok (.iconst 3, 1) := by decide +kernel
theorem dL_law_1150 : decode cL_law 1150 = .ok (.iadd, 1) := by decide +kernel
theorem dL_law_1151 : decode cL_law 1151 = .ok (.iaload, 1) := by decide +kernel
theorem dL_law_1152 : decode cL_law 1152 = .ok (.aload_n 0, 1) := by decide +kernel
theorem dL_law_1153 : decode cL_law 1153 = .ok (.iload_n 3, 1) := by decide +kernel
theorem dL_law_1154 : decode cL_law 1154 = .ok (.iconst 4, 1) := by decide +kernel
theorem dL_law_1155 : decode cL_law 1155 = .ok (.iadd, 1) := by decide +kernel
theorem dL_law_1156 : decode cL_law 1156 = .ok (.iaload, 1) := by decide +kernel
theorem dL_law_1157 : decode cL_law 1157 = .ok (.invokevirtual 146, 3) := by decide +kernel
theorem dL_law_1160 : decode cL_law 1160 = .ok (.lcmp, 1) := by decide +kernel
theorem dL_law_1161 : decode cL_law 1161 = .ok (.ifCond .eq 300, 3) := by decide +kernel
theorem dL_law_1164 : decode cL_law 1164 = .ok (.iconst 0, 1) := by decide +kernel
theorem dL_law_1165 : decode cL_law 1165 = .ok (.ireturn, 1) := by decide +kernel
theorem dL_law_1166 : decode cL_law 1166 = .ok (.aload_n 1, 1) := by decide +kernel
theorem dL_law_1167 : decode cL_law 1167 = .ok (.aload_n 0, 1) := by decide +kernel
theorem dL_law_1168 : decode cL_law 1168 = .ok (.iload_n 3, 1) := by decide +kernel
theorem dL_law_1169 : decode cL_law 1169 = .ok (.iconst 1, 1) := by decide +kernel
theorem dL_law_1170 : decode cL_law 1170 = .ok (.iadd, 1) := by decide +kernel
theorem dL_law_1171 : decode cL_law 1171 = .ok (.iaload, 1) := by decide +kernel
theorem dL_law_1172 : decode cL_law 1172 = .ok (.aload_n 0, 1) := by decide +kernel
theorem dL_law_1173 : decode cL_law 1173 = .ok (.iload_n 3, 1) := by decide +kernel
theorem dL_law_1174 : decode cL_law 1174 = .ok (.iconst 2, 1) := by decide +kernel
theorem dL_law_1175 : decode cL_law 1175 = .ok (.iadd, 1) := by decide +kernel
theorem dL_law_1176 : decode cL_law 1176 = .ok (.iaload, 1) := by decide +kernel
theorem dL_law_1177 : decode cL_law 1177 = .ok (.aload_n 0, 1) := by decide +kernel
theorem dL_law_1178 : decode cL_law 1178 = .ok (.iload_n 3, 1) := by decide +kernel
theorem dL_law_1179 : decode cL_law 1179 = .ok (.iconst 3, 1) := by decide +kernel
theorem dL_law_1180 : decode cL_law 1180 = .ok (.iadd, 1) := by decide +kernel
theorem dL_law_1181 : decode cL_law 1181 = .ok (.iaload, 1) := by decide +kernel
theorem dL_law_1182 : decode cL_law 1182 = .ok (.invokevirtual 147, 3) := by decide +kernel
theorem dL_law_1185 : decode cL_law 1185 = .ok (.aload_n 2, 1) := by decide +kernel
theorem dL_law_1186 : decode cL_law 1186 = .ok (.aload_n 0, 1) := by decide +kernel
theorem dL_law_1187 : decode cL_law 1187 = .ok (.iload_n 3, 1) := by decide +kernel
theorem dL_law_1188 : decode cL_law 1188 = .ok (.iconst 1, 1) := by decide +kernel
theorem dL_law_1189 : decode cL_law 1189 = .ok (.iadd, 1) := by decide +kernel
theorem dL_law_1190 : decode cL_law 1190 = .ok (.iaload, 1) := by decide +kernel
theorem dL_law_1191 : decode cL_law 1191 = .ok (.aload_n 0, 1) := by decide +kernel
theorem dL_law_1192 : decode cL_law 1192 = .ok (.iload_n 3, 1) := by decide +kernel
theorem dL_law_1193 : decode cL_law 1193 = .ok (.iconst 2, 1) := by decide +kernel
theorem dL_law_1194 : decode cL_law 1194 = .ok (.iadd, 1) := by decide +kernel
theorem dL_law_1195 : decode cL_law 1195 = .ok (.iaload, 1) := by decide +kernel
theorem dL_law_1196 : decode cL_law 1196 = .ok (.aload_n 0, 1) := by decide +kernel
theorem dL_law_1197 : decode cL_law 1197 = .ok (.iload_n 3, 1) := by decide +kernel
theorem dL_law_1198 : decode cL_law 1198 = .ok (.iconst 3, 1) := by decide +kernel
theorem dL_law_1199 : decode cL_law 1199 = .ok (.iadd, 1) := by decide +kernel
theorem dL_law_1200 : decode cL_law 1200 = .ok (.iaload, 1) := by decide +kernel
theorem dL_law_1201 : decode cL_law 1201 = .ok (.invokevirtual 150, 3) := by decide +kernel
theorem dL_law_1204 : decode cL_law 1204 = .ok (.if_icmp .eq 257, 3) := by decide +kernel
theorem dL_law_1207 : decode cL_law 1207 = .ok (.iconst 0, 1) := by decide +kernel
theorem dL_law_1208 : decode cL_law 1208 = .ok (.ireturn, 1) := by decide +kernel
theorem dL_law_1209 : decode cL_law 1209 = .ok (.aload_n 1, 1) := by decide +kernel
theorem dL_law_1210 : decode cL_law 1210 = .ok (.aload_n 0, 1) := by decide +kernel
theorem dL_law_1211 : decode cL_law 1211 = .ok (.iload_n 3, 1) := by decide +kernel
theorem dL_law_1212 : decode cL_law 1212 = .ok (.iconst 1, 1) := by decide +kernel
theorem dL_law_1213 : decode cL_law 1213 = .ok (.iadd, 1) := by decide +kernel
theorem dL_law_1214 : decode cL_law 1214 = .ok (.iaload, 1) := by decide +kernel
theorem dL_law_1215 : decode cL_law 1215 = .ok (.invokevirtual 151, 3) := by decide +kernel
theorem dL_law_1218 : decode cL_law 1218 = .ok (.aload_n 2, 1) := by decide +kernel
theorem dL_law_1219 : decode cL_law 1219 = .ok (.aload_n 0, 1) := by decide +kernel
theorem dL_law_1220 : decode cL_law 1220 = .ok (.iload_n 3, 1) := by decide +kernel
theorem dL_law_1221 : decode cL_law 1221 = .ok (.iconst 1, 1) := by decide +kernel
theorem dL_law_1222 : decode cL_law 1222 = .ok (.iadd, 1) := by decide +kernel
theorem dL_law_1223 : decode cL_law 1223 = .ok (.iaload, 1) := by decide +kernel
theorem dL_law_1224 : decode cL_law 1224 = .ok (.invokevirtual 154, 3) := by decide +kernel
theorem dL_law_1227 : decode cL_law 1227 = .ok (.if_icmp .eq 234, 3) := by decide +kernel
theorem dL_law_1230 : decode cL_law 1230 = .ok (.iconst 0, 1) := by decide +kernel
theorem dL_law_1231 : decode cL_law 1231 = .ok (.ireturn, 1) := by decide +kernel
theorem dL_law_1232 : decode cL_law 1232 = .ok (.aload_n 1, 1) := by decide +kernel
theorem dL_law_1233 : decode cL_law 1233 = .ok (.aload_n 0, 1) := by decide +kernel
theorem dL_law_1234 : decode cL_law 1234 = .ok (.iload_n 3, 1) := by decide +kernel
theorem dL_law_1235 : decode cL_law 1235 = .ok (.iconst 1, 1) := by decide +kernel
theorem dL_law_1236 : decode cL_law 1236 = .ok (.iadd, 1) := by decide +kernel
theorem dL_law_1237 : decode cL_law 1237 = .ok (.iaload, 1) := by decide +kernel
theorem dL_law_1238 : decode cL_law 1238 = .ok (.aload_n 0, 1) := by decide +kernel
theorem dL_law_1239 : decode cL_law 1239 = .ok (.iload_n 3, 1) := by decide +kernel
theorem dL_law_1240 : decode cL_law 1240 = .ok (.iconst 2, 1) := by decide +kernel
theorem dL_law_1241 : decode cL_law 1241 = .ok (.iadd, 1) := by decide +kernel
theorem dL_law_1242 : decode cL_law 1242 = .ok (.iaload, 1) := by decide +kernel
theorem dL_law_1243 : decode cL_law 1243 = .ok (.aload_n 0, 1) := by decide +kernel
theorem dL_law_1244 : decode cL_law 1244 = .ok (.iload_n 3, 1) := by decide +kernel
theorem dL_law_1245 : decode cL_law 1245 = .ok (.iconst 3, 1) := by decide +kernel
theorem dL_law_1246 : decode cL_law 1246 = .ok (.iadd, 1) := by decide +kernel
theorem dL_law_1247 : decode cL_law 1247 = .ok (.iaload, 1) := by decide +kernel
theorem dL_law_1248 : decode cL_law 1248 = .ok (.i2l, 1) := by decide +kernel
theorem dL_law_1249 : decode cL_law 1249 = .ok (.bipush 32, 2) := by decide +kernel
theorem dL_law_1251 : decode cL_law 1251 = .ok (.lshl, 1) := by decide +kernel
theorem dL_law_1252 : decode cL_law 1252 = .ok (.aload_n 0, 1) := by decide +kernel
theorem dL_law_1253 : decode cL_law 1253 = .ok (.iload_n 3, 1) := by decide +kernel
theorem dL_law_1254 : decode cL_law 1254 = .ok (.iconst 4, 1) := by decide +kernel
theorem dL_law_1255 : decode cL_law 1255 = .ok (.iadd, 1) := by decide +kernel
theorem dL_law_1256 : decode cL_law 1256 = .ok (.iaload, 1) := by decide +kernel
theorem dL_law_1257 : decode cL_law 1257 = .ok (.i2l, 1) := by decide +kernel
theorem dL_law_1258 : decode cL_law 1258 = .ok (.ldc2_w 155, 3) := by decide +kernel
theorem dL_law_1261 : decode cL_law 1261 = .ok (.land, 1) := by decide +kernel
theorem dL_law_1262 : decode cL_law 1262 = .ok (.lor, 1) := by decide +kernel
theorem dL_law_1263 : decode cL_law 1263 = .ok (.invokevirtual 157, 3) := by decide +kernel
theorem dL_law_1266 : decode cL_law 1266 = .ok (.aload_n 2, 1) := by decide +kernel
theorem dL_law_1267 : decode cL_law 1267 = .ok (.aload_n 0, 1) := by decide +kernel
theorem dL_law_1268 : decode cL_law 1268 = .ok (.iload_n 3, 1) := by decide +kernel
theorem dL_law_1269 : decode cL_law 1269 = .ok (.iconst 1, 1) := by decide +kernel
theorem dL_law_1270 : decode cL_law 1270 = .ok (.iadd, 1) := by decide +kernel
theorem dL_law_1271 : decode cL_law 1271 = .ok (.iaload, 1) := by decide +kernel
theorem dL_law_1272 : decode cL_law 1272 = .ok (.aload_n 0, 1) := by decide +kernel
theorem dL_law_1273 : decode cL_law 1273 = .ok (.iload_n 3, 1) := by decide +kernel
theorem dL_law_1274 : decode cL_law 1274 = .ok (.iconst 2, 1) := by decide +kernel
theorem dL_law_1275 : decode cL_law 1275 = .ok (.iadd, 1) := by decide +kernel
theorem dL_law_1276 : decode cL_law 1276 = .ok (.iaload, 1) := by decide +kernel
theorem dL_law_1277 : decode cL_law 1277 = .ok (.aload_n 0, 1) := by decide +kernel
theorem dL_law_1278 : decode cL_law 1278 = .ok (.iload_n 3, 1) := by decide +kernel
theorem dL_law_1279 : decode cL_law 1279 = .ok (.iconst 3, 1) := by decide +kernel
theorem dL_law_1280 : decode cL_law 1280 = .ok (.iadd, 1) := by decide +kernel
theorem dL_law_1281 : decode cL_law 1281 = .ok (.iaload, 1) := by decide +kernel
theorem dL_law_1282 : decode cL_law 1282 = .ok (.i2l, 1) := by decide +kernel
theorem dL_law_1283 : decode cL_law 1283 = .ok (.bipush 32, 2) := by decide +kernel
theorem dL_law_1285 : decode cL_law 1285 = .ok (.lshl, 1) := by decide +kernel
theorem dL_law_1286 : decode cL_law 1286 = .ok (.aload_n 0, 1) := by decide +kernel
theorem dL_law_1287 : decode cL_law 1287 = .ok (.iload_n 3, 1) := by decide +kernel
theorem dL_law_1288 : decode cL_law 1288 = .ok (.iconst 4, 1) := by decide +kernel
theorem dL_law_1289 : decode cL_law 1289 = .ok (.iadd, 1) := by decide +kernel
theorem dL_law_1290 : decode cL_law 1290 = .ok (.iaload, 1) := by decide +kernel
theorem dL_law_1291 : decode cL_law 1291 = .ok (.i2l, 1) := by decide +kernel
theorem dL_law_1292 : decode cL_law 1292 = .ok (.ldc2_w 155, 3) := by decide +kernel
theorem dL_law_1295 : decode cL_law 1295 = .ok (.land, 1) := by decide +kernel
theorem dL_law_1296 : decode cL_law 1296 = .ok (.lor, 1) := by decide +kernel
theorem dL_law_1297 : decode cL_law 1297 = .ok (.invokevirtual 161, 3) := by decide +kernel
theorem dL_law_1300 : decode cL_law 1300 = .ok (.if_icmp .eq 161, 3) := by decide +kernel
theorem dL_law_1303 : decode cL_law 1303 = .ok (.iconst 0, 1) := by decide +kernel
theorem dL_law_1304 : decode cL_law 1304 = .ok (.ireturn, 1) := by decide +kernel
theorem dL_law_1305 : decode cL_law 1305 = .ok (.aload_n 1, 1) := by decide +kernel
theorem dL_law_1306 : decode cL_law 1306 = .ok (.aload_n 0, 1) := by decide +kernel
theorem dL_law_1307 : decode cL_law 1307 = .ok (.iload_n 3, 1) := by decide +kernel
theorem dL_law_1308 : decode cL_law 1308 = .ok (.iconst 1, 1) := by decide +kernel
theorem dL_law_1309 : decode cL_law 1309 = .ok (.iadd, 1) := by decide +kernel
theorem dL_law_1310 : decode cL_law 1310 = .ok (.iaload, 1) := by decide +kernel
theorem dL_law_1311 : decode cL_law 1311 = .ok (.aload_n 0, 1) := by decide +kernel
theorem dL_law_1312 : decode cL_law 1312 = .ok (.iload_n 3, 1) := by decide +kernel
theorem dL_law_1313 : decode cL_law 1313 = .ok (.iconst 2, 1) := by decide +kernel
theorem dL_law_1314 : decode cL_law 1314 = .ok (.iadd, 1) := by decide +kernel
theorem dL_law_1315 : decode cL_law 1315 = .ok (.iaload, 1) := by decide +kernel
theorem dL_law_1316 : decode cL_law 1316 = .ok (.invokevirtual 162, 3) := by decide +kernel
theorem dL_law_1319 : decode cL_law 1319 = .ok (.aload_n 2, 1) := by decide +kernel
theorem dL_law_1320 : decode cL_law 1320 = .ok (.aload_n 0, 1) := by decide +kernel
theorem dL_law_1321 : decode cL_law 1321 = .ok (.iload_n 3, 1) := by decide +kernel
theorem dL_law_1322 : decode cL_law 1322 = .ok (.iconst 1, 1) := by decide +kernel
theorem dL_law_1323 : decode cL_law 1323 = .ok (.iadd, 1) := by decide +kernel
theorem dL_law_1324 : decode cL_law 1324 = .ok (.iaload, 1) := by decide +kernel
theorem dL_law_1325 : decode cL_law 1325 = .ok (.aload_n 0, 1) := by decide +kernel
theorem dL_law_1326 : decode cL_law 1326 = .ok (.iload_n 3, 1) := by decide +kernel
theorem dL_law_1327 : decode cL_law 1327 = .ok (.iconst 2, 1) := by decide +kernel
theorem dL_law_1328 : decode cL_law 1328 = .ok (.iadd, 1) := by decide +kernel
theorem dL_law_1329 : decode cL_law 1329 = .ok (.iaload, 1) := by decide +kernel
theorem dL_law_1330 : decode cL_law 1330 = .ok (.invokevirtual 166, 3) := by decide +kernel
theorem dL_law_1333 : decode cL_law 1333 = .ok (.lcmp, 1) := by decide +kernel
theorem dL_law_1334 : decode cL_law 1334 = .ok (.ifCond .eq 127, 3) := by decide +kernel
theorem dL_law_1337 : decode cL_law 1337 = .ok (.iconst 0, 1) := by decide +kernel
theorem dL_law_1338 : decode cL_law 1338 = .ok (.ireturn, 1) := by decide +kernel
theorem dL_law_1339 : decode cL_law 1339 = .ok (.aload_n 1, 1) := by decide +kernel
theorem dL_law_1340 : decode cL_law 1340 = .ok (.aload_n 0, 1) := by decide +kernel
theorem dL_law_1341 : decode cL_law 1341 = .ok (.iload_n 3, 1) := by decide +kernel
theorem dL_law_1342 : decode cL_law 1342 = .ok (.iconst 1, 1) := by decide +kernel
theorem dL_law_1343 : decode cL_law 1343 = .ok (.iadd, 1) := by decide +kernel
theorem dL_law_1344 : decode cL_law 1344 = .ok (.iaload, 1) := by decide +kernel
theorem dL_law_1345 : decode cL_law 1345 = .ok (.aload_n 0, 1) := by decide +kernel
theorem dL_law_1346 : decode cL_law 1346 = .ok (.iload_n 3, 1) := by decide +kernel
theorem dL_law_1347 : decode cL_law 1347 = .ok (.iconst 2, 1) := by decide +kernel
theorem dL_law_1348 : decode cL_law 1348 = .ok (.iadd, 1) := by decide +kernel
theorem dL_law_1349 : decode cL_law 1349 = .ok (.iaload, 1) := by decide +kernel
theorem dL_law_1350 : decode cL_law 1350 = .ok (.aload_n 0, 1) := by decide +kernel
theorem dL_law_1351 : decode cL_law 1351 = .ok (.iload_n 3, 1) := by decide +kernel
theorem dL_law_1352 : decode cL_law 1352 = .ok (.iconst 3, 1) := by decide +kernel
theorem dL_law_1353 : decode cL_law 1353 = .ok (.iadd, 1) := by decide +kernel
theorem dL_law_1354 : decode cL_law 1354 = .ok (.iaload, 1) := by decide +kernel
theorem dL_law_1355 : decode cL_law 1355 = .ok (.aload_n 0, 1) := by decide +kernel
theorem dL_law_1356 : decode cL_law 1356 = .ok (.iload_n 3, 1) := by decide +kernel
theorem dL_law_1357 : decode cL_law 1357 = .ok (.iconst 4, 1) := by decide +kernel
theorem dL_law_1358 : decode cL_law 1358 = .ok (.iadd, 1) := by decide +kernel
theorem dL_law_1359 : decode cL_law 1359 = .ok (.iaload, 1) := by decide +kernel
theorem dL_law_1360 : decode cL_law 1360 = .ok (.aload_n 0, 1) := by decide +kernel
theorem dL_law_1361 : decode cL_law 1361 = .ok (.iload_n 3, 1) := by decide +kernel
theorem dL_law_1362 : decode cL_law 1362 = .ok (.iconst 5, 1) := by decide +kernel
theorem dL_law_1363 : decode cL_law 1363 = .ok (.iadd, 1) := by decide +kernel
theorem dL_law_1364 : decode cL_law 1364 = .ok (.iaload, 1) := by decide +kernel
theorem dL_law_1365 : decode cL_law 1365 = .ok (.invokevirtual 167, 3) := by decide +kernel
theorem dL_law_1368 : decode cL_law 1368 = .ok (.aload_n 2, 1) := by decide +kernel
theorem dL_law_1369 : decode cL_law 1369 = .ok (.aload_n 0, 1) := by decide +kernel
theorem dL_law_1370 : decode cL_law 1370 = .ok (.iload_n 3, 1) := by decide +kernel
theorem dL_law_1371 : decode cL_law 1371 = .ok (.iconst 1, 1) := by decide +kernel
theorem dL_law_1372 : decode cL_law 1372 = .ok (.iadd, 1) := by decide +kernel
theorem dL_law_1373 : decode cL_law 1373 = .ok (.iaload, 1) := by decide +kernel
theorem dL_law_1374 : decode cL_law 1374 = .ok (.aload_n 0, 1) := by decide +kernel
theorem dL_law_1375 : decode cL_law 1375 = .ok (.iload_n 3, 1) := by decide +kernel
theorem dL_law_1376 : decode cL_law 1376 = .ok (.iconst 2, 1) := by decide +kernel
theorem dL_law_1377 : decode cL_law 1377 = .ok (.iadd, 1) := by decide +kernel
theorem dL_law_1378 : decode cL_law 1378 = .ok (.iaload, 1) := by decide +kernel
theorem dL_law_1379 : decode cL_law 1379 = .ok (.aload_n 0, 1) := by decide +kernel
theorem dL_law_1380 : decode cL_law 1380 = .ok (.iload_n 3, 1) := by decide +kernel
theorem dL_law_1381 : decode cL_law 1381 = .ok (.iconst 3, 1) := by decide +kernel
theorem dL_law_1382 : decode cL_law 1382 = .ok (.iadd, 1) := by decide +kernel
theorem dL_law_1383 : decode cL_law 1383 = .ok (.iaload, 1) := by decide +kernel
theorem dL_law_1384 : decode cL_law 1384 = .ok (.aload_n 0, 1) := by decide +kernel
theorem dL_law_1385 : decode cL_law 1385 = .ok (.iload_n 3, 1) := by decide +kernel
theorem dL_law_1386 : decode cL_law 1386 = .ok (.iconst 4, 1) := by decide +kernel
theorem dL_law_1387 : decode cL_law 1387 = .ok (.iadd, 1) := by decide +kernel
theorem dL_law_1388 : decode cL_law 1388 = .ok (.iaload, 1) := by decide +kernel
theorem dL_law_1389 : decode cL_law 1389 = .ok (.aload_n 0, 1) := by decide +kernel
theorem dL_law_1390 : decode cL_law 1390 = .ok (.iload_n 3, 1) := by decide +kernel
theorem dL_law_1391 : decode cL_law 1391 = .ok (.iconst 5, 1) := by decide +kernel
theorem dL_law_1392 : decode cL_law 1392 = .ok (.iadd, 1) := by decide +kernel
theorem dL_law_1393 : decode cL_law 1393 = .ok (.iaload, 1) := by decide +kernel
theorem dL_law_1394 : decode cL_law 1394 = .ok (.invokevirtual 171, 3) := by decide +kernel
theorem dL_law_1397 : decode cL_law 1397 = .ok (.if_icmp .eq 64, 3) := by decide +kernel
theorem dL_law_1400 : decode cL_law 1400 = .ok (.iconst 0, 1) := by decide +kernel
theorem dL_law_1401 : decode cL_law 1401 = .ok (.ireturn, 1) := by decide +kernel
theorem dL_law_1402 : decode cL_law 1402 = .ok (.aload_n 1, 1) := by decide +kernel
theorem dL_law_1403 : decode cL_law 1403 = .ok (.aload_n 0, 1) := by decide +kernel
theorem dL_law_1404 : decode cL_law 1404 = .ok (.iload_n 3, 1) := by decide +kernel
theorem dL_law_1405 : decode cL_law 1405 = .ok (.iconst 1, 1) := by decide +kernel
theorem dL_law_1406 : decode cL_law 1406 = .ok (.iadd, 1) := by decide +kernel
theorem dL_law_1407 : decode cL_law 1407 = .ok (.iaload, 1) := by decide +kernel
theorem dL_law_1408 : decode cL_law 1408 = .ok (.aload_n 0, 1) := by decide +kernel
theorem dL_law_1409 : decode cL_law 1409 = .ok (.iload_n 3, 1) := by decide +kernel
theorem dL_law_1410 : decode cL_law 1410 = .ok (.iconst 2, 1) := by decide +kernel
theorem dL_law_1411 : decode cL_law 1411 = .ok (.iadd, 1) := by decide +kernel
theorem dL_law_1412 : decode cL_law 1412 = .ok (.iaload, 1) := by decide +kernel
theorem dL_law_1413 : decode cL_law 1413 = .ok (.invokevirtual 172, 3) := by decide +kernel
theorem dL_law_1416 : decode cL_law 1416 = .ok (.aload_n 2, 1) := by decide +kernel
theorem dL_law_1417 : decode cL_law 1417 = .ok (.aload_n 0, 1) := by decide +kernel
theorem dL_law_1418 : decode cL_law 1418 = .ok (.iload_n 3, 1) := by decide +kernel
theorem dL_law_1419 : decode cL_law 1419 = .ok (.iconst 1, 1) := by decide +kernel
theorem dL_law_1420 : decode cL_law 1420 = .ok (.iadd, 1) := by decide +kernel
theorem dL_law_1421 : decode cL_law 1421 = .ok (.iaload, 1) := by decide +kernel
theorem dL_law_1422 : decode cL_law 1422 = .ok (.aload_n 0, 1) := by decide +kernel
theorem dL_law_1423 : decode cL_law 1423 = .ok (.iload_n 3, 1) := by decide +kernel
theorem dL_law_1424 : decode cL_law 1424 = .ok (.iconst 2, 1) := by decide +kernel
theorem dL_law_1425 : decode cL_law 1425 = .ok (.iadd, 1) := by decide +kernel
theorem dL_law_1426 : decode cL_law 1426 = .ok (.iaload, 1) := by decide +kernel
theorem dL_law_1427 : decode cL_law 1427 = .ok (.invokevirtual 175, 3) := by decide +kernel
theorem dL_law_1430 : decode cL_law 1430 = .ok (.if_icmp .eq 31, 3) := by decide +kernel
theorem dL_law_1433 : decode cL_law 1433 = .ok (.iconst 0, 1) := by decide +kernel
theorem dL_law_1434 : decode cL_law 1434 = .ok (.ireturn, 1) := by decide +kernel
theorem dL_law_1435 : decode cL_law 1435 = .ok (.aload_n 1, 1) := by decide +kernel
theorem dL_law_1436 : decode cL_law 1436 = .ok (.invokevirtual 176, 3) := by decide +kernel
theorem dL_law_1439 : decode cL_law 1439 = .ok (.aload_n 2, 1) := by decide +kernel
theorem dL_law_1440 : decode cL_law 1440 = .ok (.invokevirtual 179, 3) := by decide +kernel
theorem dL_law_1443 : decode cL_law 1443 = .ok (.if_icmp .eq 18, 3) := by decide +kernel
theorem dL_law_1446 : decode cL_law 1446 = .ok (.iconst 0, 1) := by decide +kernel
theorem dL_law_1447 : decode cL_law 1447 = .ok (.ireturn, 1) := by decide +kernel
theorem dL_law_1448 : decode cL_law 1448 = .ok (.aload_n 1, 1) := by decide +kernel
theorem dL_law_1449 : decode cL_law 1449 = .ok (.invokevirtual 180, 3) := by decide +kernel
theorem dL_law_1452 : decode cL_law 1452 = .ok (.aload_n 2, 1) := by decide +kernel
theorem dL_law_1453 : decode cL_law 1453 = .ok (.invokevirtual 183, 3) := by decide +kernel
theorem dL_law_1456 : decode cL_law 1456 = .ok (.if_icmp .eq 5, 3) := by decide +kernel
theorem dL_law_1459 : decode cL_law 1459 = .ok (.iconst 0, 1) := by decide +kernel
theorem dL_law_1460 : decode cL_law 1460 = .ok (.ireturn, 1) := by decide +kernel
theorem dL_law_1461 : decode cL_law 1461 = .ok (.iinc 3 6, 3) := by decide +kernel
theorem dL_law_1464 : decode cL_law 1464 = .ok (.goto (-1446), 3) := by decide +kernel
theorem dL_law_1467 : decode cL_law 1467 = .ok (.iconst 1, 1) := by decide +kernel
theorem dL_law_1468 : decode cL_law 1468 = .ok (.ireturn, 1) := by decide +kernel
end
section
/-! ===== THE SMALL MACHINE: values, cells, heaps with small addresses; a method's walk is a predicate J closed under rules ===== -/
abbrev GC : Type := (Nat × List Value) ⊕ ((Nat × (Nat → Int32)) ⊕ ((Nat × (Nat → Int64)) ⊕ (Nat × Nat × (Nat → Option Nat))))
abbrev GH : Type := Nat → Option GC
abbrev GE : Type := Nat × Nat × Nat × Bool
abbrev GL : Type := List (Option Value)
abbrev JT : Type := Nat → GL → List Value → GH → GE → Prop
abbrev RT : Type := Option Value → GH → GE → Prop
abbrev CT : Type := MethodName → List Value → GH → GE → RT → Prop
abbrev gob (t : Nat) (fs : List Value) : GC := .inl (t, fs)
abbrev gia (n : Nat) (f : Nat → Int32) : GC := .inr (.inl (n, f))
abbrev gla (n : Nat) (f : Nat → Int64) : GC := .inr (.inr (.inl (n, f)))
abbrev gra (t n : Nat) (f : Nat → Option Nat) : GC := .inr (.inr (.inr (t, n, f)))
def gup (h : GH) (a : Nat) (c : GC) : GH := fun b => if b = a then some c else h b
def galen : GC → Option Nat
  | .inl _ => none
  | .inr (.inl x) => some x.1
  | .inr (.inr (.inl x)) => some x.1
  | .inr (.inr (.inr x)) => some x.2.1
theorem gup_same (h : GH) (a : Nat) (c : GC) : gup h a c a = some c := by simp [gup]
theorem gup_ne (h : GH) {a b : Nat} (c : GC) (hb : b ≠ a) : gup h a c b = h b := by simp [gup, hb]
def gldI (ls : GL) (i : Nat) : Option Value := match ls[i]? with
  | some (some (.int x)) => some (.int x)
  | _ => none
def gldL (ls : GL) (i : Nat) : Option Value := match ls[i]? with
  | some (some (.long x)) => some (.long x)
  | _ => none
def gldA (ls : GL) (i : Nat) : Option Value := match ls[i]? with
  | some (some (.ref x)) => some (.ref x)
  | _ => none
/-- a place of the locals that a value of one word may go to: the one before it holds none of two words -/
def gokS (ls : GL) (i : Nat) : Bool := match i with
  | 0 => true
  | j + 1 => match ls[j]? with
    | some (some (.long _)) => false
    | some (some (.double _)) => false
    | _ => true
def gst1 (ls : GL) (i : Nat) (v : Value) (st : List Value) : Option (GL × List Value) := match decide (i < ls.length) && gokS ls i with
  | true => some (ls.set i (some v), st)
  | false => none
def gst2 (ls : GL) (i : Nat) (v : Value) (st : List Value) : Option (GL × List Value) := match decide (i + 1 < ls.length) && gokS ls i with
  | true => some ((ls.set (i + 1) none).set i (some v), st)
  | false => none
def gpush (o : Option Value) (ls : GL) (st : List Value) : Option (GL × List Value) := match o with
  | some v => some (ls, v :: st)
  | none => none
/-- the steps that touch neither heap nor control -/
def gps (i : Instr) (ls : GL) (st : List Value) : Option (GL × List Value) := match i with
  | .iload n => gpush (gldI ls n) ls st
  | .iload_n n => gpush (gldI ls n.val) ls st
  | .lload n => gpush (gldL ls n) ls st
  | .lload_n n => gpush (gldL ls n.val) ls st
  | .aload n => gpush (gldA ls n) ls st
  | .aload_n n => gpush (gldA ls n.val) ls st
  | .istore n => match st with
    | .int x :: r => gst1 ls n (.int x) r
    | _ => none
  | .istore_n n => match st with
    | .int x :: r => gst1 ls n.val (.int x) r
    | _ => none
  | .astore n => match st with
    | .ref x :: r => gst1 ls n (.ref x) r
    | _ => none
  | .astore_n n => match st with
    | .ref x :: r => gst1 ls n.val (.ref x) r
    | _ => none
  | .lstore n => match st with
    | .long x :: r => gst2 ls n (.long x) r
    | _ => none
  | .lstore_n n => match st with
    | .long x :: r => gst2 ls n.val (.long x) r
    | _ => none
  | .iadd => match st with
    | .int y :: .int x :: r => some (ls, .int (x + y) :: r)
    | _ => none
  | .isub => match st with
    | .int y :: .int x :: r => some (ls, .int (x - y) :: r)
    | _ => none
  | .imul => match st with
    | .int y :: .int x :: r => some (ls, .int (x * y) :: r)
    | _ => none
  | .iand => match st with
    | .int y :: .int x :: r => some (ls, .int (x &&& y) :: r)
    | _ => none
  | .ladd => match st with
    | .long y :: .long x :: r => some (ls, .long (x + y) :: r)
    | _ => none
  | .lmul => match st with
    | .long y :: .long x :: r => some (ls, .long (x * y) :: r)
    | _ => none
  | .land => match st with
    | .long y :: .long x :: r => some (ls, .long (x &&& y) :: r)
    | _ => none
  | .lor => match st with
    | .long y :: .long x :: r => some (ls, .long (x ||| y) :: r)
    | _ => none
  | .lshl => match st with
    | .int y :: .long x :: r => some (ls, .long (x <<< (y.toInt64 &&& 63)) :: r)
    | _ => none
  | .lcmp => match st with
    | .long y :: .long x :: r => some (ls, .int (lg_cmp x y) :: r)
    | _ => none
  | .i2l => match st with
    | .int x :: r => some (ls, .long x.toInt64 :: r)
    | _ => none
  | .l2i => match st with
    | .long x :: r => some (ls, .int x.toInt32 :: r)
    | _ => none
  | .i2b => match st with
    | .int x :: r => some (ls, .int x.toInt8.toInt32 :: r)
    | _ => none
  | .i2c => match st with
    | .int x :: r => some (ls, .int (x.toUInt32 % 65536).toInt32 :: r)
    | _ => none
  | .dup => match st with
    | .int x :: r => some (ls, .int x :: .int x :: r)
    | .ref x :: r => some (ls, .ref x :: .ref x :: r)
    | _ => none
  | .pop => match st with
    | .int _ :: r => some (ls, r)
    | .ref _ :: r => some (ls, r)
    | _ => none
  | .dup2 => match st with
    | .int x :: .ref y :: r => some (ls, .int x :: .ref y :: .int x :: .ref y :: r)
    | _ => none
  | .ishr => match st with
    | .int y :: .int x :: r => some (ls, .int (x >>> (y &&& 31)) :: r)
    | _ => none
  | _ => none
def gics : Instr → Option Int32
  | .iconst n => some (Int32.ofInt n)
  | .bipush n => some (Int8.ofInt n).toInt32
  | .sipush n => some (Int16.ofInt n).toInt32
  | _ => none
def gcz (c : Jvm.ClassFile.Cond) (x y : Int32) : Prop := match c with
  | .eq => x = y
  | .ne => ¬ x = y
  | .lt => x < y
  | .ge => y ≤ x
  | .gt => y < x
  | .le => x ≤ y
def gcf (c : Jvm.ClassFile.Cond) (x y : Int32) : Prop := match c with
  | .eq => ¬ x = y
  | .ne => x = y
  | .lt => ¬ x < y
  | .ge => ¬ y ≤ x
  | .gt => ¬ y < x
  | .le => ¬ x ≤ y
/-- the field that an entry of a class file names: field k of class t -/
def gFL (own : String) (idx t k : Nat) : Prop := ∃ (C : String) (T : u_T) (N : Nat), vwCl[t]? = some (C, T, N) ∧ k < N ∧ Cond.fieldLink own idx (T k).1 (T k).2.1 (T k).2.2.1 ∈ lw_tbl
/-- what may be stored in field k of class t; whether it is final, and of the class own -/
def gFS (own : String) (t k : Nat) (fin : Bool) (v : Value) : Prop := ∃ (C : String) (T : u_T) (N : Nat) (ty : FieldType), vwCl[t]? = some (C, T, N) ∧ (T k).2.2.2 = fin ∧ (T k).1 = own ∧ parseFieldDescriptor (T k).2.2.1 = some ty ∧ narrow ty v = v ∧ fits ty v = true
def gFSn (t k : Nat) (v : Value) : Prop := ∃ (C : String) (T : u_T) (N : Nat) (ty : FieldType), vwCl[t]? = some (C, T, N) ∧ (T k).2.2.2 = false ∧ parseFieldDescriptor (T k).2.2.1 = some ty ∧ narrow ty v = v ∧ fits ty v = true
/-- the String constants: class, entry, text, number -/
def gstrs : List (String × Nat × String × Nat) := [("PatternLanguages", 163, "reverse", 0), ("PatternLanguages", 172, "swap", 1), ("PatternLanguages", 177, "drop", 2), ("PatternLanguages", 182, "collapse", 3), ("PatternLanguages", 184, "forget", 4), ("PatternLanguagesModel", 171, "reverse", 0), ("PatternLanguagesModel", 177, "swap", 1), ("PatternLanguagesModel", 179, "drop", 2), ("PatternLanguagesModel", 181, "collapse", 3), ("PatternLanguagesModel", 183, "forget", 4)]
def gbyt : List (List Int32) := [[114, 101, 118, 101, 114, 115, 101], [115, 119, 97, 112], [100, 114, 111, 112], [99, 111, 108, 108, 97, 112, 115, 101], [102, 111, 114, 103, 101, 116]]
def glen : List Nat := [7, 4, 4, 8, 6]
def gnestW : List Cond := [.methodLinkNest "PatternLanguages" 42 ⟨"PatternLanguages$Matcher", "<init>", "()V"⟩ "PatternLanguages", .methodLinkNest "PatternLanguages" 62 ⟨"PatternLanguages$Slot", "<init>", "()V"⟩ "PatternLanguages", .methodLinkNest "PatternLanguages$Matcher" 52 ⟨"PatternLanguages", "isVariable", "(I)Z"⟩ "PatternLanguages"]
def gNH (y : MethodName) (n : Nat) : Prop := y.cls ≠ "java/lang/invoke/MethodHandle" ∧ y.cls ≠ "java/lang/invoke/VarHandle" ∧ (parseMethodDescriptor y.desc).map (fun d => d.parameters.length) = some n
/-- calls: what the tables say of an entry -/
def gMV (own : String) (idx : Nat) (y : MethodName) (n : Nat) : Prop := Cond.methodLink own idx y ∈ lw_tbl ∧ Cond.instanceMethod y ∈ lw_tbl ∧ Cond.selects y.cls y y ∈ lw_tbl ∧ Cond.initialized y.cls ∈ lw_tbl ∧ gNH y n
def gMS (own : String) (idx : Nat) (y : MethodName) (n : Nat) : Prop := Cond.methodLink own idx y ∈ lw_tbl ∧ Cond.static y ∈ lw_tbl ∧ Cond.initialized y.cls ∈ lw_tbl ∧ gNH y n
def gMSN (own : String) (idx : Nat) (y : MethodName) (n : Nat) : Prop := Cond.methodLinkNest own idx y "PatternLanguages" ∈ gnestW ∧ Cond.static y ∈ lw_tbl ∧ Cond.initialized y.cls ∈ lw_tbl ∧ gNH y n
def gMI (own : String) (idx : Nat) (y : MethodName) (n : Nat) : Prop := Cond.methodLink own idx y ∈ lw_tbl ∧ Cond.instanceMethod y ∈ lw_tbl ∧ Cond.initialized y.cls ∈ lw_tbl ∧ y.name = "<init>" ∧ (parseMethodDescriptor y.desc).map (fun d => d.returnType) = some none ∧ gNH y n
def gMIN (own : String) (idx : Nat) (y : MethodName) (n : Nat) : Prop := Cond.methodLinkNest own idx y "PatternLanguages" ∈ gnestW ∧ Cond.instanceMethod y ∈ lw_tbl ∧ Cond.initialized y.cls ∈ lw_tbl ∧ y.name = "<init>" ∧ (parseMethodDescriptor y.desc).map (fun d => d.returnType) = some none ∧ gNH y n
def gcat (st : List Value) : Nat := (st.map fun v => v.category).sum
/-- behind a call: the answer on the stack, what was allotted to the callee is spent -/
def gaft (J : JT) (nx : Nat) (ls : GL) (st : List Value) (e : GE) (mc ms : Nat) : RT := fun r h' e' => J nx ls (r.toList ++ st) h' (e'.1, e.2.1 - mc, e.2.2.1 - ms, e'.2.2.2)
def gsz : Instr → Nat
  | .iload _ => 2
  | .lload _ => 2
  | .aload _ => 2
  | .istore _ => 2
  | .lstore _ => 2
  | .astore _ => 2
  | .bipush _ => 2
  | .sipush _ => 3
  | _ => 1
/-- the rules -/
def gRule (own : String) (cc : ByteArray) (ret : Option FieldType) (ini : Bool) (call : CT) (J : JT) (P : RT) : Nat → Prop
  | 0 => ∀ (pc : Nat) (i : Instr) (nx : Nat) (ls : GL) (st : List Value) (ls' : GL) (st' : List Value) (h : GH) (e : GE), decode cc pc = .ok (i, gsz i) → pc + gsz i = nx → gps i ls st = some (ls', st') → J nx ls' st' h e → J pc ls st h e
  | 1 => ∀ (pc : Nat) (i : Instr) (nx : Nat) (v : Int32) (ls : GL) (st : List Value) (h : GH) (e : GE), decode cc pc = .ok (i, gsz i) → pc + gsz i = nx → gics i = some v → J nx ls (.int v :: st) h e → J pc ls st h e
  | 2 => ∀ (pc : Nat) (n : Fin 2) (nx : Nat) (v : Int64) (ls : GL) (st : List Value) (h : GH) (e : GE), decode cc pc = .ok (.lconst n, 1) → pc + 1 = nx → Int64.ofNat n.val = v → J nx ls (.long v :: st) h e → J pc ls st h e
  | 3 => ∀ (pc n : Nat) (z : Int) (nx : Nat) (x v : Int32) (ls ls' : GL) (st : List Value) (h : GH) (e : GE), decode cc pc = .ok (.iinc n z, 3) → pc + 3 = nx → gldI ls n = some (.int x) → x + Int32.ofInt z = v → gst1 ls n (.int v) st = some (ls', st) → J nx ls' st h e → J pc ls st h e
  | 4 => ∀ (pc : Nat) (off : Int) (tgt : Nat) (ls : GL) (st : List Value) (h : GH) (e : GE), decode cc pc = .ok (.goto off, 3) → (pc : Int) + off = (tgt : Int) → J tgt ls st h e → J pc ls st h e
  | 5 => ∀ (pc : Nat) (c : Jvm.ClassFile.Cond) (off : Int) (nx tgt : Nat) (x : Int32) (ls : GL) (st : List Value) (h : GH) (e : GE), decode cc pc = .ok (.ifCond c off, 3) → pc + 3 = nx → (pc : Int) + off = (tgt : Int) → (gcz c x 0 → J tgt ls st h e) → (gcf c x 0 → J nx ls st h e) → J pc ls (.int x :: st) h e
  | 6 => ∀ (pc : Nat) (c : Jvm.ClassFile.Cond) (off : Int) (nx tgt : Nat) (x y : Int32) (ls : GL) (st : List Value) (h : GH) (e : GE), decode cc pc = .ok (.if_icmp c off, 3) → pc + 3 = nx → (pc : Int) + off = (tgt : Int) → (gcz c x y → J tgt ls st h e) → (gcf c x y → J nx ls st h e) → J pc ls (.int y :: .int x :: st) h e
  | 7 => ∀ (pc idx nx : Nat) (v : Int32) (ls : GL) (st : List Value) (h : GH) (e : GE), decode cc pc = .ok (.ldc idx, 2) → pc + 2 = nx → Cond.constant own idx v ∈ lw_tbl → J nx ls (.int v :: st) h e → J pc ls st h e
  | 8 => ∀ (pc idx nx : Nat) (v : Int64) (ls : GL) (st : List Value) (h : GH) (e : GE), decode cc pc = .ok (.ldc2_w idx, 3) → pc + 3 = nx → Cond.constantLong own idx v ∈ lw_tbl → J nx ls (.long v :: st) h e → J pc ls st h e
  | 9 => ∀ (pc idx nx i : Nat) (tx : String) (ls : GL) (st : List Value) (h : GH) (e : GE), decode cc pc = .ok (.ldc idx, 2) → pc + 2 = nx → (own, idx, tx, i) ∈ gstrs → J nx ls (.ref (1000000 + i) :: st) h e → J pc ls st h e
  | 10 => ∀ (pc : Nat) (dflt lo hi : Int) (offs : Array Int) (len tgt : Nat) (x : Int32) (ls : GL) (st : List Value) (h : GH) (e : GE), decode cc pc = .ok (.tableswitch dflt lo hi offs, len) → (x.toInt < lo ∨ hi < x.toInt) → (pc : Int) + dflt = (tgt : Int) → J tgt ls st h e → J pc ls (.int x :: st) h e
  | 11 => ∀ (pc : Nat) (dflt lo hi : Int) (offs : Array Int) (off : Int) (len tgt : Nat) (x : Int32) (ls : GL) (st : List Value) (h : GH) (e : GE), decode cc pc = .ok (.tableswitch dflt lo hi offs, len) → ¬ x.toInt < lo → ¬ hi < x.toInt → offs[(x.toInt - lo).toNat]? = some off → (pc : Int) + off = (tgt : Int) → J tgt ls st h e → J pc ls (.int x :: st) h e
  | 12 => ∀ (pc nx : Nat) (x y : Int32) (ls : GL) (st : List Value) (h : GH) (e : GE), decode cc pc = .ok (.idiv, 1) → pc + 1 = nx → ¬ y = 0 → J nx ls (.int (x / y) :: st) h e → J pc ls (.int y :: .int x :: st) h e
  | 13 => ∀ (pc nx : Nat) (x y : Int32) (ls : GL) (st : List Value) (h : GH) (e : GE), decode cc pc = .ok (.irem, 1) → pc + 1 = nx → ¬ y = 0 → J nx ls (.int (x - x / y * y) :: st) h e → J pc ls (.int y :: .int x :: st) h e
  | 14 => ∀ (pc idx nx t j a : Nat) (fs : List Value) (v : Value) (ls : GL) (st : List Value) (h : GH) (e : GE), decode cc pc = .ok (.getfield idx, 3) → pc + 3 = nx → gFL own idx t j → h a = some (gob t fs) → fs[j]? = some v → J nx ls (v :: st) h e → J pc ls (.ref a :: st) h e
  | 15 => ∀ (pc idx nx t j a : Nat) (fs : List Value) (v : Value) (ls : GL) (st : List Value) (h : GH) (e : GE), decode cc pc = .ok (.putfield idx, 3) → pc + 3 = nx → gFL own idx t j → gFSn t j v → h a = some (gob t fs) → j < fs.length → J nx ls st (gup h a (gob t (fs.set j v))) e → J pc ls (v :: .ref a :: st) h e
  | 16 => ∀ (pc idx nx t j a : Nat) (fs : List Value) (v : Value) (ls : GL) (st : List Value) (h : GH) (e : GE), decode cc pc = .ok (.putfield idx, 3) → pc + 3 = nx → gFL own idx t j → ini = true → gFS own t j true v → h a = some (gob t fs) → j < fs.length → J nx ls st (gup h a (gob t (fs.set j v))) e → J pc ls (v :: .ref a :: st) h e
  | 17 => ∀ (pc nx n a : Nat) (f : Nat → Int32) (i : Int32) (ls : GL) (st : List Value) (h : GH) (e : GE), decode cc pc = .ok (.iaload, 1) → pc + 1 = nx → h a = some (gia n f) → vp_in i n → J nx ls (.int (f i.toNatClampNeg) :: st) h e → J pc ls (.int i :: .ref a :: st) h e
  | 18 => ∀ (pc nx n a : Nat) (f : Nat → Int32) (i x : Int32) (ls : GL) (st : List Value) (h : GH) (e : GE), decode cc pc = .ok (.iastore, 1) → pc + 1 = nx → h a = some (gia n f) → vp_in i n → J nx ls st (gup h a (gia n (upd f i.toNatClampNeg x))) e → J pc ls (.int x :: .int i :: .ref a :: st) h e
  | 19 => ∀ (pc nx n a : Nat) (f : Nat → Int64) (i : Int32) (ls : GL) (st : List Value) (h : GH) (e : GE), decode cc pc = .ok (.laload, 1) → pc + 1 = nx → h a = some (gla n f) → vp_in i n → J nx ls (.long (f i.toNatClampNeg) :: st) h e → J pc ls (.int i :: .ref a :: st) h e
  | 20 => ∀ (pc nx n a : Nat) (f : Nat → Int64) (i : Int32) (x : Int64) (ls : GL) (st : List Value) (h : GH) (e : GE), decode cc pc = .ok (.lastore, 1) → pc + 1 = nx → h a = some (gla n f) → vp_in i n → J nx ls st (gup h a (gla n (vp_updL f i.toNatClampNeg x))) e → J pc ls (.long x :: .int i :: .ref a :: st) h e
  | 21 => ∀ (pc nx t n a : Nat) (f : Nat → Option Nat) (i : Int32) (ls : GL) (st : List Value) (h : GH) (e : GE), decode cc pc = .ok (.aaload, 1) → pc + 1 = nx → h a = some (gra t n f) → vp_in i n → (t = 2 ∨ t = 4) → J nx ls (va_rf (f i.toNatClampNeg) :: st) h e → J pc ls (.int i :: .ref a :: st) h e
  | 22 => ∀ (pc nx t n a v : Nat) (vs : List Value) (f : Nat → Option Nat) (i : Int32) (ls : GL) (st : List Value) (h : GH) (e : GE), decode cc pc = .ok (.aastore, 1) → pc + 1 = nx → h a = some (gra t n f) → h v = some (gob t vs) → vp_in i n → (t = 2 ∨ t = 4) → J nx ls st (gup h a (gra t n (va_up f i.toNatClampNeg (some v)))) e → J pc ls (.ref v :: .int i :: .ref a :: st) h e
  | 23 => ∀ (pc nx n a : Nat) (c : GC) (ls : GL) (st : List Value) (h : GH) (e : GE), decode cc pc = .ok (.arraylength, 1) → pc + 1 = nx → h a = some c → galen c = some n → (∀ t m f, c = gra t m f → t = 2 ∨ t = 4) → J nx ls (.int (nI n) :: st) h e → J pc ls (.ref a :: st) h e
  | 24 => ∀ (pc idx nx t n bc bs : Nat) (C : String) (T : u_T) (N : Nat) (ty : Nat → FieldType) (fs : List Value) (ls : GL) (st : List Value) (h : GH), decode cc pc = .ok (.new idx, 3) → pc + 3 = nx → Cond.classLink own idx C ∈ lw_tbl → Cond.instantiable C N ∈ lw_tbl → Cond.initialized C ∈ lw_tbl → vwCl[t]? = some (C, T, N) → (∀ j, j < N → parseFieldDescriptor (T j).2.2.1 = some (ty j)) → (∀ j, j < N → defaultValue (ty j) = vp_V fs j) → (∀ v ∈ fs, ∀ a, v ≠ .ref a) → n + 1 ≤ 1000000 → J nx ls (.ref n :: st) (gup h n (gob t fs)) (n + 1, bc, bs, true) → J pc ls st h (n, bc + 1, bs + N, true)
  | 25 => ∀ (pc nx n m bc bs : Nat) (i : Int32) (ls : GL) (st : List Value) (h : GH), decode cc pc = .ok (.newarray .int, 2) → pc + 2 = nx → ¬ i < 0 → i.toNatClampNeg = m → m ≤ 1000 → n + 1 ≤ 1000000 → J nx ls (.ref n :: st) (gup h n (gia m (fun _ => 0))) (n + 1, bc, bs, true) → J pc ls (.int i :: st) h (n, bc + 1, bs + m, true)
  | 26 => ∀ (pc nx n m bc bs : Nat) (i : Int32) (ls : GL) (st : List Value) (h : GH), decode cc pc = .ok (.newarray .long, 2) → pc + 2 = nx → ¬ i < 0 → i.toNatClampNeg = m → m ≤ 1000 → n + 1 ≤ 1000000 → J nx ls (.ref n :: st) (gup h n (gla m (fun _ => 0))) (n + 1, bc, bs, true) → J pc ls (.int i :: st) h (n, bc + 1, bs + m, true)
  | 27 => ∀ (pc idx nx t n m bc bs : Nat) (C : String) (T : u_T) (N : Nat) (i : Int32) (ls : GL) (st : List Value) (h : GH), decode cc pc = .ok (.anewarray idx, 3) → pc + 3 = nx → Cond.classLink own idx C ∈ lw_tbl → vwCl[t]? = some (C, T, N) → (t = 2 ∨ t = 4) → ¬ i < 0 → i.toNatClampNeg = m → m ≤ 1000 → n + 1 ≤ 1000000 → J nx ls (.ref n :: st) (gup h n (gra t m (fun _ => none))) (n + 1, bc, bs, true) → J pc ls (.int i :: st) h (n, bc + 1, bs + m, true)
  | 28 => ∀ (pc idx nx t a mc ms : Nat) (fs : List Value) (y : MethodName) (As : List Value) (ls : GL) (st st0 : List Value) (h : GH) (e : GE), decode cc pc = .ok (.invokevirtual idx, 3) → pc + 3 = nx → gMV own idx y As.length → h a = some (gob t fs) → (vwCl[t]?).map (fun q => q.1) = some y.cls → gcat st ≤ 8 → st0 = As.reverse ++ .ref a :: st → mc ≤ e.2.1 → ms ≤ e.2.2.1 → call y (.ref a :: As) h (e.1, mc, ms, e.2.2.2) (gaft J nx ls st e mc ms) → J pc ls st0 h e
  | 29 => ∀ (pc idx nx i mc ms : Nat) (y : MethodName) (As : List Value) (ls : GL) (st st0 : List Value) (h : GH) (e : GE), decode cc pc = .ok (.invokevirtual idx, 3) → pc + 3 = nx → gMV own idx y As.length → i < 5 → y.cls = "java/lang/String" → gcat st ≤ 8 → st0 = As.reverse ++ .ref (1000000 + i) :: st → mc ≤ e.2.1 → ms ≤ e.2.2.1 → call y (.ref (1000000 + i) :: As) h (e.1, mc, ms, e.2.2.2) (gaft J nx ls st e mc ms) → J pc ls st0 h e
  | 30 => ∀ (pc idx nx mc ms : Nat) (y : MethodName) (As : List Value) (ls : GL) (st st0 : List Value) (h : GH) (e : GE), decode cc pc = .ok (.invokestatic idx, 3) → pc + 3 = nx → gMS own idx y As.length → gcat st ≤ 8 → st0 = As.reverse ++ st → mc ≤ e.2.1 → ms ≤ e.2.2.1 → call y As h (e.1, mc, ms, e.2.2.2) (gaft J nx ls st e mc ms) → J pc ls st0 h e
  | 31 => ∀ (pc idx nx mc ms : Nat) (y : MethodName) (As : List Value) (ls : GL) (st st0 : List Value) (h : GH) (e : GE), decode cc pc = .ok (.invokestatic idx, 3) → pc + 3 = nx → gMSN own idx y As.length → gcat st ≤ 8 → st0 = As.reverse ++ st → mc ≤ e.2.1 → ms ≤ e.2.2.1 → call y As h (e.1, mc, ms, e.2.2.2) (gaft J nx ls st e mc ms) → J pc ls st0 h e
  | 32 => ∀ (pc idx nx a mc ms : Nat) (y : MethodName) (As : List Value) (ls : GL) (st st0 : List Value) (h : GH) (e : GE), decode cc pc = .ok (.invokespecial idx, 3) → pc + 3 = nx → gMI own idx y As.length → gcat st ≤ 8 → st0 = As.reverse ++ .ref a :: st → mc ≤ e.2.1 → ms ≤ e.2.2.1 → call y (.ref a :: As) h (e.1, mc, ms, e.2.2.2) (gaft J nx ls st e mc ms) → J pc ls st0 h e
  | 33 => ∀ (pc idx nx a mc ms : Nat) (y : MethodName) (As : List Value) (ls : GL) (st st0 : List Value) (h : GH) (e : GE), decode cc pc = .ok (.invokespecial idx, 3) → pc + 3 = nx → gMIN own idx y As.length → gcat st ≤ 8 → st0 = As.reverse ++ .ref a :: st → mc ≤ e.2.1 → ms ≤ e.2.2.1 → call y (.ref a :: As) h (e.1, mc, ms, e.2.2.2) (gaft J nx ls st e mc ms) → J pc ls st0 h e
  | 34 => ∀ (pc idx nx a : Nat) (ls : GL) (st : List Value) (h : GH) (e : GE), decode cc pc = .ok (.invokespecial idx, 3) → pc + 3 = nx → Cond.methodLink own idx objectInit ∈ lw_tbl → gcat st ≤ 8 → J nx ls st h e → J pc ls (.ref a :: st) h e
  | 35 => ∀ (pc idx nx a0 a n0 n1 : Nat) (f g : Nat → Int32) (sp dp n : Int32) (ls : GL) (st : List Value) (h : GH) (e : GE), decode cc pc = .ok (.invokestatic idx, 3) → pc + 3 = nx → Cond.methodLink own idx arraycopyName ∈ lw_tbl → gcat st ≤ 8 → h a0 = some (gia n0 f) → h a = some (gia n1 g) → ¬ sp < 0 → ¬ dp < 0 → ¬ n < 0 → sp.toNatClampNeg + n.toNatClampNeg ≤ n0 → dp.toNatClampNeg + n.toNatClampNeg ≤ n1 → J nx ls st (gup h a (gia n1 (va_cpy f g sp.toNatClampNeg dp.toNatClampNeg n.toNatClampNeg))) (e.1, e.2.1, e.2.2.1, false) → J pc ls (.int n :: .int dp :: .ref a :: .int sp :: .ref a0 :: st) h e
  | 36 => ∀ (pc : Nat) (v : Int32) (ls : GL) (h : GH) (e : GE), decode cc pc = .ok (.ireturn, 1) → (∃ ty, ret = some ty ∧ narrow ty (.int v) = .int v) → P (some (.int v)) h e → J pc ls [.int v] h e
  | 37 => ∀ (pc : Nat) (v : Int64) (ls : GL) (h : GH) (e : GE), decode cc pc = .ok (.lreturn, 1) → ret = some .long → P (some (.long v)) h e → J pc ls [.long v] h e
  | 38 => ∀ (pc : Nat) (ls : GL) (h : GH) (e : GE), decode cc pc = .ok (.return_, 1) → ret = none → P none h e → J pc ls [] h e
  | 39 => ∀ (pc idx nx : Nat) (ls : GL) (st : List Value) (h : GH) (e : GE), decode cc pc = .ok (.getstatic idx, 3) → pc + 3 = nx → Cond.fieldLink own idx "java/lang/String" "COMPACT_STRINGS" "Z" ∈ lw_tbl → J nx ls (.int 1 :: st) h e → J pc ls st h e
  | 40 => ∀ (pc idx nx : Nat) (ls : GL) (st : List Value) (h : GH) (e : GE), decode cc pc = .ok (.getstatic idx, 3) → pc + 3 = nx → Cond.fieldLink own idx "jdk/internal/util/Preconditions" "SIOOBE_FORMATTER" "Ljava/util/function/BiFunction;" ∈ lw_tbl → J nx ls (.null :: st) h e → J nx ls (.ref 1000200 :: st) h e → J pc ls st h e
  | 41 => ∀ (pc idx nx i : Nat) (ls : GL) (st : List Value) (h : GH) (e : GE), decode cc pc = .ok (.getfield idx, 3) → pc + 3 = nx → Cond.fieldLink own idx "java/lang/String" "coder" "B" ∈ lw_tbl → i < 5 → J nx ls (.int 0 :: st) h e → J pc ls (.ref (1000000 + i) :: st) h e
  | 42 => ∀ (pc idx nx i : Nat) (ls : GL) (st : List Value) (h : GH) (e : GE), decode cc pc = .ok (.getfield idx, 3) → pc + 3 = nx → Cond.fieldLink own idx "java/lang/String" "value" "[B" ∈ lw_tbl → i < 5 → J nx ls (.ref (1000100 + i) :: st) h e → J pc ls (.ref (1000000 + i) :: st) h e
  | 43 => ∀ (pc nx i : Nat) (ls : GL) (st : List Value) (h : GH) (e : GE), decode cc pc = .ok (.arraylength, 1) → pc + 1 = nx → i < 5 → J nx ls (.int (nI (glen.getD i 0)) :: st) h e → J pc ls (.ref (1000100 + i) :: st) h e
  | 44 => ∀ (pc nx i j : Nat) (ls : GL) (st : List Value) (h : GH) (e : GE), decode cc pc = .ok (.baload, 1) → pc + 1 = nx → i < 5 → j < glen.getD i 0 → J nx ls (.int ((gbyt.getD i []).getD j 0) :: st) h e → J pc ls (.int (nI j) :: .ref (1000100 + i) :: st) h e
  | 45 => ∀ (pc idx nx : Nat) (x y : Int32) (ls : GL) (st : List Value) (h : GH) (e : GE), decode cc pc = .ok (.invokestatic idx, 3) → pc + 3 = nx → Cond.methodLink own idx Lib.Math.max.name ∈ lw_tbl → gcat st ≤ 8 → J nx ls (.int (if x < y then y else x) :: st) h e → J pc ls (.int y :: .int x :: st) h e
  | 46 => ∀ (pc idx nx : Nat) (x y : Int32) (ls : GL) (st : List Value) (h : GH) (e : GE), decode cc pc = .ok (.invokestatic idx, 3) → pc + 3 = nx → Cond.methodLink own idx Lib.Math.min.name ∈ lw_tbl → gcat st ≤ 8 → J nx ls (.int (if y < x then y else x) :: st) h e → J pc ls (.int y :: .int x :: st) h e
  | _ => True
def gCl (own : String) (cc : ByteArray) (ret : Option FieldType) (ini : Bool) (call : CT) (J : JT) (P : RT) : Prop := ∀ k : Nat, gRule own cc ret ini call J P k
def gent (vs : List Value) (n : Nat) : GL := (vs.flatMap fun v => if v.category = 2 then [some v, none] else [some v]) ++ List.replicate (n - (lg_sl vs).length) none
def gMth (y : MethodName) (cc : ByteArray) (maxL : Nat) (ret : Option FieldType) : Prop := Cond.code y cc maxL ret ∈ lw_tbl ∧ maxL ≤ 40 ∧ plainName y.cls = true ∧ (parseMethodDescriptor y.desc).map (fun d => d.returnType) = some ret
/-- method y, called with vs in the heap h, returns with P; d calls deep at most -/
def gRuns : Nat → CT
  | 0 => fun _ _ _ _ _ => False
  | d + 1 => fun y vs h e P => ∃ (cc : ByteArray) (maxL : Nat) (ret : Option FieldType), gMth y cc maxL ret ∧ (lg_sl vs).length ≤ maxL ∧ ∀ J : JT, gCl y.cls cc ret (y.name == "<init>") (gRuns d) J P → J 0 (gent vs maxL) [] h e
end
section
/-! ===== the small machine's heap and locals within the real one's ===== -/
def grho (base : Nat) (sp : Nat → Nat) (a : Nat) : Nat := if a < 1000000 then base + a else sp (a - 1000000)
def gmv (base : Nat) (sp : Nat → Nat) : Value → Value
  | .ref a => .ref (grho base sp a)
  | .int x => .int x
  | .long x => .long x
  | .float x => .float x
  | .double x => .double x
  | .null => .null
  | .retAddr x => .retAddr x
def gcv (base : Nat) (sp : Nat → Nat) (cI cL : ClassId) (cQ : Nat → ClassId) : GC → va_E
  | .inl x => .inr (x.1, x.2.map (gmv base sp))
  | .inr (.inl x) => .inl (cI, x.1, .inl x.2)
  | .inr (.inr (.inl x)) => .inl (cL, x.1, .inr (.inl x.2))
  | .inr (.inr (.inr x)) => .inl (cQ x.1, x.2.1, .inr (.inr (.inr (.inr (fun j => (x.2.2 j).map (grho base sp))))))
def gA (base : Nat) : Nat → Prop := fun q => base ≤ q
def gtys (cI cL : ClassId) (cQ : Nat → ClassId) : List (ClassId × FieldType) := [(cI, .int), (cL, .long), (cQ 2, .object RX2), (cQ 4, .object RX4)]
def gHd (base : Nat) (sp : Nat → Nat) (D : va_G) (cI cL : ClassId) (cQ : Nat → ClassId) (h : GH) (e : GE) (H : Heap) (ws : va_W) : Prop :=
  (∀ (a : Nat) (c : GC), h a = some c → a < e.1 ∧ ∃ k : Nat, ws[k]? = some (grho base sp a, gcv base sp cI cL cQ c)) ∧ va_P D vwCl ws H ∧ va_D (gA base) ws ∧ (e.2.2.2 = false ∨ H.size = base + e.1) ∧ e.1 ≤ 1000000
def gLr (base : Nat) (sp : Nat → Nat) (nL : Nat) (ls : GL) (arr : Array Slot) : Prop :=
  ls.length = nL ∧ arr.size = nL ∧ lv_wf arr ∧ ∀ (i : Nat) (v : Value), ls[i]? = some (some v) → arr[i]? = some (.val (gmv base sp v))
def gasc (base : Nat) (sp : Nat → Nat) (ls : GL) : List (Nat × Value) := ls.zipIdx.filterMap (fun q => q.1.map fun v => (q.2, gmv base sp v))
theorem gasc_mem {base : Nat} {sp : Nat → Nat} {ls : GL} {i : Nat} {w : Value} : (i, w) ∈ gasc base sp ls ↔ ∃ v, ls[i]? = some (some v) ∧ w = gmv base sp v := by
  unfold gasc
  rw [List.mem_filterMap]
  constructor
  · rintro ⟨⟨o, j⟩, h1, h2⟩
    have h3 := List.mem_zipIdx_iff_getElem?.mp h1
    cases o with
    | none => cases h2
    | some v =>
      simp only [Option.map_some, Option.some.injEq, Prod.mk.injEq] at h2
      obtain ⟨rfl, rfl⟩ := h2
      exact ⟨v, h3, rfl⟩
  · rintro ⟨v, h1, rfl⟩
    exact ⟨(some v, i), List.mem_zipIdx_iff_getElem?.mpr h1, rfl⟩
theorem gmv_cat (base : Nat) (sp : Nat → Nat) (v : Value) : (gmv base sp v).category = v.category := by cases v <;> rfl
theorem gLr.has {base : Nat} {sp : Nat → Nat} {nL : Nat} {ls : GL} {arr : Array Slot} (h : gLr base sp nL ls arr) : lv_has arr nL (gasc base sp ls) := by
  refine ⟨h.2.1, h.2.2.1, fun q hq => ?_⟩
  obtain ⟨i, w⟩ := q
  obtain ⟨v, h1, rfl⟩ := gasc_mem.mp hq
  exact h.2.2.2 i v h1
theorem gokS_spec {ls : GL} {j : Nat} {v : Value} (h : gokS ls (j + 1) = true) (hv : ls[j]? = some (some v)) : v.category = 1 := by
  simp only [gokS, hv] at h
  cases v <;> first | rfl | cases h
theorem gLr.st1 {base : Nat} {sp : Nat → Nat} {nL i : Nat} {ls : GL} {arr arr' : Array Slot} {v : Value} (h : gLr base sp nL ls arr) (hi : i < ls.length) (ho : gokS ls i = true)
    (h' : lv_has arr' nL ((i, gmv base sp v) :: (gasc base sp ls).filter (fun q => !(q.1 == i) && !(q.1 + 1 == i && q.2.category == 2)))) : gLr base sp nL (ls.set i (some v)) arr' := by
  refine ⟨by rw [List.length_set]; exact h.1, h'.1, h'.2.1, fun j w hw => ?_⟩
  by_cases hj : j = i
  · subst hj
    rw [List.getElem?_set_self hi] at hw
    cases hw
    exact h'.2.2 (j, gmv base sp v) List.mem_cons_self
  · rw [List.getElem?_set_ne (fun q => hj q.symm)] at hw
    refine h'.2.2 (j, gmv base sp w) (List.mem_cons_of_mem _ (List.mem_filter.mpr ⟨gasc_mem.mpr ⟨w, hw, rfl⟩, ?_⟩))
    have h1 : (j == i) = false := by simpa using hj
    by_cases hji : j + 1 = i
    · subst hji
      have := gokS_spec ho hw
      simp [gmv_cat, this]
    · simp [h1, hji]
theorem gLr.st2 {base : Nat} {sp : Nat → Nat} {nL i : Nat} {ls : GL} {arr arr' : Array Slot} {v : Value} (h : gLr base sp nL ls arr) (hi : i + 1 < ls.length) (ho : gokS ls i = true)
    (h' : lv_has arr' nL ((i, gmv base sp v) :: (gasc base sp ls).filter (fun q => !(q.1 == i) && (!(q.1 == i + 1) && !(q.1 + 1 == i && q.2.category == 2))))) : gLr base sp nL ((ls.set (i + 1) none).set i (some v)) arr' := by
  refine ⟨by rw [List.length_set, List.length_set]; exact h.1, h'.1, h'.2.1, fun j w hw => ?_⟩
  by_cases hj : j = i
  · subst hj
    rw [List.getElem?_set_self (by rw [List.length_set]; omega)] at hw
    cases hw
    exact h'.2.2 (j, gmv base sp v) List.mem_cons_self
  · rw [List.getElem?_set_ne (fun q => hj q.symm)] at hw
    by_cases hj2 : j = i + 1
    · subst hj2
      rw [List.getElem?_set_self hi] at hw
      cases hw
    · rw [List.getElem?_set_ne (fun q => hj2 q.symm)] at hw
      refine h'.2.2 (j, gmv base sp w) (List.mem_cons_of_mem _ (List.mem_filter.mpr ⟨gasc_mem.mpr ⟨w, hw, rfl⟩, ?_⟩))
      by_cases hji : j + 1 = i
      · subst hji
        have := gokS_spec ho hw
        simp [gmv_cat, this]
        omega
      · simp [hj, hj2, hji]
theorem gpush_spec {o : Option Value} {ls ls' : GL} {st st' : List Value} (h : gpush o ls st = some (ls', st')) : ∃ v, o = some v ∧ ls' = ls ∧ st' = v :: st := by
  cases o with
  | none => cases h
  | some v => cases h; exact ⟨v, rfl, rfl, rfl⟩
theorem gldI_spec {ls : GL} {n : Nat} {v : Value} (h : gldI ls n = some v) : ∃ x, v = .int x ∧ ls[n]? = some (some (.int x)) := by
  unfold gldI at h
  split at h
  · next x hx => cases h; exact ⟨x, rfl, hx⟩
  · cases h
theorem gldL_spec {ls : GL} {n : Nat} {v : Value} (h : gldL ls n = some v) : ∃ x, v = .long x ∧ ls[n]? = some (some (.long x)) := by
  unfold gldL at h
  split at h
  · next x hx => cases h; exact ⟨x, rfl, hx⟩
  · cases h
theorem gldA_spec {ls : GL} {n : Nat} {v : Value} (h : gldA ls n = some v) : ∃ x, v = .ref x ∧ ls[n]? = some (some (.ref x)) := by
  unfold gldA at h
  split at h
  · next x hx => cases h; exact ⟨x, rfl, hx⟩
  · cases h
theorem gst1_spec {ls ls' : GL} {i : Nat} {v : Value} {st st' : List Value} (h : gst1 ls i v st = some (ls', st')) : i < ls.length ∧ gokS ls i = true ∧ ls' = ls.set i (some v) ∧ st' = st := by
  unfold gst1 at h
  split at h
  · next hc =>
    cases h
    simp only [Bool.and_eq_true, decide_eq_true_eq] at hc
    exact ⟨hc.1, hc.2, rfl, rfl⟩
  · cases h
theorem gst2_spec {ls ls' : GL} {i : Nat} {v : Value} {st st' : List Value} (h : gst2 ls i v st = some (ls', st')) : i + 1 < ls.length ∧ gokS ls i = true ∧ ls' = (ls.set (i + 1) none).set i (some v) ∧ st' = st := by
  unfold gst2 at h
  split at h
  · next hc =>
    cases h
    simp only [Bool.and_eq_true, decide_eq_true_eq] at hc
    exact ⟨hc.1, hc.2, rfl, rfl⟩
  · cases h
/-- the words that ride along -/
def gTs : List Cond := lw_tbl.filter goodWord
theorem gT_mem {w : Cond} (h : w ∈ lw_tbl) (hg : goodWord w = true) : w ∈ gTs := List.mem_filter.mpr ⟨h, hg⟩
def gEnv (base : Nat) (sp : Nat → Nat) (D : va_G) (cI cL : ClassId) (cQ : Nat → ClassId) (U : State) : Prop :=
  va_K D vwCl (gtys cI cL cQ) U ∧ (va_AO RX2 U ∧ va_AO RX4 U) ∧ (∀ w ∈ gnestW, va_Nw w U) ∧ (∀ q ∈ gstrs, vk_R q.1 q.2.1 q.2.2.1 (sp q.2.2.2) U) ∧ vk_S 5 glen gbyt sp (fun i => sp (100 + i)) (gA base) U U.heap ∧ va_Z "java/lang/String" "COMPACT_STRINGS" "Z" (.int 1) (gA base) U U.heap ∧
  ∃ v : Value, (v = .null ∨ v = .ref (sp 200)) ∧ va_Z "jdk/internal/util/Preconditions" "SIOOBE_FORMATTER" "Ljava/util/function/BiFunction;" v (gA base) U U.heap
theorem gnest_warm {s U : State} (hW : s.WarmedH U.vm) (h : ∀ w ∈ gnestW, va_Nw w s) : ∀ w ∈ gnestW, va_Nw w U := by
  intro w hw
  have h1 := h w hw
  simp only [gnestW, List.mem_cons, List.not_mem_nil, or_false] at hw
  rcases hw with rfl | rfl | rfl
  · exact va_Nw.warmM hW h1
  · exact va_Nw.warmM hW h1
  · exact va_Nw.warmM hW h1
theorem gnest_same {s U : State} (hv : s.vm = U.vm) (h : ∀ w ∈ gnestW, va_Nw w s) : ∀ w ∈ gnestW, va_Nw w U := by
  intro w hw
  have h1 := h w hw
  simp only [gnestW, List.mem_cons, List.not_mem_nil, or_false] at hw
  rcases hw with rfl | rfl | rfl
  · exact va_Nw.same rfl hv h1
  · exact va_Nw.same rfl hv h1
  · exact va_Nw.same rfl hv h1
section GENV
variable {base : Nat} {sp : Nat → Nat} {D : va_G} {cI cL : ClassId} {cQ : Nat → ClassId}
theorem gEnv.move {s U : State} {locs : List Loc} (h : gEnv base sp D cI cL cQ s) (hW : s.WarmedH U.vm) (hS : va_S (gA base) s.heap U.heap locs) : gEnv base sp D cI cL cQ U := by
  obtain ⟨h1, h0, h2, h3, h4, h5, v, h6, h7⟩ := h
  exact ⟨va_K.moved hW.alike h1, ⟨va_AO.moved hW.alike h0.1, va_AO.moved hW.alike h0.2⟩, gnest_warm hW h2, fun q hq => vk_R.warm hW (h3 q hq), (vk_S.moved hW.alike h4).kept hS.2.1, (va_Z.moved hW.alike h5).kept hS.2.1, v, h6, (va_Z.moved hW.alike h7).kept hS.2.1⟩
theorem gEnv.same {U U' : State} (h : gEnv base sp D cI cL cQ U) (hv : U.vm = U'.vm) (hh : U'.heap = U.heap) : gEnv base sp D cI cL cQ U' := by
  obtain ⟨h1, h0, h2, h3, h4, h5, v, h6, h7⟩ := h
  have ha : U.vm.Alike U'.vm := by rw [hv]; exact Vm.Alike.refl _
  refine ⟨va_K.moved ha h1, ⟨va_AO.moved ha h0.1, va_AO.moved ha h0.2⟩, gnest_same hv h2, fun q hq => vk_R.same hv.symm (h3 q hq), ?_, ?_, v, h6, ?_⟩
  · rw [hh]; exact vk_S.moved ha h4
  · rw [hh]; exact va_Z.moved ha h5
  · rw [hh]; exact va_Z.moved ha h7
theorem grho_lt {a : Nat} (h : a < 1000000) : grho base sp a = base + a := by simp [grho, h]
/-- a cell written -/
theorem gHd.put {h : GH} {e : GE} {H H1 : Heap} {ws : va_W} {a k : Nat} {c0 c1 : GC} (hH : gHd base sp D cI cL cQ h e H ws) (ha : h a = some c0) (hk : ws[k]? = some (grho base sp a, gcv base sp cI cL cQ c0))
    (hP : va_P D vwCl (ws.set k (grho base sp a, gcv base sp cI cL cQ c1)) H1) (hD : va_D (gA base) (ws.set k (grho base sp a, gcv base sp cI cL cQ c1))) (hz : H1.size = H.size) :
    gHd base sp D cI cL cQ (gup h a c1) e H1 (ws.set k (grho base sp a, gcv base sp cI cL cQ c1)) := by
  obtain ⟨h1, -, -, h4, h5⟩ := hH
  have hkl : k < ws.length := (List.getElem?_eq_some_iff.mp hk).1
  refine ⟨fun b c hb => ?_, hP, hD, ?_, h5⟩
  · by_cases hba : b = a
    · subst hba
      rw [gup_same] at hb
      cases hb
      exact ⟨(h1 b c0 ha).1, k, List.getElem?_set_self hkl⟩
    · rw [gup_ne _ _ hba] at hb
      obtain ⟨hl, k', hk'⟩ := h1 b c hb
      refine ⟨hl, k', ?_⟩
      have hne : k ≠ k' := by
        intro q
        subst q
        have h9 := Option.some.inj (hk.symm.trans hk')
        have h8 : grho base sp a = grho base sp b := congrArg Prod.fst h9
        have hla := (h1 a c0 ha).1
        rw [grho_lt (by omega), grho_lt (by omega)] at h8
        omega
      rw [List.getElem?_set_ne hne]
      exact hk'
  · rcases h4 with h4 | h4
    · exact Or.inl h4
    · exact Or.inr (by rw [hz]; exact h4)
theorem gHd.put0 {h : GH} {n bc bs : Nat} {fl : Bool} {H H1 : Heap} {ws : va_W} {a k : Nat} {c0 c1 : GC} (hH : gHd base sp D cI cL cQ h (n, bc, bs, fl) H ws) (ha : h a = some c0) (hk : ws[k]? = some (grho base sp a, gcv base sp cI cL cQ c0))
    (hP : va_P D vwCl (ws.set k (grho base sp a, gcv base sp cI cL cQ c1)) H1) (hD : va_D (gA base) (ws.set k (grho base sp a, gcv base sp cI cL cQ c1))) :
    gHd base sp D cI cL cQ (gup h a c1) (n, bc, bs, false) H1 (ws.set k (grho base sp a, gcv base sp cI cL cQ c1)) := by
  obtain ⟨h1, -, -, h4, h5⟩ := hH
  have hkl : k < ws.length := (List.getElem?_eq_some_iff.mp hk).1
  refine ⟨fun b c hb => ?_, hP, hD, Or.inl rfl, h5⟩
  by_cases hba : b = a
  · subst hba
    rw [gup_same] at hb
    cases hb
    exact ⟨(h1 b c0 ha).1, k, List.getElem?_set_self hkl⟩
  · rw [gup_ne _ _ hba] at hb
    obtain ⟨hl, k', hk'⟩ := h1 b c hb
    refine ⟨hl, k', ?_⟩
    have hne : k ≠ k' := by
      intro q
      subst q
      have h9 := Option.some.inj (hk.symm.trans hk')
      have h8 : grho base sp a = grho base sp b := congrArg Prod.fst h9
      have hla : a < n := (h1 a c0 ha).1
      have hlb : b < n := hl
      have h5' : n ≤ 1000000 := h5
      rw [grho_lt (by omega), grho_lt (by omega)] at h8
      omega
    rw [List.getElem?_set_ne hne]
    exact hk'
/-- a cell made -/
theorem gHd.new {h : GH} {n bc bs m : Nat} {H H1 : Heap} {ws : va_W} {c1 : GC} (hH : gHd base sp D cI cL cQ h (n, bc + 1, bs + m, true) H ws) (hn : n + 1 ≤ 1000000)
    (hP : va_P D vwCl (ws ++ [(H.size, gcv base sp cI cL cQ c1)]) H1) (hD : va_D (gA base) (ws ++ [(H.size, gcv base sp cI cL cQ c1)])) (hz : H1.size = H.size + 1) :
    gHd base sp D cI cL cQ (gup h n c1) (n + 1, bc, bs, true) H1 (ws ++ [(H.size, gcv base sp cI cL cQ c1)]) ∧ grho base sp n = H.size := by
  obtain ⟨h1, -, -, h4, h5⟩ := hH
  have hs : H.size = base + n := by
    rcases h4 with h4 | h4
    · cases h4
    · exact h4
  have hr : grho base sp n = H.size := by rw [grho_lt (by omega), hs]
  refine ⟨⟨fun b c hb => ?_, hP, hD, Or.inr (by rw [hz, hs]; rfl), hn⟩, hr⟩
  by_cases hba : b = n
  · subst hba
    rw [gup_same] at hb
    cases hb
    exact ⟨Nat.lt_succ_self _, ws.length, by rw [hr]; simp⟩
  · rw [gup_ne _ _ hba] at hb
    obtain ⟨hl, k', hk'⟩ := h1 b c hb
    refine ⟨Nat.lt_succ_of_lt hl, k', ?_⟩
    rw [List.getElem?_append_left (List.getElem?_eq_some_iff.mp hk').1]
    exact hk'
end GENV
end
section
/-! ===== the rules hold of the real machine ===== -/
def gCx (base : Nat) (sp : Nat → Nat) (D : va_G) (cI cL : ClassId) (cQ : Nat → ClassId) (p : Program) (s : State) (m : MethodId) (args : Array Value) (meth : Method) (c : Code) (own : String) (cc : ByteArray) (ini : Bool) (nL : Nat) : Prop :=
  p.tables.exec = Jvm.exec ∧ c.code = cc ∧ c.maxLocals = nL ∧ s.vm.findClass own = some m.cls ∧ (∀ w ∈ gTs, w.before args s = true) ∧ gEnv base sp D cI cL cQ s ∧ base ≤ s.heap.size ∧ (ini = true → meth.name = "<init>") ∧ meth.locks = false
def gJW (base : Nat) (sp : Nat → Nat) (D : va_G) (cI cL : ClassId) (cQ : Nat → ClassId) (p : Program) (l : Launch) (e : Env) (R : Room) (s : State) (m : MethodId) (args : Array Value) (below : List Frame) (meth : Method) (c : Code) (nL : Nat) (Q : State → Prop) : JT := fun pc ls st h ge =>
  ∀ (H : Heap) (locs : List Loc) (cells slots : Nat) (arr : Array Slot) (ws : va_W), gHd base sp D cI cL cQ h ge H ws → va_S (gA base) s.heap H locs → gLr base sp nL ls arr → cells + ge.2.1 ≤ R.cells → slots + ge.2.2.1 ≤ R.slots →
    W p l e R s m args below meth c H locs cells slots Q (F0 m pc arr (st.map (gmv base sp)))
theorem gu_good (C : String) (T : u_T) (N : Nat) : ∀ w ∈ u_ws C T N, goodWord w = true := by
  intro w hw
  obtain ⟨k, -, rfl⟩ := List.mem_map.mp hw
  unfold u_lay
  split <;> rfl
theorem gcl_all {t : Nat} {C : String} {T : u_T} {N : Nat} (h : vwCl[t]? = some (C, T, N)) : (∀ w ∈ u_ws C T N, w ∈ gTs) ∧ ∃ ty : Nat → FieldType, (∀ k, k < N → parseFieldDescriptor (T k).2.2.1 = some (ty k)) ∧ ∀ a, a < N → ∀ b, b < N → a ≠ b → (T a).2.1 ≠ (T b).2.1 := by
  have key : (∀ w ∈ u_ws C T N, w ∈ lw_tbl) ∧ ∃ ty : Nat → FieldType, (∀ k, k < N → parseFieldDescriptor (T k).2.2.1 = some (ty k)) ∧ ∀ a, a < N → ∀ b, b < N → a ≠ b → (T a).2.1 ≠ (T b).2.1 := by
    match t, h with
    | 0, h => cases h; exact ⟨inX0, tyX0, tyX0_ok, nmX0⟩
    | 1, h => cases h; exact ⟨inX1, tyX1, tyX1_ok, nmX1⟩
    | 2, h => cases h; exact ⟨inX2, tyX2, tyX2_ok, nmX2⟩
    | 3, h => cases h; exact ⟨inX3, tyX3, tyX3_ok, nmX3⟩
    | 4, h => cases h; exact ⟨inX4, tyX4, tyX4_ok, nmX4⟩
    | 5, h => cases h; exact ⟨inX5, tyX5, tyX5_ok, nmX5⟩
    | 6, h => cases h; exact ⟨inX6, tyX6, tyX6_ok, nmX6⟩
    | t + 7, h => simp [vwCl] at h
  exact ⟨fun w hw => gT_mem (key.1 w hw) (gu_good C T N w hw), key.2⟩
section GRU
variable {base : Nat} {sp : Nat → Nat} {D : va_G} {cI cL : ClassId} {cQ : Nat → ClassId}
variable {p : Program} {l : Launch} {e : Env} {R : Room} {s : State} {m : MethodId} {args : Array Value} {below : List Frame} {meth : Method} {c : Code} {Q : State → Prop}
variable {own : String} {cc : ByteArray} {ret : Option FieldType} {ini : Bool} {call : CT} {P : RT} {nL : Nat}
set_option maxHeartbeats 4000000 in
theorem gs_0 (X : gCx base sp D cI cL cQ p s m args meth c own cc ini nL) : gRule own cc ret ini call (gJW base sp D cI cL cQ p l e R s m args below meth c nL Q) P 0 := by
  intro pc i nx ls st ls' st' h ge hd hn hp hJ H locs cells slots arr ws hH hS hL hc hs
  obtain ⟨hx, hb, -⟩ := X
  subst hn
  have K : ∀ arr', gLr base sp nL ls' arr' → W p l e R s m args below meth c H locs cells slots Q (F0 m (pc + gsz i) arr' (st'.map (gmv base sp))) := fun arr' hL' => hJ H locs cells slots arr' ws hH hS hL' hc hs
  have hln : ls.length = nL := hL.1
  cases i with
  | iload n =>
    obtain ⟨v, hv, rfl, rfl⟩ := gpush_spec (show gpush (gldI ls n) ls st = some (ls', st') from hp)
    obtain ⟨x, rfl, hx1⟩ := gldI_spec hv
    exact lv_iload hx hb hd (hL.2.2.2 _ _ hx1) (K arr hL)
  | iload_n n =>
    obtain ⟨v, hv, rfl, rfl⟩ := gpush_spec (show gpush (gldI ls n.val) ls st = some (ls', st') from hp)
    obtain ⟨x, rfl, hx1⟩ := gldI_spec hv
    exact lv_iload_n hx hb hd rfl (hL.2.2.2 _ _ hx1) (K arr hL)
  | lload n =>
    obtain ⟨v, hv, rfl, rfl⟩ := gpush_spec (show gpush (gldL ls n) ls st = some (ls', st') from hp)
    obtain ⟨x, rfl, hx1⟩ := gldL_spec hv
    exact lv_lload hx hb hd (hL.2.2.2 _ _ hx1) (K arr hL)
  | lload_n n =>
    obtain ⟨v, hv, rfl, rfl⟩ := gpush_spec (show gpush (gldL ls n.val) ls st = some (ls', st') from hp)
    obtain ⟨x, rfl, hx1⟩ := gldL_spec hv
    exact lv_lload_n hx hb hd rfl (hL.2.2.2 _ _ hx1) (K arr hL)
  | aload n =>
    obtain ⟨v, hv, rfl, rfl⟩ := gpush_spec (show gpush (gldA ls n) ls st = some (ls', st') from hp)
    obtain ⟨x, rfl, hx1⟩ := gldA_spec hv
    exact lv_aload hx hb hd (hL.2.2.2 _ _ hx1) (K arr hL)
  | aload_n n =>
    obtain ⟨v, hv, rfl, rfl⟩ := gpush_spec (show gpush (gldA ls n.val) ls st = some (ls', st') from hp)
    obtain ⟨x, rfl, hx1⟩ := gldA_spec hv
    exact lv_aload_n hx hb hd rfl (hL.2.2.2 _ _ hx1) (K arr hL)
  | istore n =>
    simp only [gps] at hp
    split at hp
    · obtain ⟨h1, h2, rfl, rfl⟩ := gst1_spec hp
      exact lv_istore hx hb hd hL.has (hln ▸ h1) rfl (fun arr' hL' => K arr' (hL.st1 h1 h2 hL'))
    · cases hp
  | istore_n n =>
    simp only [gps] at hp
    split at hp
    · obtain ⟨h1, h2, rfl, rfl⟩ := gst1_spec hp
      exact lv_istore_n hx hb hd rfl hL.has (hln ▸ h1) rfl (fun arr' hL' => K arr' (hL.st1 h1 h2 hL'))
    · cases hp
  | astore n =>
    simp only [gps] at hp
    split at hp
    · obtain ⟨h1, h2, rfl, rfl⟩ := gst1_spec hp
      exact lv_astore hx hb hd hL.has (hln ▸ h1) rfl (fun arr' hL' => K arr' (hL.st1 h1 h2 hL'))
    · cases hp
  | astore_n n =>
    simp only [gps] at hp
    split at hp
    · obtain ⟨h1, h2, rfl, rfl⟩ := gst1_spec hp
      exact lv_astore_n hx hb hd rfl hL.has (hln ▸ h1) rfl (fun arr' hL' => K arr' (hL.st1 h1 h2 hL'))
    · cases hp
  | lstore n =>
    simp only [gps] at hp
    split at hp
    · obtain ⟨h1, h2, rfl, rfl⟩ := gst2_spec hp
      exact lv_lstore hx hb hd hL.has (hln ▸ h1) rfl (fun arr' hL' => K arr' (hL.st2 h1 h2 hL'))
    · cases hp
  | lstore_n n =>
    simp only [gps] at hp
    split at hp
    · obtain ⟨h1, h2, rfl, rfl⟩ := gst2_spec hp
      exact lv_lstore_n hx hb hd rfl hL.has (hln ▸ h1) rfl (fun arr' hL' => K arr' (hL.st2 h1 h2 hL'))
    · cases hp
  | iadd =>
    simp only [gps] at hp
    split at hp
    · cases hp; exact lv_iadd hx hb hd (K arr hL)
    · cases hp
  | isub =>
    simp only [gps] at hp
    split at hp
    · cases hp; exact lv_isub hx hb hd (K arr hL)
    · cases hp
  | imul =>
    simp only [gps] at hp
    split at hp
    · cases hp; exact lv_imul hx hb hd (K arr hL)
    · cases hp
  | iand =>
    simp only [gps] at hp
    split at hp
    · cases hp; exact lv_iand hx hb hd (K arr hL)
    · cases hp
  | ishr =>
    simp only [gps] at hp
    split at hp
    · cases hp; exact lv_ishr hx hb hd (K arr hL)
    · cases hp
  | ladd =>
    simp only [gps] at hp
    split at hp
    · cases hp; exact lv_ladd hx hb hd (K arr hL)
    · cases hp
  | lmul =>
    simp only [gps] at hp
    split at hp
    · cases hp; exact lv_lmul hx hb hd (K arr hL)
    · cases hp
  | land =>
    simp only [gps] at hp
    split at hp
    · cases hp; exact lv_land hx hb hd (K arr hL)
    · cases hp
  | lor =>
    simp only [gps] at hp
    split at hp
    · cases hp; exact lv_lor hx hb hd (K arr hL)
    · cases hp
  | lshl =>
    simp only [gps] at hp
    split at hp
    · cases hp; exact lv_lshl hx hb hd rfl (K arr hL)
    · cases hp
  | lcmp =>
    simp only [gps] at hp
    split at hp
    · cases hp; exact W.lcmp hx hb hd (K arr hL)
    · cases hp
  | i2l =>
    simp only [gps] at hp
    split at hp
    · cases hp; exact lv_i2l hx hb hd rfl (K arr hL)
    · cases hp
  | l2i =>
    simp only [gps] at hp
    split at hp
    · cases hp; exact lv_l2i hx hb hd rfl (K arr hL)
    · cases hp
  | i2b =>
    simp only [gps] at hp
    split at hp
    · cases hp; exact lv_i2b hx hb hd rfl (K arr hL)
    · cases hp
  | i2c =>
    simp only [gps] at hp
    split at hp
    · cases hp; exact lv_i2c hx hb hd rfl (K arr hL)
    · cases hp
  | dup =>
    simp only [gps] at hp
    split at hp
    · cases hp; exact lv_dup hx hb hd rfl (K arr hL)
    · cases hp; exact lv_dup hx hb hd rfl (K arr hL)
    · cases hp
  | pop =>
    simp only [gps] at hp
    split at hp
    · cases hp; exact lv_pop hx hb hd rfl (K arr hL)
    · cases hp; exact lv_pop hx hb hd rfl (K arr hL)
    · cases hp
  | dup2 =>
    simp only [gps] at hp
    split at hp
    · cases hp; exact lv_dup2_11 hx hb hd rfl rfl (K arr hL)
    · cases hp
  | _ => cases hp
theorem gs_1 (X : gCx base sp D cI cL cQ p s m args meth c own cc ini nL) : gRule own cc ret ini call (gJW base sp D cI cL cQ p l e R s m args below meth c nL Q) P 1 := by
  intro pc i nx v ls st h ge hd hn hp hJ H locs cells slots arr ws hH hS hL hc hs
  obtain ⟨hx, hb, -⟩ := X
  subst hn
  have K : W p l e R s m args below meth c H locs cells slots Q (F0 m (pc + gsz i) arr (.int v :: st.map (gmv base sp))) := hJ H locs cells slots arr ws hH hS hL hc hs
  cases i with
  | iconst n => exact lv_iconst hx hb hd (Option.some.inj hp) K
  | bipush n => exact lv_bipush hx hb hd (Option.some.inj hp) K
  | sipush n => exact lv_sipush hx hb hd (Option.some.inj hp) K
  | _ => cases hp
theorem gs_2 (X : gCx base sp D cI cL cQ p s m args meth c own cc ini nL) : gRule own cc ret ini call (gJW base sp D cI cL cQ p l e R s m args below meth c nL Q) P 2 := by
  intro pc n nx v ls st h ge hd hn hp hJ H locs cells slots arr ws hH hS hL hc hs
  subst hn
  exact lv_lconst X.1 X.2.1 hd hp (hJ H locs cells slots arr ws hH hS hL hc hs)
theorem gs_3 (X : gCx base sp D cI cL cQ p s m args meth c own cc ini nL) : gRule own cc ret ini call (gJW base sp D cI cL cQ p l e R s m args below meth c nL Q) P 3 := by
  intro pc n z nx x v ls ls' st h ge hd hn hl hv hp hJ H locs cells slots arr ws hH hS hL hc hs
  subst hn
  obtain ⟨h1, h2, rfl, -⟩ := gst1_spec hp
  obtain ⟨x', hx', hx1⟩ := gldI_spec hl
  cases hx'
  have hm : ((n, Value.int x) : Nat × Value) ∈ gasc base sp ls := gasc_mem.mpr ⟨.int x, hx1, rfl⟩
  obtain ⟨k, hk⟩ := List.getElem?_of_mem hm
  exact lv_iinc (v := v) X.1 X.2.1 hd hL.has hk hv (hL.1 ▸ h1) rfl (fun arr' hL' => hJ H locs cells slots arr' ws hH hS (hL.st1 h1 h2 hL') hc hs)
theorem gs_4 (X : gCx base sp D cI cL cQ p s m args meth c own cc ini nL) : gRule own cc ret ini call (gJW base sp D cI cL cQ p l e R s m args below meth c nL Q) P 4 := by
  intro pc off tgt ls st h ge hd ht hJ H locs cells slots arr ws hH hS hL hc hs
  exact lv_goto X.1 X.2.1 hd ht (hJ H locs cells slots arr ws hH hS hL hc hs)
theorem gs_5 (X : gCx base sp D cI cL cQ p s m args meth c own cc ini nL) : gRule own cc ret ini call (gJW base sp D cI cL cQ p l e R s m args below meth c nL Q) P 5 := by
  intro pc cd off nx tgt x ls st h ge hd hn ht hJ1 hJ2 H locs cells slots arr ws hH hS hL hc hs
  subst hn
  cases cd with
  | eq => exact lv_if_eq X.1 X.2.1 hd ht (fun q => hJ1 q H locs cells slots arr ws hH hS hL hc hs) (fun q => hJ2 q H locs cells slots arr ws hH hS hL hc hs)
  | ne => exact lv_if_ne X.1 X.2.1 hd ht (fun q => hJ1 q H locs cells slots arr ws hH hS hL hc hs) (fun q => hJ2 q H locs cells slots arr ws hH hS hL hc hs)
  | lt => exact lv_if_lt X.1 X.2.1 hd ht (fun q => hJ1 q H locs cells slots arr ws hH hS hL hc hs) (fun q => hJ2 q H locs cells slots arr ws hH hS hL hc hs)
  | ge => exact lv_if_ge X.1 X.2.1 hd ht (fun q => hJ1 q H locs cells slots arr ws hH hS hL hc hs) (fun q => hJ2 q H locs cells slots arr ws hH hS hL hc hs)
  | gt => exact lv_if_gt X.1 X.2.1 hd ht (fun q => hJ1 q H locs cells slots arr ws hH hS hL hc hs) (fun q => hJ2 q H locs cells slots arr ws hH hS hL hc hs)
  | le => exact lv_if_le X.1 X.2.1 hd ht (fun q => hJ1 q H locs cells slots arr ws hH hS hL hc hs) (fun q => hJ2 q H locs cells slots arr ws hH hS hL hc hs)
theorem gs_6 (X : gCx base sp D cI cL cQ p s m args meth c own cc ini nL) : gRule own cc ret ini call (gJW base sp D cI cL cQ p l e R s m args below meth c nL Q) P 6 := by
  intro pc cd off nx tgt x y ls st h ge hd hn ht hJ1 hJ2 H locs cells slots arr ws hH hS hL hc hs
  subst hn
  cases cd with
  | eq => exact lv_icmp_eq X.1 X.2.1 hd ht (fun q => hJ1 q H locs cells slots arr ws hH hS hL hc hs) (fun q => hJ2 q H locs cells slots arr ws hH hS hL hc hs)
  | ne => exact lv_icmp_ne X.1 X.2.1 hd ht (fun q => hJ1 q H locs cells slots arr ws hH hS hL hc hs) (fun q => hJ2 q H locs cells slots arr ws hH hS hL hc hs)
  | lt => exact lv_icmp_lt X.1 X.2.1 hd ht (fun q => hJ1 q H locs cells slots arr ws hH hS hL hc hs) (fun q => hJ2 q H locs cells slots arr ws hH hS hL hc hs)
  | ge => exact lv_icmp_ge X.1 X.2.1 hd ht (fun q => hJ1 q H locs cells slots arr ws hH hS hL hc hs) (fun q => hJ2 q H locs cells slots arr ws hH hS hL hc hs)
  | gt => exact lv_icmp_gt X.1 X.2.1 hd ht (fun q => hJ1 q H locs cells slots arr ws hH hS hL hc hs) (fun q => hJ2 q H locs cells slots arr ws hH hS hL hc hs)
  | le => exact lv_icmp_le X.1 X.2.1 hd ht (fun q => hJ1 q H locs cells slots arr ws hH hS hL hc hs) (fun q => hJ2 q H locs cells slots arr ws hH hS hL hc hs)
theorem gs_7 (X : gCx base sp D cI cL cQ p s m args meth c own cc ini nL) : gRule own cc ret ini call (gJW base sp D cI cL cQ p l e R s m args below meth c nL Q) P 7 := by
  intro pc idx nx v ls st h ge hd hn hw hJ H locs cells slots arr ws hH hS hL hc hs
  subst hn
  obtain ⟨hx, hb, hml, hown, hts, -⟩ := X
  exact lv_ldc hx hb hown (hts _ (gT_mem hw rfl)) hd (hJ H locs cells slots arr ws hH hS hL hc hs)
theorem gs_8 (X : gCx base sp D cI cL cQ p s m args meth c own cc ini nL) : gRule own cc ret ini call (gJW base sp D cI cL cQ p l e R s m args below meth c nL Q) P 8 := by
  intro pc idx nx v ls st h ge hd hn hw hJ H locs cells slots arr ws hH hS hL hc hs
  subst hn
  obtain ⟨hx, hb, hml, hown, hts, -⟩ := X
  exact lv_ldc2 hx hb hown (hts _ (gT_mem hw rfl)) hd (hJ H locs cells slots arr ws hH hS hL hc hs)
theorem gs_9 (X : gCx base sp D cI cL cQ p s m args meth c own cc ini nL) : gRule own cc ret ini call (gJW base sp D cI cL cQ p l e R s m args below meth c nL Q) P 9 := by
  intro pc idx nx i tx ls st h ge hd hn hw hJ H locs cells slots arr ws hH hS hL hc hs
  subst hn
  obtain ⟨hx, hb, hml, hown, hts, hE, -⟩ := X
  have hR := hE.2.2.2.1 _ hw
  refine va_ldcS hx hb hown hR hd ?_
  have hK := hJ H locs cells slots arr ws hH hS hL hc hs
  have e1 : gmv base sp (.ref (1000000 + i)) = .ref (sp i) := by
    show Value.ref (grho base sp (1000000 + i)) = _
    unfold grho
    rw [if_neg (by omega), Nat.add_sub_cancel_left]
  rw [List.map_cons, e1] at hK
  exact hK
theorem gs_10 (X : gCx base sp D cI cL cQ p s m args meth c own cc ini nL) : gRule own cc ret ini call (gJW base sp D cI cL cQ p l e R s m args below meth c nL Q) P 10 := by
  intro pc dflt lo hi offs len tgt x ls st h ge hd hw ht hJ H locs cells slots arr ws hH hS hL hc hs
  exact lv_tableOut X.1 X.2.1 hd hw ht (hJ H locs cells slots arr ws hH hS hL hc hs)
theorem gs_11 (X : gCx base sp D cI cL cQ p s m args meth c own cc ini nL) : gRule own cc ret ini call (gJW base sp D cI cL cQ p l e R s m args below meth c nL Q) P 11 := by
  intro pc dflt lo hi offs off len tgt x ls st h ge hd h1 h2 ho ht hJ H locs cells slots arr ws hH hS hL hc hs
  exact lv_tableIn X.1 X.2.1 hd h1 h2 ho ht (hJ H locs cells slots arr ws hH hS hL hc hs)
theorem gs_12 (X : gCx base sp D cI cL cQ p s m args meth c own cc ini nL) : gRule own cc ret ini call (gJW base sp D cI cL cQ p l e R s m args below meth c nL Q) P 12 := by
  intro pc nx x y ls st h ge hd hn hy hJ H locs cells slots arr ws hH hS hL hc hs
  subst hn
  exact lv_idiv X.1 X.2.1 hd hy (hJ H locs cells slots arr ws hH hS hL hc hs)
theorem gs_13 (X : gCx base sp D cI cL cQ p s m args meth c own cc ini nL) : gRule own cc ret ini call (gJW base sp D cI cL cQ p l e R s m args below meth c nL Q) P 13 := by
  intro pc nx x y ls st h ge hd hn hy hJ H locs cells slots arr ws hH hS hL hc hs
  subst hn
  exact lv_irem X.1 X.2.1 hd hy (hJ H locs cells slots arr ws hH hS hL hc hs)
theorem gs_14 (X : gCx base sp D cI cL cQ p s m args meth c own cc ini nL) : gRule own cc ret ini call (gJW base sp D cI cL cQ p l e R s m args below meth c nL Q) P 14 := by
  intro pc idx nx t j a fs v ls st h ge hd hn hF ha hv hJ H locs cells slots arr ws hH hS hL hc hs
  subst hn
  obtain ⟨hx, hb, hml, hown, hts, hE, -⟩ := X
  obtain ⟨C, T, N, hcl, hj, hw⟩ := hF
  obtain ⟨-, k, hk⟩ := hH.1 a _ ha
  exact va_get (D := D) (ci := t) (C := C) (T := T) (N := N) (v := gmv base sp v) hx hb hts (gcl_all hcl).1 hown hE.1 hH.2.1 k hk hcl j hj (hts _ (gT_mem hw rfl)) (fun _ h9 => h9) (by rw [List.getElem?_map, hv]; rfl) hd (hJ H locs cells slots arr ws hH hS hL hc hs)
end GRU
end
section
/-! ===== writes, makings ===== -/
theorem gnf {base : Nat} {sp : Nat → Nat} {ty : FieldType} {v : Value} (h1 : narrow ty v = v) (h2 : fits ty v = true) : narrow ty (gmv base sp v) = gmv base sp v ∧ fits ty (gmv base sp v) = true := by
  cases v with
  | ref a => cases ty <;> first | exact ⟨rfl, rfl⟩ | cases h2
  | _ => exact ⟨h1, h2⟩
theorem gmap_noref {base : Nat} {sp : Nat → Nat} {fs : List Value} (h : ∀ v ∈ fs, ∀ a, v ≠ .ref a) : fs.map (gmv base sp) = fs := by
  induction fs with
  | nil => rfl
  | cons v r ih =>
    rw [List.map_cons, ih (fun w hw => h w (List.mem_cons_of_mem _ hw))]
    have h1 := h v List.mem_cons_self
    cases v with
    | ref a => exact absurd rfl (h1 a)
    | _ => rfl
section GRV
variable {base : Nat} {sp : Nat → Nat} {D : va_G} {cI cL : ClassId} {cQ : Nat → ClassId}
variable {p : Program} {l : Launch} {e : Env} {R : Room} {s : State} {m : MethodId} {args : Array Value} {below : List Frame} {meth : Method} {c : Code} {Q : State → Prop}
variable {own : String} {cc : ByteArray} {ret : Option FieldType} {ini : Bool} {call : CT} {P : RT} {nL : Nat}
theorem gcv_set (t j : Nat) (fs : List Value) (v : Value) : gcv base sp cI cL cQ (gob t (fs.set j v)) = .inr (t, (fs.map (gmv base sp)).set j (gmv base sp v)) := by
  show Sum.inr (t, (fs.set j v).map (gmv base sp)) = _
  rw [List.map_set]
theorem gs_15 (X : gCx base sp D cI cL cQ p s m args meth c own cc ini nL) : gRule own cc ret ini call (gJW base sp D cI cL cQ p l e R s m args below meth c nL Q) P 15 := by
  intro pc idx nx t j a fs v ls st h ge hd hn hF hFS ha hl hJ H locs cells slots arr ws hH hS hL hc hs
  subst hn
  obtain ⟨hx, hb, hml, hown, hts, hE, -⟩ := X
  obtain ⟨C, T, N, hcl, hj, hw⟩ := hF
  obtain ⟨C', T', N', ty, hcl', hfin, hpd, hnar, hfit⟩ := hFS
  cases hcl.symm.trans hcl'
  obtain ⟨hin, ty0, hty, hnm⟩ := gcl_all hcl
  obtain ⟨hn1, hf1⟩ := gnf (base := base) (sp := sp) hnar hfit
  obtain ⟨-, k, hk⟩ := hH.1 a _ ha
  have hap := va_apart (own := own) hts hin ty0 hty hnm hE.1 hcl
  obtain ⟨r, h1, cell, q1, q2, q3, q4⟩ := hH.2.1 k _ hk
  have hr : r = (C, T, N) := Option.some.inj (h1.symm.trans hcl)
  subst hr
  obtain ⟨hSl, hfc, kC, hkC, hkind⟩ := hE.1.1 t _ hcl
  obtain ⟨cf, kf, fi, f, hi, hsl⟩ := hSl j hj
  have hlay := hts _ (hin _ (u_in_lay hj))
  unfold u_lay at hlay
  rw [if_neg (by rw [hfin]; decide)] at hlay
  have hst := (u_facts hfc hkC (u_lays hts hin hj) hi).1
  have h6 := u_store hfc hkC hkind hlay hi hpd hn1 hf1
  refine W.putK hx hb (f := f) (v := gmv base sp v) ⟨hown, hts _ (gT_mem hw rfl), ⟨_, _, _, hi⟩, hst⟩ (by rw [q2]; exact h6) q1 q3 (by rw [hsl]; exact k2_hasslot (q4 j hj)) rfl rfl hd fun H' e1 e2 e3 => ?_
  rw [hsl] at e1 ⊢
  have hA := hH.2.2.1.2 k _ hk
  refine hJ H' _ cells slots arr _ (gHd.put (c1 := gob t (fs.set j v)) hH ha hk ?_ (hH.2.2.1.set hk) e2) (hS.put e2 e3 hA) hL hc hs
  rw [gcv_set]
  exact hH.2.1.set hH.2.2.1 hk ⟨_, hcl, t_OB.to (V := updV (vp_V (fs.map (gmv base sp))) j (gmv base sp v)) ⟨_, e1, q2, q3, t_set q4 hap hj _⟩ (fun i _ => vp_updV_set (by rw [List.length_map]; exact hl) _ i)⟩ e3
theorem gs_16 (X : gCx base sp D cI cL cQ p s m args meth c own cc ini nL) : gRule own cc ret ini call (gJW base sp D cI cL cQ p l e R s m args below meth c nL Q) P 16 := by
  intro pc idx nx t j a fs v ls st h ge hd hn hF hini hFS ha hl hJ H locs cells slots arr ws hH hS hL hc hs
  subst hn
  obtain ⟨hx, hb, hml, hown, hts, hE, -, hin2, -⟩ := X
  obtain ⟨C, T, N, hcl, hj, hw⟩ := hF
  obtain ⟨C', T', N', ty, hcl', hfin, hdecl, hpd, hnar, hfit⟩ := hFS
  cases hcl.symm.trans hcl'
  obtain ⟨hin, ty0, hty, hnm⟩ := gcl_all hcl
  obtain ⟨hn1, hf1⟩ := gnf (base := base) (sp := sp) hnar hfit
  obtain ⟨-, k, hk⟩ := hH.1 a _ ha
  have hap := va_apart (own := own) hts hin ty0 hty hnm hE.1 hcl
  obtain ⟨r, h1, cell, q1, q2, q3, q4⟩ := hH.2.1 k _ hk
  have hr : r = (C, T, N) := Option.some.inj (h1.symm.trans hcl)
  subst hr
  obtain ⟨hSl, hfc, kC, hkC, hkind⟩ := hE.1.1 t _ hcl
  obtain ⟨cf, kf, fi, f, hi, hsl⟩ := hSl j hj
  have hlay := hts _ (hin _ (u_in_lay hj))
  unfold u_lay at hlay
  rw [if_pos hfin] at hlay
  have hst := (u_facts hfc hkC (u_lays hts hin hj) hi).1
  have hcf : m.cls = cf := by
    obtain ⟨_, _, c', _, _, _, -, -, hf', -, -, -, hown2, -⟩ := Cond.laysFinal_spec hlay
    have e1 : c' = cf := by have := hi.symm.trans hf'; simp at this; exact this.1.symm
    rw [hdecl] at hown2
    rw [← e1]; exact Option.some.inj (hown.symm.trans hown2)
  have h6 := u_fits hfc hkC hkind (Or.inr hlay) hi hpd hn1 hf1
  refine W.putFinK hx hb (v := gmv base sp v) hown (hts _ (gT_mem hw rfl)) hi hst hcf (hin2 hini) (by rw [q2]; exact h6) q1 q3 (by rw [hsl]; exact k2_hasslot (q4 j hj)) rfl rfl hd fun H' e1 e2 e3 => ?_
  rw [hsl] at e1 ⊢
  have hA := hH.2.2.1.2 k _ hk
  refine hJ H' _ cells slots arr _ (gHd.put (c1 := gob t (fs.set j v)) hH ha hk ?_ (hH.2.2.1.set hk) e2) (hS.put e2 e3 hA) hL hc hs
  rw [gcv_set]
  exact hH.2.1.set hH.2.2.1 hk ⟨_, hcl, t_OB.to (V := updV (vp_V (fs.map (gmv base sp))) j (gmv base sp v)) ⟨_, e1, q2, q3, t_set q4 hap hj _⟩ (fun i _ => vp_updV_set (by rw [List.length_map]; exact hl) _ i)⟩ e3
theorem gs_17 (X : gCx base sp D cI cL cQ p s m args meth c own cc ini nL) : gRule own cc ret ini call (gJW base sp D cI cL cQ p l e R s m args below meth c nL Q) P 17 := by
  intro pc nx n a f i ls st h ge hd hn ha hv hJ H locs cells slots arr ws hH hS hL hc hs
  subst hn
  obtain ⟨hx, hb, hml, hown, hts, hE, -⟩ := X
  obtain ⟨-, k, hk⟩ := hH.1 a _ ha
  exact va_iald hx hb hE.1 hH.2.1 k 0 hk rfl hv hd (hJ H locs cells slots arr ws hH hS hL hc hs)
theorem gs_18 (X : gCx base sp D cI cL cQ p s m args meth c own cc ini nL) : gRule own cc ret ini call (gJW base sp D cI cL cQ p l e R s m args below meth c nL Q) P 18 := by
  intro pc nx n a f i x ls st h ge hd hn ha hv hJ H locs cells slots arr ws hH hS hL hc hs
  subst hn
  obtain ⟨hx, hb, hml, hown, hts, hE, -⟩ := X
  obtain ⟨-, k, hk⟩ := hH.1 a _ ha
  refine W.iast hx hb (hH.2.1 k _ hk) ((hE.1.2 0 _ rfl).1 n (fun j => .int (f j))) (fun q => by cases q) (by show ¬ (i < 0 ∨ (arrV _ _ _).slots.size ≤ _); rw [arrV_size]; exact hv) rfl rfl hd fun H1 e1 z oq => ?_
  have hA := hH.2.2.1.2 k _ hk
  refine hJ H1 _ cells slots arr _ (gHd.put (c1 := gia n (upd f i.toNatClampNeg x)) hH ha hk (hH.2.1.set hH.2.2.1 hk ?_ oq) (hH.2.2.1.set hk) z) (hS.put z oq hA) hL hc hs
  show H1[grho base sp a]? = some (vp_cell cI (n, .inl (upd f i.toNatClampNeg x)))
  rw [e1]
  show some ((arrV cI n (fun j => .int (f j))).setSlot _ _) = _
  rw [vp_cell_i, arrV_store]
  congr 2
  funext q
  by_cases hq : q = i.toNatClampNeg
  · simp [updV, upd, hq]
  · simp [updV, upd, hq]
theorem gs_19 (X : gCx base sp D cI cL cQ p s m args meth c own cc ini nL) : gRule own cc ret ini call (gJW base sp D cI cL cQ p l e R s m args below meth c nL Q) P 19 := by
  intro pc nx n a f i ls st h ge hd hn ha hv hJ H locs cells slots arr ws hH hS hL hc hs
  subst hn
  obtain ⟨hx, hb, hml, hown, hts, hE, -⟩ := X
  obtain ⟨-, k, hk⟩ := hH.1 a _ ha
  exact va_lald hx hb hE.1 hH.2.1 k 1 hk rfl hv hd (hJ H locs cells slots arr ws hH hS hL hc hs)
theorem gs_20 (X : gCx base sp D cI cL cQ p s m args meth c own cc ini nL) : gRule own cc ret ini call (gJW base sp D cI cL cQ p l e R s m args below meth c nL Q) P 20 := by
  intro pc nx n a f i x ls st h ge hd hn ha hv hJ H locs cells slots arr ws hH hS hL hc hs
  subst hn
  obtain ⟨hx, hb, hml, hown, hts, hE, -⟩ := X
  obtain ⟨-, k, hk⟩ := hH.1 a _ ha
  refine W.last hx hb (hH.2.1 k _ hk) ((hE.1.2 1 _ rfl).1 n (fun j => .long (f j))) (fun q => by cases q) (by show ¬ (i < 0 ∨ (arrV _ _ _).slots.size ≤ _); rw [arrV_size]; exact hv) rfl rfl hd fun H1 e1 z oq => ?_
  have hA := hH.2.2.1.2 k _ hk
  refine hJ H1 _ cells slots arr _ (gHd.put (c1 := gla n (vp_updL f i.toNatClampNeg x)) hH ha hk (hH.2.1.set hH.2.2.1 hk ?_ oq) (hH.2.2.1.set hk) z) (hS.put z oq hA) hL hc hs
  show H1[grho base sp a]? = some (vp_cell cL (n, .inr (.inl (vp_updL f i.toNatClampNeg x))))
  rw [e1]
  show some ((arrV cL n (fun j => .long (f j))).setSlot _ _) = _
  rw [vp_cell_l, arrV_store]
  congr 2
  funext q
  by_cases hq : q = i.toNatClampNeg
  · simp [updV, vp_updL, hq]
  · simp [updV, vp_updL, hq]
theorem gva_rf (r : Option Nat) : gmv base sp (va_rf r) = va_rf (r.map (grho base sp)) := by cases r <;> rfl
theorem gs_21 (X : gCx base sp D cI cL cQ p s m args meth c own cc ini nL) : gRule own cc ret ini call (gJW base sp D cI cL cQ p l e R s m args below meth c nL Q) P 21 := by
  intro pc nx t n a f i ls st h ge hd hn ha hv ht hJ H locs cells slots arr ws hH hS hL hc hs
  subst hn
  obtain ⟨hx, hb, hml, hown, hts, hE, -⟩ := X
  obtain ⟨-, k, hk⟩ := hH.1 a _ ha
  have hK := hJ H locs cells slots arr ws hH hS hL hc hs
  rw [List.map_cons, gva_rf] at hK
  rcases ht with rfl | rfl
  · exact va_aldq hx hb hE.1 hH.2.1 k 2 hk rfl hv hd hK
  · exact va_aldq hx hb hE.1 hH.2.1 k 3 hk rfl hv hd hK
theorem gs_22 (X : gCx base sp D cI cL cQ p s m args meth c own cc ini nL) : gRule own cc ret ini call (gJW base sp D cI cL cQ p l e R s m args below meth c nL Q) P 22 := by
  intro pc nx t n a v vs f i ls st h ge hd hn ha hv hin ht hJ H locs cells slots arr ws hH hS hL hc hs
  subst hn
  obtain ⟨hx, hb, hml, hown, hts, hE, -⟩ := X
  obtain ⟨-, k, hk⟩ := hH.1 a _ ha
  obtain ⟨-, kv, hkv⟩ := hH.1 v _ hv
  have hlt : i.toNatClampNeg < n := Nat.not_le.mp fun q => hin (Or.inr q)
  have h0 : ¬ i < 0 := fun q => hin (Or.inl q)
  obtain ⟨r, hr, cellV, g1, g2, g3, -⟩ := hH.2.1 kv _ hkv
  have hcls := (hE.1.1 t r hr).2
  have hty : ∃ t0 : Nat, (gtys cI cL cQ)[t0]? = some (cQ t, .object r.1) := by
    rcases ht with rfl | rfl
    · exact ⟨2, by cases hr; rfl⟩
    · exact ⟨3, by cases hr; rfl⟩
  obtain ⟨t0, ht0⟩ := hty
  obtain ⟨kA, comp, k1, k2, k3, -⟩ := (hE.1.2 t0 _ ht0).2
  have hcomp : comp = D.1 t := Option.some.inj (k3.symm.trans hcls.1)
  subst hcomp
  obtain ⟨kC, hkC, -⟩ := hcls.2
  refine W.aast hx hb (hH.2.1 k _ hk) (fun q h => by cases h) (fun h => by cases h) k1 k2 rfl hkC ⟨h0, by show _ < (arrV _ _ _).slots.size; rw [arrV_size]; exact hlt⟩ g1 (fun q h => by rw [g3] at h; cases h) (by rw [g2]; exact hkC) (by rw [g2]; exact va_assign hcls) rfl rfl hd fun H1 e1 z oq => ?_
  have hA := hH.2.2.1.2 k _ hk
  refine hJ H1 _ cells slots arr _ (gHd.put (c1 := gra t n (va_up f i.toNatClampNeg (some v))) hH ha hk (hH.2.1.set hH.2.2.1 hk ?_ oq) (hH.2.2.1.set hk) z) (hS.put z oq hA) hL hc hs
  show H1[grho base sp a]? = some (vp_cell (cQ t) (n, .inr (.inr (.inr (.inr (fun j => (va_up f i.toNatClampNeg (some v) j).map (grho base sp)))))))
  rw [e1]
  show some ((arrV (cQ t) n (fun j => va_rf ((f j).map (grho base sp)))).setSlot _ _) = _
  rw [vp_cell_q, arrV_store]
  congr 2
  funext q
  by_cases hq : q = i.toNatClampNeg
  · simp [updV, va_up, hq, va_rf]
  · simp [updV, va_up, hq]
theorem gs_23 (X : gCx base sp D cI cL cQ p s m args meth c own cc ini nL) : gRule own cc ret ini call (gJW base sp D cI cL cQ p l e R s m args below meth c nL Q) P 23 := by
  intro pc nx n a cl ls st h ge hd hn ha hl ht hJ H locs cells slots arr ws hH hS hL hc hs
  subst hn
  obtain ⟨hx, hb, hml, hown, hts, hE, -⟩ := X
  obtain ⟨-, k, hk⟩ := hH.1 a _ ha
  have hK := hJ H locs cells slots arr ws hH hS hL hc hs
  rcases cl with x | x | x | x
  · cases hl
  · cases hl; exact va_alen hx hb hE.1 hH.2.1 k 0 hk rfl rfl hd hK
  · cases hl; exact va_alen hx hb hE.1 hH.2.1 k 1 hk rfl rfl hd hK
  · obtain ⟨t, m2, f⟩ := x
    cases hl
    rcases ht t m2 f rfl with rfl | rfl
    · exact va_alen hx hb hE.1 hH.2.1 k 2 hk rfl rfl hd hK
    · exact va_alen hx hb hE.1 hH.2.1 k 3 hk rfl rfl hd hK
theorem gnewS {H H1 : Heap} {locs : List Loc} (hS : va_S (gA base) s.heap H locs) (z1 : H1.size = H.size + 1) (o1 : ∀ q, q < H.size → H1[q]? = H[q]?) : va_S (gA base) s.heap H1 locs :=
  ⟨Nat.le_trans hS.1 (by omega), fun x h1 h2 => (o1 x (Nat.lt_of_lt_of_le h1 hS.1)).trans (hS.2.1 x h1 h2), hS.2.2⟩
theorem gs_24 (X : gCx base sp D cI cL cQ p s m args meth c own cc ini nL) : gRule own cc ret ini call (gJW base sp D cI cL cQ p l e R s m args below meth c nL Q) P 24 := by
  intro pc idx nx t n bc bs C T N ty fs ls st h hd hn hw1 hw2 hw3 hcl hty hfs hnr hnn hJ H locs cells slots arr ws hH hS hL hc hs
  subst hn
  obtain ⟨hx, hb, hml, hown, hts, hE, hbase, -⟩ := X
  obtain ⟨hin, -⟩ := gcl_all hcl
  have hKn := hE.1.1 t _ hcl
  have hc' : cells + (bc + 1) ≤ R.cells := hc
  have hs' : slots + (bs + N) ≤ R.slots := hs
  refine W.newcK hx hb hown (hts _ (gT_mem hw1 rfl)) (hts _ (gT_mem hw2 rfl)) (hts _ (gT_mem hw3 rfl)) rfl hd (by omega) (by omega) hKn.2.1 rfl fun H1 kC hkC e1 z1 o1 => ?_
  have hkp : ∀ (k : Nat) (x : Nat × va_E), ws[k]? = some x → H1[x.1]? = H[x.1]? := fun k x hx => o1 x.1 ((hH.2.1 k x hx).lt)
  have hfm := gmap_noref (base := base) (sp := sp) hnr
  have hP1 : va_P D vwCl (ws ++ [(H.size, gcv base sp cI cL cQ (gob t fs))]) H1 := by
    refine (hH.2.1.kept hkp).app (fun k x hx => ?_)
    have hz : k < 1 := (List.getElem?_eq_some_iff.mp hx).1
    rw [show k = 0 by omega] at hx
    cases hx
    refine ⟨_, hcl, (u_born ty hts hin hKn hkC e1 hty).to (fun j hj => ?_)⟩
    show _ = vp_V (fs.map (gmv base sp)) j
    rw [hfm]
    exact hfs j hj
  have hN := gHd.new hH hnn hP1 (hH.2.2.1.push hH.2.1 rfl (Nat.le_trans hbase hS.1)) z1
  have hK := hJ H1 locs (cells + 1) (slots + N) arr _ hN.1 (gnewS hS z1 o1) hL (by show cells + 1 + bc ≤ R.cells; omega) (by show slots + N + bs ≤ R.slots; omega)
  have e2 : gmv base sp (.ref n) = .ref H.size := congrArg Value.ref hN.2
  rw [List.map_cons, e2] at hK
  exact hK
theorem gs_25 (X : gCx base sp D cI cL cQ p s m args meth c own cc ini nL) (hA : Cond.arrayClass .int ∈ lw_tbl) : gRule own cc ret ini call (gJW base sp D cI cL cQ p l e R s m args below meth c nL Q) P 25 := by
  intro pc nx n m2 bc bs i ls st h hd hn hi hm hm1 hnn hJ H locs cells slots arr ws hH hS hL hc hs
  subst hn
  obtain ⟨hx, hb, hml, hown, hts, hE, hbase, -⟩ := X
  have hc' : cells + (bc + 1) ≤ R.cells := hc
  have hs' : slots + (bs + m2) ≤ R.slots := hs
  refine va_newaK (atype := .int) hx hb (hts _ (gT_mem hA rfl)) rfl hd rfl hi hm (by show m2 * 4 ≤ _; omega) (by omega) (by omega) rfl fun H1 cA e1 z1 o1 hAr hNm => ?_
  have hcA : cA = cI := Option.some.inj (hNm.symm.trans (hE.1.2 0 _ rfl).2)
  subst hcA
  have hkp : ∀ (k : Nat) (x : Nat × va_E), ws[k]? = some x → H1[x.1]? = H[x.1]? := fun k x hx => o1 x.1 ((hH.2.1 k x hx).lt)
  have hP1 : va_P D vwCl (ws ++ [(H.size, gcv base sp cA cL cQ (gia m2 (fun _ => 0)))]) H1 := by
    refine (hH.2.1.kept hkp).app (fun k x hx => ?_)
    have hz : k < 1 := (List.getElem?_eq_some_iff.mp hx).1
    rw [show k = 0 by omega] at hx
    cases hx
    exact e1
  have hN := gHd.new hH hnn hP1 (hH.2.2.1.push hH.2.1 rfl (Nat.le_trans hbase hS.1)) z1
  have hK := hJ H1 locs (cells + 1) (slots + m2) arr _ hN.1 (gnewS hS z1 o1) hL (by show cells + 1 + bc ≤ R.cells; omega) (by show slots + m2 + bs ≤ R.slots; omega)
  have e2 : gmv base sp (.ref n) = .ref H.size := congrArg Value.ref hN.2
  rw [List.map_cons, e2] at hK
  exact hK
theorem gs_26 (X : gCx base sp D cI cL cQ p s m args meth c own cc ini nL) (hA : Cond.arrayClass .long ∈ lw_tbl) : gRule own cc ret ini call (gJW base sp D cI cL cQ p l e R s m args below meth c nL Q) P 26 := by
  intro pc nx n m2 bc bs i ls st h hd hn hi hm hm1 hnn hJ H locs cells slots arr ws hH hS hL hc hs
  subst hn
  obtain ⟨hx, hb, hml, hown, hts, hE, hbase, -⟩ := X
  have hc' : cells + (bc + 1) ≤ R.cells := hc
  have hs' : slots + (bs + m2) ≤ R.slots := hs
  refine va_newaK (atype := .long) hx hb (hts _ (gT_mem hA rfl)) rfl hd rfl hi hm (by show m2 * 8 ≤ _; omega) (by omega) (by omega) rfl fun H1 cA e1 z1 o1 hAr hNm => ?_
  have hcA : cA = cL := Option.some.inj (hNm.symm.trans (hE.1.2 1 _ rfl).2)
  subst hcA
  have hkp : ∀ (k : Nat) (x : Nat × va_E), ws[k]? = some x → H1[x.1]? = H[x.1]? := fun k x hx => o1 x.1 ((hH.2.1 k x hx).lt)
  have hP1 : va_P D vwCl (ws ++ [(H.size, gcv base sp cI cA cQ (gla m2 (fun _ => 0)))]) H1 := by
    refine (hH.2.1.kept hkp).app (fun k x hx => ?_)
    have hz : k < 1 := (List.getElem?_eq_some_iff.mp hx).1
    rw [show k = 0 by omega] at hx
    cases hx
    exact e1
  have hN := gHd.new hH hnn hP1 (hH.2.2.1.push hH.2.1 rfl (Nat.le_trans hbase hS.1)) z1
  have hK := hJ H1 locs (cells + 1) (slots + m2) arr _ hN.1 (gnewS hS z1 o1) hL (by show cells + 1 + bc ≤ R.cells; omega) (by show slots + m2 + bs ≤ R.slots; omega)
  have e2 : gmv base sp (.ref n) = .ref H.size := congrArg Value.ref hN.2
  rw [List.map_cons, e2] at hK
  exact hK
theorem gs_27 (X : gCx base sp D cI cL cQ p s m args meth c own cc ini nL) : gRule own cc ret ini call (gJW base sp D cI cL cQ p l e R s m args below meth c nL Q) P 27 := by
  intro pc idx nx t n m2 bc bs C T N i ls st h hd hn hw1 hcl ht hi hm hm1 hnn hJ H locs cells slots arr ws hH hS hL hc hs
  subst hn
  obtain ⟨hx, hb, hml, hown, hts, hE, hbase, -⟩ := X
  have hc' : cells + (bc + 1) ≤ R.cells := hc
  have hs' : slots + (bs + m2) ≤ R.slots := hs
  have hAO : (Cond.arrayOver (.object C)).before args s = true ∧ ∃ t0 : Nat, (gtys cI cL cQ)[t0]? = some (cQ t, .object C) := by
    rcases ht with rfl | rfl
    · cases hcl; exact ⟨va_AO.use hE.2.1.1, 2, rfl⟩
    · cases hcl; exact ⟨va_AO.use hE.2.1.2, 3, rfl⟩
  obtain ⟨hao, t0, ht0⟩ := hAO
  subst hm
  refine W.anew hx hb hown (hts _ (gT_mem hw1 rfl)) hao rfl hd rfl hi (by omega) (by omega) (by omega) fun cA kA comp f1 f2 f3 f4 => ?_
  obtain ⟨kA', comp', g1, g2, g3, g4⟩ := (hE.1.2 t0 _ ht0).2
  have hcA : cA = cQ t := Option.some.inj (f1.symm.trans g4)
  subst hcA
  have o1 : ∀ q, q < H.size → (H.push { cls := cQ t, slots := Array.replicate i.toNatClampNeg .null, vm := .none })[q]? = H[q]? := fun q hq => by rw [Array.getElem?_push, if_neg (Nat.ne_of_lt hq)]
  have z1 : (H.push { cls := cQ t, slots := Array.replicate i.toNatClampNeg .null, vm := .none }).size = H.size + 1 := by simp
  have hkp : ∀ (k : Nat) (x : Nat × va_E), ws[k]? = some x → (H.push { cls := cQ t, slots := Array.replicate i.toNatClampNeg .null, vm := .none })[x.1]? = H[x.1]? := fun k x hx => o1 x.1 ((hH.2.1 k x hx).lt)
  have hP1 : va_P D vwCl (ws ++ [(H.size, gcv base sp cI cL cQ (gra t i.toNatClampNeg (fun _ => none)))]) (H.push { cls := cQ t, slots := Array.replicate i.toNatClampNeg .null, vm := .none }) := by
    refine (hH.2.1.kept hkp).app (fun k x hx => ?_)
    have hz : k < 1 := (List.getElem?_eq_some_iff.mp hx).1
    rw [show k = 0 by omega] at hx
    cases hx
    show (H.push _)[H.size]? = some (arrV (cQ t) i.toNatClampNeg (fun _ => .null))
    rw [← arrV_new]
    simp
  have hN := gHd.new hH hnn hP1 (hH.2.2.1.push hH.2.1 rfl (Nat.le_trans hbase hS.1)) z1
  have hK := hJ _ locs (cells + 1) (slots + i.toNatClampNeg) arr _ hN.1 (gnewS hS z1 o1) hL (by show cells + 1 + bc ≤ R.cells; omega) (by show slots + i.toNatClampNeg + bs ≤ R.slots; omega)
  have e2 : gmv base sp (.ref n) = .ref H.size := congrArg Value.ref hN.2
  rw [List.map_cons, e2] at hK
  exact hK
end GRV
end
section
/-! ===== calls, returns, texts; every run of the small machine is one of the real ===== -/
def gPc (base : Nat) (sp : Nat → Nat) (D : va_G) (cI cL : ClassId) (cQ : Nat → ClassId) (vs : List Value) (h : GH) (ge : GE) : Array Value → State → Prop := fun a U =>
  a = (vs.map (gmv base sp)).toArray ∧ base ≤ U.heap.size ∧ (∃ ws, gHd base sp D cI cL cQ h ge U.heap ws) ∧ gEnv base sp D cI cL cQ U
def gQc (base : Nat) (sp : Nat → Nat) (D : va_G) (cI cL : ClassId) (cQ : Nat → ClassId) (P : RT) : Array Value → State → Outcome → State → Prop := fun _ st o t =>
  (∃ (r : Option Value) (h' : GH) (e' : GE), o = .returned (r.map (gmv base sp)) ∧ P r h' e' ∧ ∃ ws, gHd base sp D cI cL cQ h' e' t.heap ws) ∧ va_F (gA base) st t
def grm (d : Nat) (ge : GE) : Room := { frames := d, cells := ge.2.1, slots := ge.2.2.1, locals := 60 * d }
def gMet (base : Nat) (sp : Nat → Nat) (D : va_G) (cI cL : ClassId) (cQ : Nat → ClassId) (l : Launch) (d : Nat) (y : MethodName) (vs : List Value) (h : GH) (ge : GE) (P : RT) : Prop :=
  ∃ (cc : ByteArray) (maxL : Nat) (ret : Option FieldType), gMth y cc maxL ret ∧ Met l y (Cond.code y cc maxL ret :: gTs) (grm d ge) (gPc base sp D cI cL cQ vs h ge) (gQc base sp D cI cL cQ P) ge.2.1 ge.2.2.1 (gA base)
theorem gcat_map (base : Nat) (sp : Nat → Nat) (st : List Value) : ((st.map (gmv base sp)).map fun v => v.category).sum = gcat st := by
  unfold gcat
  rw [List.map_map]
  congr 1
  exact List.map_congr_left (fun v _ => gmv_cat base sp v)
theorem ggood_ws {y : MethodName} {cc : ByteArray} {maxL : Nat} {ret : Option FieldType} (hcode : Cond.code y cc maxL ret ∈ lw_tbl) : GoodIn gTs (Cond.code y cc maxL ret :: gTs) := by
  intro w hw
  rcases List.mem_cons.mp hw with rfl | hw
  · exact ⟨gT_mem hcode rfl, good_of_word rfl⟩
  · exact ⟨hw, good_of_word (List.mem_filter.mp hw).2⟩
theorem ggood_app {a b : List Cond} (h : ∀ w ∈ a, w ∈ lw_tbl ∧ goodWord w = true) (hb : GoodIn gTs b) : GoodIn gTs (a ++ b) := by
  intro w hw
  rcases List.mem_append.mp hw with hw | hw
  · exact ⟨gT_mem (h w hw).1 (h w hw).2, good_of_word (h w hw).2⟩
  · exact hb w hw
section GRW
variable {base : Nat} {sp : Nat → Nat} {D : va_G} {cI cL : ClassId} {cQ : Nat → ClassId}
variable {p : Program} {l : Launch} {e : Env} {R : Room} {s : State} {m : MethodId} {args : Array Value} {below : List Frame} {meth : Method} {c : Code} {Q : State → Prop}
variable {own : String} {cc : ByteArray} {ret : Option FieldType} {ini : Bool} {call : CT} {P : RT} {nL : Nat}
theorem gPc_blind (vs : List Value) (h : GH) (ge : GE) : FrameBlind (gPc base sp D cI cL cQ vs h ge) := fun _ _ _ _ q => ⟨q.1, q.2.1, q.2.2.1, q.2.2.2.same rfl rfl⟩
theorem gPc_pre {vs : List Value} {h : GH} {ge : GE} {H : Heap} {ws : va_W} {locs : List Loc} {mc ms : Nat} (hH : gHd base sp D cI cL cQ h ge H ws) (hS : va_S (gA base) s.heap H locs) (hE : gEnv base sp D cI cL cQ s) (hbase : base ≤ s.heap.size) 
    : ∀ U : State, U.heap = H → s.WarmedH U.vm → gPc base sp D cI cL cQ vs h (ge.1, mc, ms, ge.2.2.2) (vs.map (gmv base sp)).toArray U := by
  intro U hU hW
  subst hU
  exact ⟨rfl, Nat.le_trans hbase hS.1, ⟨ws, hH⟩, hE.move hW hS⟩
/-- behind a call -/
theorem gafter {pc nx mc ms : Nat} {ls : GL} {st st0 : List Value} {ge : GE} {H : Heap} {locs : List Loc} {cells slots : Nat} {arr : Array Slot} {a : Array Value}
    (hr : va_Run p l e R s m args below meth c H locs cells slots mc ms (F0 m pc arr (st0.map (gmv base sp))) (st.map (gmv base sp)) (gQc base sp D cI cL cQ (gaft (gJW base sp D cI cL cQ p l e R s m args below meth c nL Q) nx ls st ge mc ms) a) (gA base))
    (hn : pc + 3 = nx) (hS : va_S (gA base) s.heap H locs) (hL : gLr base sp nL ls arr) (hmc : mc ≤ ge.2.1) (hms : ms ≤ ge.2.2.1) (hc : cells + ge.2.1 ≤ R.cells) (hs : slots + ge.2.2.1 ≤ R.slots) :
    W p l e R s m args below meth c H locs cells slots Q (F0 m pc arr (st0.map (gmv base sp))) := by
  subst hn
  intro T hT Xs
  obtain ⟨v, s0, t, T', L, h0, X', hLf, e1, e2, ⟨⟨r, h', e', hv, hJ, ws', hH'⟩, hF1, hF2⟩, go⟩ := hr T hT Xs
  have hv' : v = r.map (gmv base sp) := Outcome.returned.inj hv
  subst hv'
  rw [h0] at hF1 hF2
  have hH2 : gHd base sp D cI cL cQ h' (e'.1, ge.2.1 - mc, ge.2.2.1 - ms, e'.2.2.2) T'.heap ws' := by
    rw [e1]
    exact hH'
  have hS2 : va_S (gA base) s.heap T'.heap (locs ++ L) := by
    refine ⟨Nat.le_trans hS.1 (by rw [e1]; exact hF1), fun q h1 h2 => ?_, fun q hq => ?_⟩
    · rw [e1, hF2 q (Nat.lt_of_lt_of_le h1 hS.1) h2]
      exact hS.2.1 q h1 h2
    · rcases List.mem_append.mp hq with h1 | h1
      · exact hS.2.2 q h1
      · exact hLf q h1
  obtain ⟨t2, a1, b1⟩ := hJ T'.heap (locs ++ L) (cells + mc) (slots + ms) arr ws' hH2 hS2 hL (by show cells + mc + (ge.2.1 - mc) ≤ _; omega) (by show slots + ms + (ge.2.2.1 - ms) ≤ _; omega) T' rfl X'
  refine ⟨t2, go t2 ?_, b1⟩
  have hst : (r.toList ++ st).map (gmv base sp) = (r.map (gmv base sp)).toList ++ st.map (gmv base sp) := by cases r <;> rfl
  rw [hst] at a1
  exact a1
theorem gs_28 {d : Nat} (X : gCx base sp D cI cL cQ p s m args meth c own cc ini nL) (hfr : d + 1 ≤ R.frames) (hlo : 60 * (d + 1) ≤ R.locals) (hcall : ∀ y vs h ge P, call y vs h ge P → gMet base sp D cI cL cQ l d y vs h ge P) : gRule own cc ret ini call (gJW base sp D cI cL cQ p l e R s m args below meth c nL Q) P 28 := by
  intro pc idx nx t a mc ms fs y As ls st st0 h ge hd hn hM ha ht hcat hst hmc hms hK H locs cells slots arr ws hH hS hL hc hs
  obtain ⟨hx, hb, hml, hown, hts, hE, hbase, -⟩ := X
  obtain ⟨cc', maxL, ret', ⟨hcode, hmx, -, -⟩, hMet⟩ := hcall _ _ _ _ _ hK
  obtain ⟨w1, w2, w3, w4, n1, n2, n3⟩ := hM
  obtain ⟨-, k, hk⟩ := hH.1 a _ ha
  subst hst
  have hgood : GoodIn gTs (wsV own idx y.cls y (Cond.code y cc' maxL ret' :: gTs)) := ggood_app (fun w hw => by
    simp only [List.mem_cons, List.not_mem_nil, or_false] at hw
    rcases hw with rfl | rfl | rfl | rfl
    · exact ⟨w1, rfl⟩
    · exact ⟨w2, rfl⟩
    · exact ⟨w3, rfl⟩
    · exact ⟨w4, rfl⟩) (ggood_ws hcode)
  have hrecv : ∃ cellB : Cell, H[grho base sp a]? = some cellB ∧ cellB.vm.isStatics = false ∧ s.vm.findClass y.cls = some cellB.cls := by
    cases hq : vwCl[t]? with
    | none => rw [hq] at ht; cases ht
    | some q =>
      rw [hq] at ht
      rw [← Option.some.inj ht]
      exact va_recv hE.1 hH.2.1 hq hk
  exact gafter (va_runV (Ts := gTs) (C := y.cls) (As := As.map (gmv base sp)) (b := grho base sp a) (rest := st.map (gmv base sp)) ⟨hx, hb, hml, hown, hts⟩ hMet (cwV As.length hts hgood rfl rfl rfl ⟨rfl, n1, n2, n3⟩ ⟨hfr, by show 8 + (maxL + 11) + 60 * d ≤ _; omega⟩) ⟨gPc_blind _ _ _, hrecv, gPc_pre (vs := .ref a :: As) hH hS hE hbase⟩ rfl (by rw [List.length_map]) hL.2.1 (by show (As.reverse ++ .ref a :: st).map (gmv base sp) = _; rw [List.map_append, List.map_reverse]; rfl) (lv_room (by rw [gcat_map]; exact hcat)) hd ⟨by show cells + mc ≤ _; omega, by show slots + ms ≤ _; omega⟩) hn hS hL hmc hms hc hs
theorem gstr_rho (i : Nat) : grho base sp (1000000 + i) = sp i := by
  unfold grho
  rw [if_neg (by omega), Nat.add_sub_cancel_left]
theorem gs_29 {d : Nat} (X : gCx base sp D cI cL cQ p s m args meth c own cc ini nL) (hfr : d + 1 ≤ R.frames) (hlo : 60 * (d + 1) ≤ R.locals) (hcall : ∀ y vs h ge P, call y vs h ge P → gMet base sp D cI cL cQ l d y vs h ge P) : gRule own cc ret ini call (gJW base sp D cI cL cQ p l e R s m args below meth c nL Q) P 29 := by
  intro pc idx nx i mc ms y As ls st st0 h ge hd hn hM hi hy hcat hst hmc hms hK H locs cells slots arr ws hH hS hL hc hs
  obtain ⟨hx, hb, hml, hown, hts, hE, hbase, -⟩ := X
  obtain ⟨cc', maxL, ret', ⟨hcode, hmx, -, -⟩, hMet⟩ := hcall _ _ _ _ _ hK
  obtain ⟨w1, w2, w3, w4, n1, n2, n3⟩ := hM
  subst hst
  have hgood : GoodIn gTs (wsV own idx y.cls y (Cond.code y cc' maxL ret' :: gTs)) := ggood_app (fun w hw => by
    simp only [List.mem_cons, List.not_mem_nil, or_false] at hw
    rcases hw with rfl | rfl | rfl | rfl
    · exact ⟨w1, rfl⟩
    · exact ⟨w2, rfl⟩
    · exact ⟨w3, rfl⟩
    · exact ⟨w4, rfl⟩) (ggood_ws hcode)
  have hrecv : ∃ cellB : Cell, H[grho base sp (1000000 + i)]? = some cellB ∧ cellB.vm.isStatics = false ∧ s.vm.findClass y.cls = some cellB.cls := by
    rw [gstr_rho, hy]
    exact vk_recv hE.2.2.2.2.1 hi hS
  exact gafter (va_runV (Ts := gTs) (C := y.cls) (As := As.map (gmv base sp)) (b := grho base sp (1000000 + i)) (rest := st.map (gmv base sp)) ⟨hx, hb, hml, hown, hts⟩ hMet (cwV As.length hts hgood rfl rfl rfl ⟨rfl, n1, n2, n3⟩ ⟨hfr, by show 8 + (maxL + 11) + 60 * d ≤ _; omega⟩) ⟨gPc_blind _ _ _, hrecv, gPc_pre (vs := .ref (1000000 + i) :: As) hH hS hE hbase⟩ rfl (by rw [List.length_map]) hL.2.1 (by show (As.reverse ++ .ref (1000000 + i) :: st).map (gmv base sp) = _; rw [List.map_append, List.map_reverse]; rfl) (lv_room (by rw [gcat_map]; exact hcat)) hd ⟨by show cells + mc ≤ _; omega, by show slots + ms ≤ _; omega⟩) hn hS hL hmc hms hc hs
theorem gs_30 {d : Nat} (X : gCx base sp D cI cL cQ p s m args meth c own cc ini nL) (hfr : d + 1 ≤ R.frames) (hlo : 60 * (d + 1) ≤ R.locals) (hcall : ∀ y vs h ge P, call y vs h ge P → gMet base sp D cI cL cQ l d y vs h ge P) : gRule own cc ret ini call (gJW base sp D cI cL cQ p l e R s m args below meth c nL Q) P 30 := by
  intro pc idx nx mc ms y As ls st st0 h ge hd hn hM hcat hst hmc hms hK H locs cells slots arr ws hH hS hL hc hs
  obtain ⟨hx, hb, hml, hown, hts, hE, hbase, -⟩ := X
  obtain ⟨cc', maxL, ret', ⟨hcode, hmx, -, -⟩, hMet⟩ := hcall _ _ _ _ _ hK
  obtain ⟨w1, w2, w3, n1, n2, n3⟩ := hM
  subst hst
  have hgood : GoodIn gTs (va_wsS own idx y (Cond.code y cc' maxL ret' :: gTs)) := ggood_app (fun w hw => by
    simp only [List.mem_cons, List.not_mem_nil, or_false] at hw
    rcases hw with rfl | rfl | rfl
    · exact ⟨w1, rfl⟩
    · exact ⟨w2, rfl⟩
    · exact ⟨w3, rfl⟩) (ggood_ws hcode)
  exact gafter (va_runS (Ts := gTs) (As := As.map (gmv base sp)) (rest := st.map (gmv base sp)) ⟨hx, hb, hml, hown, hts⟩ hMet (va_cwS As.length hts hgood rfl rfl rfl ⟨n1, n2, n3⟩ ⟨hfr, by show 8 + (maxL + 11) + 60 * d ≤ _; omega⟩) ⟨gPc_blind _ _ _, gPc_pre (vs := As) hH hS hE hbase⟩ rfl (by rw [List.length_map]) hL.2.1 (by show (As.reverse ++ st).map (gmv base sp) = _; rw [List.map_append, List.map_reverse]) (lv_room (by rw [gcat_map]; exact hcat)) hd ⟨by show cells + mc ≤ _; omega, by show slots + ms ≤ _; omega⟩) hn hS hL hmc hms hc hs
theorem gs_31 {d : Nat} (X : gCx base sp D cI cL cQ p s m args meth c own cc ini nL) (hfr : d + 1 ≤ R.frames) (hlo : 60 * (d + 1) ≤ R.locals) (hcall : ∀ y vs h ge P, call y vs h ge P → gMet base sp D cI cL cQ l d y vs h ge P) : gRule own cc ret ini call (gJW base sp D cI cL cQ p l e R s m args below meth c nL Q) P 31 := by
  intro pc idx nx mc ms y As ls st st0 h ge hd hn hM hcat hst hmc hms hK H locs cells slots arr ws hH hS hL hc hs
  obtain ⟨hx, hb, hml, hown, hts, hE, hbase, -⟩ := X
  obtain ⟨cc', maxL, ret', ⟨hcode, hmx, -, -⟩, hMet⟩ := hcall _ _ _ _ _ hK
  obtain ⟨w1, w2, w3, n1, n2, n3⟩ := hM
  subst hst
  exact gafter (va_runSN (Ts := gTs) (As := As.map (gmv base sp)) (rest := st.map (gmv base sp)) ⟨hx, hb, hml, hown, hts⟩ hMet ⟨va_cnB As.length hts (ggood_ws hcode) rfl rfl rfl (hE.2.2.1 _ w1) (hts _ (gT_mem w3 rfl)) ⟨n1, n2, n3⟩ ⟨hfr, by show 8 + (maxL + 11) + 60 * d ≤ _; omega⟩, hts _ (gT_mem w2 rfl), trivial⟩ ⟨gPc_blind _ _ _, gPc_pre (vs := As) hH hS hE hbase⟩ rfl (by rw [List.length_map]) hL.2.1 (by show (As.reverse ++ st).map (gmv base sp) = _; rw [List.map_append, List.map_reverse]) (lv_room (by rw [gcat_map]; exact hcat)) hd ⟨by show cells + mc ≤ _; omega, by show slots + ms ≤ _; omega⟩) hn hS hL hmc hms hc hs
theorem gs_32 {d : Nat} (X : gCx base sp D cI cL cQ p s m args meth c own cc ini nL) (hfr : d + 1 ≤ R.frames) (hlo : 60 * (d + 1) ≤ R.locals) (hcall : ∀ y vs h ge P, call y vs h ge P → gMet base sp D cI cL cQ l d y vs h ge P) : gRule own cc ret ini call (gJW base sp D cI cL cQ p l e R s m args below meth c nL Q) P 32 := by
  intro pc idx nx a mc ms y As ls st st0 h ge hd hn hM hcat hst hmc hms hK H locs cells slots arr ws hH hS hL hc hs
  obtain ⟨hx, hb, hml, hown, hts, hE, hbase, -⟩ := X
  obtain ⟨cc', maxL, ret', ⟨hcode, hmx, -, hrt⟩, hMet⟩ := hcall _ _ _ _ _ hK
  obtain ⟨w1, w2, w3, hi, hv, n1, n2, n3⟩ := hM
  have hr0 : ret' = none := Option.some.inj (hrt.symm.trans hv)
  subst hr0
  subst hst
  exact gafter (va_runI (Ts := gTs) (As := As.map (gmv base sp)) (b := grho base sp a) (rest := st.map (gmv base sp)) ⟨hx, hb, hml, hown, hts⟩ hMet (cwI As.length hts (ggood_ws hcode) rfl rfl rfl (hts _ (gT_mem w3 rfl)) (hts _ (gT_mem w1 rfl)) (hts _ (gT_mem w2 rfl)) hi ⟨n1, n2, n3⟩ ⟨hfr, by show 8 + (maxL + 11) + 60 * d ≤ _; omega⟩) ⟨gPc_blind _ _ _, gPc_pre (vs := .ref a :: As) hH hS hE hbase⟩ rfl (by rw [List.length_map]) hL.2.1 (by show (As.reverse ++ .ref a :: st).map (gmv base sp) = _; rw [List.map_append, List.map_reverse]; rfl) (lv_room (by rw [gcat_map]; exact hcat)) hd ⟨by show cells + mc ≤ _; omega, by show slots + ms ≤ _; omega⟩) hn hS hL hmc hms hc hs
theorem gs_33 {d : Nat} (X : gCx base sp D cI cL cQ p s m args meth c own cc ini nL) (hfr : d + 1 ≤ R.frames) (hlo : 60 * (d + 1) ≤ R.locals) (hcall : ∀ y vs h ge P, call y vs h ge P → gMet base sp D cI cL cQ l d y vs h ge P) : gRule own cc ret ini call (gJW base sp D cI cL cQ p l e R s m args below meth c nL Q) P 33 := by
  intro pc idx nx a mc ms y As ls st st0 h ge hd hn hM hcat hst hmc hms hK H locs cells slots arr ws hH hS hL hc hs
  obtain ⟨hx, hb, hml, hown, hts, hE, hbase, -⟩ := X
  obtain ⟨cc', maxL, ret', ⟨hcode, hmx, -, hrt⟩, hMet⟩ := hcall _ _ _ _ _ hK
  obtain ⟨w1, w2, w3, hi, hv, n1, n2, n3⟩ := hM
  have hr0 : ret' = none := Option.some.inj (hrt.symm.trans hv)
  subst hr0
  subst hst
  exact gafter (va_runIN (Ts := gTs) (As := As.map (gmv base sp)) (b := grho base sp a) (rest := st.map (gmv base sp)) ⟨hx, hb, hml, hown, hts⟩ hMet ⟨va_cnB As.length hts (ggood_ws hcode) rfl rfl rfl (hE.2.2.1 _ w1) (hts _ (gT_mem w3 rfl)) ⟨n1, n2, n3⟩ ⟨hfr, by show 8 + (maxL + 11) + 60 * d ≤ _; omega⟩, hi, hts _ (gT_mem w2 rfl)⟩ ⟨gPc_blind _ _ _, gPc_pre (vs := .ref a :: As) hH hS hE hbase⟩ rfl (by rw [List.length_map]) hL.2.1 (by show (As.reverse ++ .ref a :: st).map (gmv base sp) = _; rw [List.map_append, List.map_reverse]; rfl) (lv_room (by rw [gcat_map]; exact hcat)) hd ⟨by show cells + mc ≤ _; omega, by show slots + ms ≤ _; omega⟩) hn hS hL hmc hms hc hs
theorem gs_34 (X : gCx base sp D cI cL cQ p s m args meth c own cc ini nL) (hfr : 1 ≤ R.frames) (hlo : 60 ≤ R.locals) (o1 : Cond.instanceMethod objectInit ∈ lw_tbl) (o2 : Cond.code objectInit ⟨#[0xb1]⟩ 1 none ∈ lw_tbl) : gRule own cc ret ini call (gJW base sp D cI cL cQ p l e R s m args below meth c nL Q) P 34 := by
  intro pc idx nx a ls st h ge hd hn hw hcat hJ H locs cells slots arr ws hH hS hL hc hs
  subst hn
  obtain ⟨hx, hb, hml, hown, hts, hE, hbase, -⟩ := X
  have hlv := lv_room (m := m) (pc := pc) (ls := arr) (rest := (st.map (gmv base sp))) (st := st.map (gmv base sp)) (by rw [gcat_map]; exact hcat)
  exact W.objInit hx hb hown (hts _ (gT_mem hw rfl)) (hts _ (gT_mem o1 rfl)) (hts _ (gT_mem o2 rfl)) rfl (by rw [hml]; exact hL.2.1) rfl hd hfr (Nat.le_trans (Nat.add_le_add_right hlv 12) (by omega)) (hJ H locs cells slots arr ws hH hS hL hc hs)
theorem gs_35 (X : gCx base sp D cI cL cQ p s m args meth c own cc ini nL) (hfr : 1 ≤ R.frames) (hlo : 60 ≤ R.locals) (o1 : Cond.native arraycopyName ∈ lw_tbl) (o2 : Cond.static arraycopyName ∈ lw_tbl) (o3 : Cond.initialized "java/lang/System" ∈ lw_tbl) : gRule own cc ret ini call (gJW base sp D cI cL cQ p l e R s m args below meth c nL Q) P 35 := by
  intro pc idx nx a0 a n0 n1 f g sp1 dp n ls st h ge hd hn hw hcat h0 h1 b1 b2 b3 b4 b5 hJ H locs cells slots arr ws hH hS hL hc hs
  subst hn
  obtain ⟨hx, hb, hml, hown, hts, hE, hbase, -⟩ := X
  obtain ⟨-, k0, hk0⟩ := hH.1 a0 _ h0
  obtain ⟨-, k1, hk1⟩ := hH.1 a _ h1
  refine va_copyi hx hb (hml.trans hL.2.1.symm) hown (hts _ (gT_mem hw rfl)) (hts _ (gT_mem o1 rfl)) (hts _ (gT_mem o2 rfl)) (hts _ (gT_mem o3 rfl)) hE.1 hH.2.1 hH.2.2.1 hS k0 k1 0 0 hk0 hk1 rfl rfl rfl b1 b2 b3 b4 b5 (fun _ _ => rfl) hfr ?_ hd fun H1 locs1 hP1 hD1 hS1 => ?_
  · rw [gcat_map]
    have e9 : nativeFrameWords "java/lang/System" "arraycopy" 5 = 7 := by decide +kernel
    rw [e9]
    omega
  · exact hJ H1 locs1 cells slots arr _ (gHd.put0 (c1 := gia n1 (va_cpy f g sp1.toNatClampNeg dp.toNatClampNeg n.toNatClampNeg)) (n := ge.1) (bc := ge.2.1) (bs := ge.2.2.1) (fl := ge.2.2.2) hH h1 hk1 hP1 hD1) hS1 hL hc hs
theorem gs_39 (X : gCx base sp D cI cL cQ p s m args meth c own cc ini nL) : gRule own cc ret ini call (gJW base sp D cI cL cQ p l e R s m args below meth c nL Q) P 39 := by
  intro pc idx nx ls st h ge hd hn hw hJ H locs cells slots arr ws hH hS hL hc hs
  subst hn
  obtain ⟨hx, hb, hml, hown, hts, hE, hbase, -⟩ := X
  exact va_gets hx hb hE.2.2.2.2.2.1 hS hown (hts _ (gT_mem hw rfl)) (fun _ h9 => h9) hd (hJ H locs cells slots arr ws hH hS hL hc hs)
theorem gs_40 (X : gCx base sp D cI cL cQ p s m args meth c own cc ini nL) : gRule own cc ret ini call (gJW base sp D cI cL cQ p l e R s m args below meth c nL Q) P 40 := by
  intro pc idx nx ls st h ge hd hn hw hJ1 hJ2 H locs cells slots arr ws hH hS hL hc hs
  subst hn
  obtain ⟨hx, hb, hml, hown, hts, hE, hbase, -⟩ := X
  obtain ⟨v, hv, hZ⟩ := hE.2.2.2.2.2.2
  rcases hv with rfl | rfl
  · exact va_gets hx hb hZ hS hown (hts _ (gT_mem hw rfl)) (fun _ h9 => h9) hd (hJ1 H locs cells slots arr ws hH hS hL hc hs)
  · have hK := hJ2 H locs cells slots arr ws hH hS hL hc hs
    rw [List.map_cons, show gmv base sp (.ref 1000200) = .ref (sp 200) from congrArg Value.ref (gstr_rho 200)] at hK
    exact va_gets hx hb hZ hS hown (hts _ (gT_mem hw rfl)) (fun _ h9 => h9) hd hK
theorem gs_41 (X : gCx base sp D cI cL cQ p s m args meth c own cc ini nL) : gRule own cc ret ini call (gJW base sp D cI cL cQ p l e R s m args below meth c nL Q) P 41 := by
  intro pc idx nx i ls st h ge hd hn hw hi hJ H locs cells slots arr ws hH hS hL hc hs
  subst hn
  obtain ⟨hx, hb, hml, hown, hts, hE, hbase, -⟩ := X
  rw [List.map_cons, show gmv base sp (.ref (1000000 + i)) = .ref (sp i) from congrArg Value.ref (gstr_rho i)]
  exact vk_getf hx hb (hE.2.2.2.2.1.1 i hi).2.1 hS hown (hts _ (gT_mem hw rfl)) (fun _ h9 => h9) hd (hJ H locs cells slots arr ws hH hS hL hc hs)
theorem gbyt_rho (i : Nat) : grho base sp (1000100 + i) = sp (100 + i) := by
  unfold grho
  rw [if_neg (by omega), show 1000100 + i - 1000000 = 100 + i by omega]
theorem gs_42 (X : gCx base sp D cI cL cQ p s m args meth c own cc ini nL) : gRule own cc ret ini call (gJW base sp D cI cL cQ p l e R s m args below meth c nL Q) P 42 := by
  intro pc idx nx i ls st h ge hd hn hw hi hJ H locs cells slots arr ws hH hS hL hc hs
  subst hn
  obtain ⟨hx, hb, hml, hown, hts, hE, hbase, -⟩ := X
  have hK := hJ H locs cells slots arr ws hH hS hL hc hs
  rw [List.map_cons, show gmv base sp (.ref (1000100 + i)) = .ref (sp (100 + i)) from congrArg Value.ref (gbyt_rho i)] at hK
  rw [List.map_cons, show gmv base sp (.ref (1000000 + i)) = .ref (sp i) from congrArg Value.ref (gstr_rho i)]
  exact vk_getf hx hb (hE.2.2.2.2.1.1 i hi).2.2.1 hS hown (hts _ (gT_mem hw rfl)) (fun _ h9 => h9) hd hK
theorem gs_43 (X : gCx base sp D cI cL cQ p s m args meth c own cc ini nL) : gRule own cc ret ini call (gJW base sp D cI cL cQ p l e R s m args below meth c nL Q) P 43 := by
  intro pc nx i ls st h ge hd hn hi hJ H locs cells slots arr ws hH hS hL hc hs
  subst hn
  obtain ⟨hx, hb, hml, hown, hts, hE, hbase, -⟩ := X
  obtain ⟨cell, h1, h2, h3, h4, h5, h6, h7⟩ := ((hE.2.2.2.2.1.1 i hi).2.2.2).kept hS.2.1
  rw [List.map_cons, show gmv base sp (.ref (1000100 + i)) = .ref (sp (100 + i)) from congrArg Value.ref (gbyt_rho i)]
  exact W.alen hx hb h1 h2 h5 rfl rfl hd (hJ H locs cells slots arr ws hH hS hL hc hs)
theorem gs_44 (X : gCx base sp D cI cL cQ p s m args meth c own cc ini nL) : gRule own cc ret ini call (gJW base sp D cI cL cQ p l e R s m args below meth c nL Q) P 44 := by
  intro pc nx i j ls st h ge hd hn hi hj hJ H locs cells slots arr ws hH hS hL hc hs
  subst hn
  obtain ⟨hx, hb, hml, hown, hts, hE, hbase, -⟩ := X
  obtain ⟨cell, h1, h2, h3, h4, h5, h6, h7⟩ := ((hE.2.2.2.2.1.1 i hi).2.2.2).kept hS.2.1
  have hl : glen.getD i 0 < 100 := by
    rcases (show i = 0 ∨ i = 1 ∨ i = 2 ∨ i = 3 ∨ i = 4 by omega) with rfl | rfl | rfl | rfl | rfl <;> decide
  have hcl : (nI j).toNatClampNeg = j := nI_clamp (by omega)
  rw [List.map_cons, List.map_cons, show gmv base sp (.ref (1000100 + i)) = .ref (sp (100 + i)) from congrArg Value.ref (gbyt_rho i)]
  refine W.bald (v := .int ((gbyt.getD i []).getD j 0)) hx hb h1 h2 h3 ?_ (by rw [hcl]; exact h6 j hj) rfl rfl hd (hJ H locs cells slots arr ws hH hS hL hc hs)
  rw [hcl]
  rintro (q | q)
  · exact nI_pos (by omega) q
  · omega
end GRW
end
section
/-! ===== all rules; soundness ===== -/
theorem gent_at {base : Nat} {sp : Nat → Nat} (k k' : Nat) : ∀ (vs : List Value) (i : Nat) (v : Value), ((vs.flatMap fun v => if v.category = 2 then [some v, none] else [some v]) ++ List.replicate k none)[i]? = some (some v) → (lg_sl (vs.map (gmv base sp)) ++ List.replicate k' Slot.unset)[i]? = some (.val (gmv base sp v)) := by
  intro vs
  induction vs with
  | nil =>
    intro i v h
    simp only [List.flatMap_nil, List.nil_append] at h
    have := List.eq_of_mem_replicate (List.mem_of_getElem? h)
    cases this
  | cons w r ih =>
    intro i v h
    by_cases hc : w.category = 2
    · have e1 : lg_sl ((w :: r).map (gmv base sp)) = [.val (gmv base sp w), .second] ++ lg_sl (r.map (gmv base sp)) := by simp [lg_sl, gmv_cat, hc]
      rw [e1]
      simp only [List.flatMap_cons, hc, if_true, List.cons_append, List.nil_append] at h ⊢
      match i, h with
      | 0, h => simp only [List.getElem?_cons_zero, Option.some.injEq] at h ⊢; rw [h]
      | 1, h => simp at h
      | i + 2, h => simp only [List.getElem?_cons_succ] at h ⊢; exact ih i v h
    · have e1 : lg_sl ((w :: r).map (gmv base sp)) = [.val (gmv base sp w)] ++ lg_sl (r.map (gmv base sp)) := by simp [lg_sl, gmv_cat, hc]
      rw [e1]
      simp only [List.flatMap_cons, hc, if_false, List.cons_append, List.nil_append] at h ⊢
      match i, h with
      | 0, h => simp only [List.getElem?_cons_zero, Option.some.injEq] at h ⊢; rw [h]
      | i + 1, h => simp only [List.getElem?_cons_succ] at h ⊢; exact ih i v h
theorem glg_len (base : Nat) (sp : Nat → Nat) (vs : List Value) : (lg_sl (vs.map (gmv base sp))).length = (lg_sl vs).length ∧ (vs.flatMap fun v => if v.category = 2 then [some v, none] else [some v]).length = (lg_sl vs).length := by
  induction vs with
  | nil => exact ⟨rfl, rfl⟩
  | cons w r ih =>
    by_cases hc : w.category = 2
    · simp only [lg_sl, List.map_cons, List.flatMap_cons, gmv_cat, hc, if_true, List.length_append] at ih ⊢
      exact ⟨by rw [ih.1]; rfl, by rw [ih.2]; rfl⟩
    · simp only [lg_sl, List.map_cons, List.flatMap_cons, gmv_cat, hc, if_false, List.length_append] at ih ⊢
      exact ⟨by rw [ih.1]; rfl, by rw [ih.2]; rfl⟩
theorem gLr_entry {base : Nat} {sp : Nat → Nat} {vs : List Value} {n : Nat} (h : (lg_sl vs).length ≤ n) : gLr base sp n (gent vs n) ((lg_sl (vs.map (gmv base sp)) ++ List.replicate (n - (lg_sl (vs.map (gmv base sp))).length) Slot.unset).toArray) := by
  obtain ⟨l1, l2⟩ := glg_len base sp vs
  have hh := lv_entry (vs.map (gmv base sp)) (n := n) (by rw [l1]; exact h)
  refine ⟨?_, hh.1, hh.2.1, fun i v hv => ?_⟩
  · unfold gent
    rw [List.length_append, l2, List.length_replicate]
    omega
  · unfold gent at hv
    rw [List.getElem?_toArray]
    exact gent_at _ _ vs i v hv
theorem gt_aI : Cond.arrayClass .int ∈ lw_tbl := tb_at 102 (by decide +kernel)
theorem gt_aL : Cond.arrayClass .long ∈ lw_tbl := tb_at 850 (by decide +kernel)
theorem gt_o1 : Cond.instanceMethod objectInit ∈ lw_tbl := tb_at 70 (by decide +kernel)
theorem gt_o2 : Cond.code objectInit ⟨#[0xb1]⟩ 1 none ∈ lw_tbl := tb_at 71 (by decide +kernel)
theorem gt_c1 : Cond.native arraycopyName ∈ lw_tbl := tb_at 692 (by decide +kernel)
theorem gt_c2 : Cond.static arraycopyName ∈ lw_tbl := tb_at 691 (by decide +kernel)
theorem gt_c3 : Cond.initialized "java/lang/System" ∈ lw_tbl := tb_at 58 (by decide +kernel)
theorem gt_m1 : Cond.static Lib.Math.max.name ∈ lw_tbl := tb_at 89 (by decide +kernel)
theorem gt_m2 : Cond.code Lib.Math.max.name Lib.Math.max.code 2 (some .int) ∈ lw_tbl := tb_at 90 (by decide +kernel)
theorem gt_m3 : Cond.static Lib.Math.min.name ∈ lw_tbl := tb_at 316 (by decide +kernel)
theorem gt_m4 : Cond.code Lib.Math.min.name Lib.Math.min.code 2 (some .int) ∈ lw_tbl := tb_at 317 (by decide +kernel)
theorem gt_m5 : Cond.initialized "java/lang/Math" ∈ lw_tbl := tb_at 53 (by decide +kernel)
section GRX
variable {base : Nat} {sp : Nat → Nat} {D : va_G} {cI cL : ClassId} {cQ : Nat → ClassId}
variable {p : Program} {l : Launch} {e : Env} {R : Room} {s : State} {m : MethodId} {args : Array Value} {below : List Frame} {meth : Method} {c : Code} {Q : State → Prop}
variable {own : String} {cc : ByteArray} {ret : Option FieldType} {ini : Bool} {call : CT} {P : RT} {nL : Nat}
theorem gs_45 (X : gCx base sp D cI cL cQ p s m args meth c own cc ini nL) (hfr : 1 ≤ R.frames) (hlo : 60 ≤ R.locals) : gRule own cc ret ini call (gJW base sp D cI cL cQ p l e R s m args below meth c nL Q) P 45 := by
  intro pc idx nx x y ls st h ge hd hn hw hcat hJ H locs cells slots arr ws hH hS hL hc hs
  subst hn
  obtain ⟨hx, hb, hml, hown, hts, hE, hbase, -⟩ := X
  exact va_mmax hx hb (hml.trans hL.2.1.symm) hown (hts _ (gT_mem hw rfl)) (hts _ (gT_mem gt_m1 rfl)) (hts _ (gT_mem gt_m5 rfl)) (hts _ (gT_mem gt_m2 rfl)) hfr (by rw [gcat_map]; omega) (by omega) (by omega) hd (hJ H locs cells slots arr ws hH hS hL hc hs)
theorem gs_46 (X : gCx base sp D cI cL cQ p s m args meth c own cc ini nL) (hfr : 1 ≤ R.frames) (hlo : 60 ≤ R.locals) : gRule own cc ret ini call (gJW base sp D cI cL cQ p l e R s m args below meth c nL Q) P 46 := by
  intro pc idx nx x y ls st h ge hd hn hw hcat hJ H locs cells slots arr ws hH hS hL hc hs
  subst hn
  obtain ⟨hx, hb, hml, hown, hts, hE, hbase, -⟩ := X
  exact va_mmin hx hb (hml.trans hL.2.1.symm) hown (hts _ (gT_mem hw rfl)) (hts _ (gT_mem gt_m3 rfl)) (hts _ (gT_mem gt_m5 rfl)) (hts _ (gT_mem gt_m4 rfl)) hfr (by rw [gcat_map]; omega) (by omega) (by omega) hd (hJ H locs cells slots arr ws hH hS hL hc hs)
theorem gCl_of {d : Nat} (X : gCx base sp D cI cL cQ p s m args meth c own cc ini nL) (hfr : d + 1 ≤ R.frames) (hlo : 60 * (d + 1) ≤ R.locals) (hcall : ∀ y vs h ge P, call y vs h ge P → gMet base sp D cI cL cQ l d y vs h ge P)
    (h36 : gRule own cc ret ini call (gJW base sp D cI cL cQ p l e R s m args below meth c nL Q) P 36) (h37 : gRule own cc ret ini call (gJW base sp D cI cL cQ p l e R s m args below meth c nL Q) P 37) (h38 : gRule own cc ret ini call (gJW base sp D cI cL cQ p l e R s m args below meth c nL Q) P 38) :
    gCl own cc ret ini call (gJW base sp D cI cL cQ p l e R s m args below meth c nL Q) P := by
  intro k
  match k with
  | 0 => exact gs_0 X
  | 1 => exact gs_1 X
  | 2 => exact gs_2 X
  | 3 => exact gs_3 X
  | 4 => exact gs_4 X
  | 5 => exact gs_5 X
  | 6 => exact gs_6 X
  | 7 => exact gs_7 X
  | 8 => exact gs_8 X
  | 9 => exact gs_9 X
  | 10 => exact gs_10 X
  | 11 => exact gs_11 X
  | 12 => exact gs_12 X
  | 13 => exact gs_13 X
  | 14 => exact gs_14 X
  | 15 => exact gs_15 X
  | 16 => exact gs_16 X
  | 17 => exact gs_17 X
  | 18 => exact gs_18 X
  | 19 => exact gs_19 X
  | 20 => exact gs_20 X
  | 21 => exact gs_21 X
  | 22 => exact gs_22 X
  | 23 => exact gs_23 X
  | 24 => exact gs_24 X
  | 25 => exact gs_25 X gt_aI
  | 26 => exact gs_26 X gt_aL
  | 27 => exact gs_27 X
  | 28 => exact gs_28 X hfr hlo hcall
  | 29 => exact gs_29 X hfr hlo hcall
  | 30 => exact gs_30 X hfr hlo hcall
  | 31 => exact gs_31 X hfr hlo hcall
  | 32 => exact gs_32 X hfr hlo hcall
  | 33 => exact gs_33 X hfr hlo hcall
  | 34 => exact gs_34 X (by omega) (by omega) gt_o1 gt_o2
  | 35 => exact gs_35 X (by omega) (by omega) gt_c1 gt_c2 gt_c3
  | 36 => exact h36
  | 37 => exact h37
  | 38 => exact h38
  | 39 => exact gs_39 X
  | 40 => exact gs_40 X
  | 41 => exact gs_41 X
  | 42 => exact gs_42 X
  | 43 => exact gs_43 X
  | 44 => exact gs_44 X
  | 45 => exact gs_45 X (by omega) (by omega)
  | 46 => exact gs_46 X (by omega) (by omega)
  | _ + 47 => exact trivial
theorem gs_36 (X : gCx base sp D cI cL cQ p s m args meth c own cc ini nL) (hr : meth.sig.returnType = ret) : gRule own cc ret ini call (gJW base sp D cI cL cQ p l e R s m args below meth c nL (MQ below (gQc base sp D cI cL cQ P) args s R.cells R.slots (gA base))) P 36 := by
  intro pc v ls h ge hd hty hP H locs cells slots arr ws hH hS hL hc hs
  obtain ⟨hx, hb, hml, hown, hts, hE, hbase, hin, hlocks⟩ := X
  obtain ⟨ty, hret, hnar⟩ := hty
  refine W.widen (k := R.cells) (n := R.slots) (by omega) (by omega) ?_
  exact W.zret hx hb (hr.trans hret) hnar (fun t ht hW => ⟨⟨some (.int v), h, ge, rfl, hP, ws, by rw [ht]; exact hH⟩, hS.F ht⟩) hS.2.2 hd hlocks
theorem gs_37 (X : gCx base sp D cI cL cQ p s m args meth c own cc ini nL) (hr : meth.sig.returnType = ret) : gRule own cc ret ini call (gJW base sp D cI cL cQ p l e R s m args below meth c nL (MQ below (gQc base sp D cI cL cQ P) args s R.cells R.slots (gA base))) P 37 := by
  intro pc v ls h ge hd hret hP H locs cells slots arr ws hH hS hL hc hs
  obtain ⟨hx, hb, hml, hown, hts, hE, hbase, hin, hlocks⟩ := X
  refine W.widen (k := R.cells) (n := R.slots) (by omega) (by omega) ?_
  exact W.lret hx hb (hr.trans hret) (fun t ht hW => ⟨⟨some (.long v), h, ge, rfl, hP, ws, by rw [ht]; exact hH⟩, hS.F ht⟩) hS.2.2 hd hlocks
theorem gs_38 (X : gCx base sp D cI cL cQ p s m args meth c own cc ini nL) (hr : meth.sig.returnType = ret) : gRule own cc ret ini call (gJW base sp D cI cL cQ p l e R s m args below meth c nL (MQ below (gQc base sp D cI cL cQ P) args s R.cells R.slots (gA base))) P 38 := by
  intro pc ls h ge hd hret hP H locs cells slots arr ws hH hS hL hc hs
  obtain ⟨hx, hb, hml, hown, hts, hE, hbase, hin, hlocks⟩ := X
  refine W.widen (k := R.cells) (n := R.slots) (by omega) (by omega) ?_
  exact W.vret hx hb (hr.trans hret) (fun t ht hW => ⟨⟨none, h, ge, rfl, hP, ws, by rw [ht]; exact hH⟩, hS.F ht⟩) hS.2.2 hd hlocks
/-- every run of the small machine is one of the real -/
theorem g_sound (l : Launch) : ∀ (d : Nat) (y : MethodName) (vs : List Value) (h : GH) (ge : GE) (P : RT), gRuns d y vs h ge P → gMet base sp D cI cL cQ l d y vs h ge P := by
  intro d
  induction d with
  | zero => intro y vs h ge P hR; exact hR.elim
  | succ d ih =>
    intro y vs h ge P hR
    obtain ⟨cc, maxL, ret, hM, hfit, hJ⟩ := hR
    refine ⟨cc, maxL, ret, hM, Met.ofW (cc := cc) (maxL := maxL) (ret := ret) hM.2.2.1 rfl ?_⟩
    intro p e s m args below meth c s₁ B hml hv
    obtain ⟨rfl, hbase, ⟨ws, hH⟩, hE⟩ := hv
    have hts : ∀ w ∈ gTs, w.before (vs.map (gmv base sp)).toArray s = true := fun w hw => atoms_spec (ws := Cond.code y cc maxL ret :: gTs) B.pre w (List.mem_cons_of_mem _ hw)
    have X : gCx base sp D cI cL cQ p s m (vs.map (gmv base sp)).toArray meth c y.cls cc (y.name == "<init>") maxL := ⟨B.exec, B.bytes, hml, findClass_of_methodNamed B.named, hts, hE, hbase, fun q => (name_of_methodNamed B.named B.method).1.trans (by simpa using q), B.notSynchronized⟩
    have K := hJ _ (gCl_of (l := l) (e := e) (R := grm (d + 1) ge) (below := below) (Q := MQ below (gQc base sp D cI cL cQ P) (vs.map (gmv base sp)).toArray s ge.2.1 ge.2.2.1 (gA base)) X (Nat.le_refl _) (Nat.le_refl _) ih (gs_36 X B.returns) (gs_37 X B.returns) (gs_38 X B.returns))
    rw [lg_entry_eq]
    exact K s.heap [] 0 0 _ ws hH va_S.rf (gLr_entry hfit) (by show 0 + ge.2.1 ≤ ge.2.1; omega) (by show 0 + ge.2.2.1 ≤ ge.2.2.1; omega)
end GRX
end
section
/-! ===== rows of the small machine ===== -/
theorem gCl_post {own : String} {cc : ByteArray} {ret : Option FieldType} {ini : Bool} {call : CT} {J : JT} {P P' : RT} (hJ : gCl own cc ret ini call J P') (hP : ∀ r h e, P r h e → P' r h e) : gCl own cc ret ini call J P := by
  intro k
  match k with
  | 0 => exact hJ 0
  | 1 => exact hJ 1
  | 2 => exact hJ 2
  | 3 => exact hJ 3
  | 4 => exact hJ 4
  | 5 => exact hJ 5
  | 6 => exact hJ 6
  | 7 => exact hJ 7
  | 8 => exact hJ 8
  | 9 => exact hJ 9
  | 10 => exact hJ 10
  | 11 => exact hJ 11
  | 12 => exact hJ 12
  | 13 => exact hJ 13
  | 14 => exact hJ 14
  | 15 => exact hJ 15
  | 16 => exact hJ 16
  | 17 => exact hJ 17
  | 18 => exact hJ 18
  | 19 => exact hJ 19
  | 20 => exact hJ 20
  | 21 => exact hJ 21
  | 22 => exact hJ 22
  | 23 => exact hJ 23
  | 24 => exact hJ 24
  | 25 => exact hJ 25
  | 26 => exact hJ 26
  | 27 => exact hJ 27
  | 28 => exact hJ 28
  | 29 => exact hJ 29
  | 30 => exact hJ 30
  | 31 => exact hJ 31
  | 32 => exact hJ 32
  | 33 => exact hJ 33
  | 34 => exact hJ 34
  | 35 => exact hJ 35
  | 36 => exact fun pc v ls h e hd hty hp => hJ 36 pc v ls h e hd hty (hP _ _ _ hp)
  | 37 => exact fun pc v ls h e hd hty hp => hJ 37 pc v ls h e hd hty (hP _ _ _ hp)
  | 38 => exact fun pc ls h e hd hty hp => hJ 38 pc ls h e hd hty (hP _ _ _ hp)
  | 39 => exact hJ 39
  | 40 => exact hJ 40
  | 41 => exact hJ 41
  | 42 => exact hJ 42
  | 43 => exact hJ 43
  | 44 => exact hJ 44
  | 45 => exact hJ 45
  | 46 => exact hJ 46
  | _ + 47 => exact trivial
theorem gRuns_post {d : Nat} {y : MethodName} {vs : List Value} {h : GH} {e : GE} {P P' : RT} (hr : gRuns d y vs h e P) (hP : ∀ r h e, P r h e → P' r h e) : gRuns d y vs h e P' := by
  cases d with
  | zero => exact hr.elim
  | succ d =>
    obtain ⟨cc, maxL, ret, hM, hf, hJ⟩ := hr
    exact ⟨cc, maxL, ret, hM, hf, fun J hc => hJ J (gCl_post hc hP)⟩
/-- a method that makes nothing -/
def gN (fl : Bool) (d : Nat) (y : MethodName) (vs : List Value) (h : GH) (P : Option Value → GH → Prop) : Prop := ∀ n : Nat, gRuns d y vs h (n, 0, 0, fl) (fun r h' e' => e' = (n, 0, 0, fl) ∧ P r h')
/-- a method that only reads -/
def gR (fl : Bool) (d : Nat) (y : MethodName) (vs : List Value) (h : GH) (v : Value) : Prop := gN fl d y vs h (fun r h' => r = some v ∧ h' = h)
theorem gN.of {fl : Bool} {d : Nat} {y : MethodName} {vs : List Value} {h : GH} {P : Option Value → GH → Prop} {cc : ByteArray} {maxL : Nat} {ret : Option FieldType} (hM : gMth y cc maxL ret) (hf : (lg_sl vs).length ≤ maxL)
    (body : ∀ (J : JT) (n : Nat), gCl y.cls cc ret (y.name == "<init>") (gRuns d) J (fun r h' e' => e' = (n, 0, 0, fl) ∧ P r h') → J 0 (gent vs maxL) [] h (n, 0, 0, fl)) : gN fl (d + 1) y vs h P :=
  fun n => ⟨cc, maxL, ret, hM, hf, fun J hJ => body J n hJ⟩
theorem gN.mono {fl : Bool} {d : Nat} {y : MethodName} {vs : List Value} {h : GH} {P P' : Option Value → GH → Prop} (hN : gN fl d y vs h P) (hP : ∀ r h', P r h' → P' r h') : gN fl d y vs h P' := fun n => gRuns_post (hN n) (fun _ _ _ q => ⟨q.1, hP _ _ q.2⟩)
def gb (b : Bool) : Int32 := match b with
  | true => 1
  | false => 0
theorem gb_nar (b : Bool) : narrow .boolean (.int (gb b)) = .int (gb b) := by cases b <;> rfl
section GROW
variable {own : String} {cc : ByteArray} {ret : Option FieldType} {ini : Bool} {call : CT} {J : JT} {P : RT}
theorem j_p (hJ : gCl own cc ret ini call J P) {pc : Nat} {i : Instr} {nx : Nat} {ls : GL} {st : List Value} {ls' : GL} {st' : List Value} {h : GH} {e : GE} (hd : decode cc pc = .ok (i, gsz i)) (hn : pc + gsz i = nx) (hp : gps i ls st = some (ls', st')) (k : J nx ls' st' h e) : J pc ls st h e := hJ 0 _ _ _ _ _ _ _ _ _ hd hn hp k
theorem j_c (hJ : gCl own cc ret ini call J P) {pc : Nat} {i : Instr} {nx : Nat} {v : Int32} {ls : GL} {st : List Value} {h : GH} {e : GE} (hd : decode cc pc = .ok (i, gsz i)) (hn : pc + gsz i = nx) (hp : gics i = some v) (k : J nx ls (.int v :: st) h e) : J pc ls st h e := hJ 1 _ _ _ _ _ _ _ _ hd hn hp k
theorem j_lc (hJ : gCl own cc ret ini call J P) {pc : Nat} {n : Fin 2} {nx : Nat} {v : Int64} {ls : GL} {st : List Value} {h : GH} {e : GE} (hd : decode cc pc = .ok (.lconst n, 1)) (hn : pc + 1 = nx) (hp : Int64.ofNat n.val = v) (k : J nx ls (.long v :: st) h e) : J pc ls st h e := hJ 2 _ _ _ _ _ _ _ _ hd hn hp k
theorem j_inc (hJ : gCl own cc ret ini call J P) {pc n : Nat} {z : Int} {nx : Nat} {x v : Int32} {ls ls' : GL} {st : List Value} {h : GH} {e : GE} (hd : decode cc pc = .ok (.iinc n z, 3)) (hn : pc + 3 = nx) (hl : gldI ls n = some (.int x)) (hv : x + Int32.ofInt z = v) (hs : gst1 ls n (.int v) st = some (ls', st)) (k : J nx ls' st h e) : J pc ls st h e := hJ 3 _ _ _ _ _ _ _ _ _ _ _ hd hn hl hv hs k
theorem j_go (hJ : gCl own cc ret ini call J P) {pc : Nat} {off : Int} {tgt : Nat} {ls : GL} {st : List Value} {h : GH} {e : GE} (hd : decode cc pc = .ok (.goto off, 3)) (ht : (pc : Int) + off = (tgt : Int)) (k : J tgt ls st h e) : J pc ls st h e := hJ 4 _ _ _ _ _ _ _ hd ht k
theorem j_if_eq (hJ : gCl own cc ret ini call J P) {pc : Nat} {off : Int} {nx tgt : Nat} {x : Int32} {ls : GL} {st : List Value} {h : GH} {e : GE} (hd : decode cc pc = .ok (.ifCond .eq off, 3)) (hn : pc + 3 = nx) (ht : (pc : Int) + off = (tgt : Int)) (kt : x = 0 → J tgt ls st h e) (kf : ¬ x = 0 → J nx ls st h e) : J pc ls (.int x :: st) h e := hJ 5 _ _ _ _ _ _ _ _ _ _ hd hn ht kt kf
theorem j_if_ne (hJ : gCl own cc ret ini call J P) {pc : Nat} {off : Int} {nx tgt : Nat} {x : Int32} {ls : GL} {st : List Value} {h : GH} {e : GE} (hd : decode cc pc = .ok (.ifCond .ne off, 3)) (hn : pc + 3 = nx) (ht : (pc : Int) + off = (tgt : Int)) (kt : ¬ x = 0 → J tgt ls st h e) (kf : x = 0 → J nx ls st h e) : J pc ls (.int x :: st) h e := hJ 5 _ _ _ _ _ _ _ _ _ _ hd hn ht kt kf
theorem j_if_lt (hJ : gCl own cc ret ini call J P) {pc : Nat} {off : Int} {nx tgt : Nat} {x : Int32} {ls : GL} {st : List Value} {h : GH} {e : GE} (hd : decode cc pc = .ok (.ifCond .lt off, 3)) (hn : pc + 3 = nx) (ht : (pc : Int) + off = (tgt : Int)) (kt : x < 0 → J tgt ls st h e) (kf : ¬ x < 0 → J nx ls st h e) : J pc ls (.int x :: st) h e := hJ 5 _ _ _ _ _ _ _ _ _ _ hd hn ht kt kf
theorem j_if_ge (hJ : gCl own cc ret ini call J P) {pc : Nat} {off : Int} {nx tgt : Nat} {x : Int32} {ls : GL} {st : List Value} {h : GH} {e : GE} (hd : decode cc pc = .ok (.ifCond .ge off, 3)) (hn : pc + 3 = nx) (ht : (pc : Int) + off = (tgt : Int)) (kt : 0 ≤ x → J tgt ls st h e) (kf : ¬ 0 ≤ x → J nx ls st h e) : J pc ls (.int x :: st) h e := hJ 5 _ _ _ _ _ _ _ _ _ _ hd hn ht kt kf
theorem j_if_gt (hJ : gCl own cc ret ini call J P) {pc : Nat} {off : Int} {nx tgt : Nat} {x : Int32} {ls : GL} {st : List Value} {h : GH} {e : GE} (hd : decode cc pc = .ok (.ifCond .gt off, 3)) (hn : pc + 3 = nx) (ht : (pc : Int) + off = (tgt : Int)) (kt : 0 < x → J tgt ls st h e) (kf : ¬ 0 < x → J nx ls st h e) : J pc ls (.int x :: st) h e := hJ 5 _ _ _ _ _ _ _ _ _ _ hd hn ht kt kf
theorem j_if_le (hJ : gCl own cc ret ini call J P) {pc : Nat} {off : Int} {nx tgt : Nat} {x : Int32} {ls : GL} {st : List Value} {h : GH} {e : GE} (hd : decode cc pc = .ok (.ifCond .le off, 3)) (hn : pc + 3 = nx) (ht : (pc : Int) + off = (tgt : Int)) (kt : x ≤ 0 → J tgt ls st h e) (kf : ¬ x ≤ 0 → J nx ls st h e) : J pc ls (.int x :: st) h e := hJ 5 _ _ _ _ _ _ _ _ _ _ hd hn ht kt kf
theorem j_ic_eq (hJ : gCl own cc ret ini call J P) {pc : Nat} {off : Int} {nx tgt : Nat} {x y : Int32} {ls : GL} {st : List Value} {h : GH} {e : GE} (hd : decode cc pc = .ok (.if_icmp .eq off, 3)) (hn : pc + 3 = nx) (ht : (pc : Int) + off = (tgt : Int)) (kt : x = y → J tgt ls st h e) (kf : ¬ x = y → J nx ls st h e) : J pc ls (.int y :: .int x :: st) h e := hJ 6 _ _ _ _ _ _ _ _ _ _ _ hd hn ht kt kf
theorem j_ic_ne (hJ : gCl own cc ret ini call J P) {pc : Nat} {off : Int} {nx tgt : Nat} {x y : Int32} {ls : GL} {st : List Value} {h : GH} {e : GE} (hd : decode cc pc = .ok (.if_icmp .ne off, 3)) (hn : pc + 3 = nx) (ht : (pc : Int) + off = (tgt : Int)) (kt : ¬ x = y → J tgt ls st h e) (kf : x = y → J nx ls st h e) : J pc ls (.int y :: .int x :: st) h e := hJ 6 _ _ _ _ _ _ _ _ _ _ _ hd hn ht kt kf
theorem j_ic_lt (hJ : gCl own cc ret ini call J P) {pc : Nat} {off : Int} {nx tgt : Nat} {x y : Int32} {ls : GL} {st : List Value} {h : GH} {e : GE} (hd : decode cc pc = .ok (.if_icmp .lt off, 3)) (hn : pc + 3 = nx) (ht : (pc : Int) + off = (tgt : Int)) (kt : x < y → J tgt ls st h e) (kf : ¬ x < y → J nx ls st h e) : J pc ls (.int y :: .int x :: st) h e := hJ 6 _ _ _ _ _ _ _ _ _ _ _ hd hn ht kt kf
theorem j_ic_ge (hJ : gCl own cc ret ini call J P) {pc : Nat} {off : Int} {nx tgt : Nat} {x y : Int32} {ls : GL} {st : List Value} {h : GH} {e : GE} (hd : decode cc pc = .ok (.if_icmp .ge off, 3)) (hn : pc + 3 = nx) (ht : (pc : Int) + off = (tgt : Int)) (kt : y ≤ x → J tgt ls st h e) (kf : ¬ y ≤ x → J nx ls st h e) : J pc ls (.int y :: .int x :: st) h e := hJ 6 _ _ _ _ _ _ _ _ _ _ _ hd hn ht kt kf
theorem j_ic_gt (hJ : gCl own cc ret ini call J P) {pc : Nat} {off : Int} {nx tgt : Nat} {x y : Int32} {ls : GL} {st : List Value} {h : GH} {e : GE} (hd : decode cc pc = .ok (.if_icmp .gt off, 3)) (hn : pc + 3 = nx) (ht : (pc : Int) + off = (tgt : Int)) (kt : y < x → J tgt ls st h e) (kf : ¬ y < x → J nx ls st h e) : J pc ls (.int y :: .int x :: st) h e := hJ 6 _ _ _ _ _ _ _ _ _ _ _ hd hn ht kt kf
theorem j_ic_le (hJ : gCl own cc ret ini call J P) {pc : Nat} {off : Int} {nx tgt : Nat} {x y : Int32} {ls : GL} {st : List Value} {h : GH} {e : GE} (hd : decode cc pc = .ok (.if_icmp .le off, 3)) (hn : pc + 3 = nx) (ht : (pc : Int) + off = (tgt : Int)) (kt : x ≤ y → J tgt ls st h e) (kf : ¬ x ≤ y → J nx ls st h e) : J pc ls (.int y :: .int x :: st) h e := hJ 6 _ _ _ _ _ _ _ _ _ _ _ hd hn ht kt kf
theorem j_ldc (hJ : gCl own cc ret ini call J P) {pc idx nx : Nat} {v : Int32} {ls : GL} {st : List Value} {h : GH} {e : GE} (hd : decode cc pc = .ok (.ldc idx, 2)) (hn : pc + 2 = nx) (hw : Cond.constant own idx v ∈ lw_tbl) (k : J nx ls (.int v :: st) h e) : J pc ls st h e := hJ 7 _ _ _ _ _ _ _ _ hd hn hw k
theorem j_ldc2 (hJ : gCl own cc ret ini call J P) {pc idx nx : Nat} {v : Int64} {ls : GL} {st : List Value} {h : GH} {e : GE} (hd : decode cc pc = .ok (.ldc2_w idx, 3)) (hn : pc + 3 = nx) (hw : Cond.constantLong own idx v ∈ lw_tbl) (k : J nx ls (.long v :: st) h e) : J pc ls st h e := hJ 8 _ _ _ _ _ _ _ _ hd hn hw k
theorem j_ldcS (hJ : gCl own cc ret ini call J P) {pc idx nx i : Nat} {tx : String} {ls : GL} {st : List Value} {h : GH} {e : GE} (hd : decode cc pc = .ok (.ldc idx, 2)) (hn : pc + 2 = nx) (hw : (own, idx, tx, i) ∈ gstrs) (k : J nx ls (.ref (1000000 + i) :: st) h e) : J pc ls st h e := hJ 9 _ _ _ _ _ _ _ _ _ hd hn hw k
theorem j_tbO (hJ : gCl own cc ret ini call J P) {pc : Nat} {dflt lo hi : Int} {offs : Array Int} {len tgt : Nat} {x : Int32} {ls : GL} {st : List Value} {h : GH} {e : GE} (hd : decode cc pc = .ok (.tableswitch dflt lo hi offs, len)) (hw : x.toInt < lo ∨ hi < x.toInt) (ht : (pc : Int) + dflt = (tgt : Int)) (k : J tgt ls st h e) : J pc ls (.int x :: st) h e := hJ 10 _ _ _ _ _ _ _ _ _ _ _ _ hd hw ht k
theorem j_tbI (hJ : gCl own cc ret ini call J P) {pc : Nat} {dflt lo hi : Int} {offs : Array Int} {off : Int} {len tgt : Nat} {x : Int32} {ls : GL} {st : List Value} {h : GH} {e : GE} (hd : decode cc pc = .ok (.tableswitch dflt lo hi offs, len)) (h1 : ¬ x.toInt < lo) (h2 : ¬ hi < x.toInt) (ho : offs[(x.toInt - lo).toNat]? = some off) (ht : (pc : Int) + off = (tgt : Int)) (k : J tgt ls st h e) : J pc ls (.int x :: st) h e := hJ 11 _ _ _ _ _ _ _ _ _ _ _ _ _ hd h1 h2 ho ht k
theorem j_div (hJ : gCl own cc ret ini call J P) {pc nx : Nat} {x y : Int32} {ls : GL} {st : List Value} {h : GH} {e : GE} (hd : decode cc pc = .ok (.idiv, 1)) (hn : pc + 1 = nx) (hy : ¬ y = 0) (k : J nx ls (.int (x / y) :: st) h e) : J pc ls (.int y :: .int x :: st) h e := hJ 12 _ _ _ _ _ _ _ _ hd hn hy k
theorem j_rem (hJ : gCl own cc ret ini call J P) {pc nx : Nat} {x y : Int32} {ls : GL} {st : List Value} {h : GH} {e : GE} (hd : decode cc pc = .ok (.irem, 1)) (hn : pc + 1 = nx) (hy : ¬ y = 0) (k : J nx ls (.int (x - x / y * y) :: st) h e) : J pc ls (.int y :: .int x :: st) h e := hJ 13 _ _ _ _ _ _ _ _ hd hn hy k
theorem j_get (hJ : gCl own cc ret ini call J P) {pc idx nx t j a : Nat} {fs : List Value} {v : Value} {ls : GL} {st : List Value} {h : GH} {e : GE} (hd : decode cc pc = .ok (.getfield idx, 3)) (hn : pc + 3 = nx) (hF : gFL own idx t j) (ha : h a = some (gob t fs)) (hv : fs[j]? = some v) (k : J nx ls (v :: st) h e) : J pc ls (.ref a :: st) h e := hJ 14 _ _ _ _ _ _ _ _ _ _ _ _ hd hn hF ha hv k
theorem j_put (hJ : gCl own cc ret ini call J P) {pc idx nx t j a : Nat} {fs : List Value} {v : Value} {ls : GL} {st : List Value} {h : GH} {e : GE} (hd : decode cc pc = .ok (.putfield idx, 3)) (hn : pc + 3 = nx) (hF : gFL own idx t j) (hS : gFSn t j v) (ha : h a = some (gob t fs)) (hl : j < fs.length) (k : J nx ls st (gup h a (gob t (fs.set j v))) e) : J pc ls (v :: .ref a :: st) h e := hJ 15 _ _ _ _ _ _ _ _ _ _ _ _ hd hn hF hS ha hl k
theorem j_putF (hJ : gCl own cc ret ini call J P) {pc idx nx t j a : Nat} {fs : List Value} {v : Value} {ls : GL} {st : List Value} {h : GH} {e : GE} (hd : decode cc pc = .ok (.putfield idx, 3)) (hn : pc + 3 = nx) (hF : gFL own idx t j) (hi : ini = true) (hS : gFS own t j true v) (ha : h a = some (gob t fs)) (hl : j < fs.length) (k : J nx ls st (gup h a (gob t (fs.set j v))) e) : J pc ls (v :: .ref a :: st) h e := hJ 16 _ _ _ _ _ _ _ _ _ _ _ _ hd hn hF hi hS ha hl k
theorem j_iald0 (hJ : gCl own cc ret ini call J P) {pc nx n a : Nat} {f : Nat → Int32} {i : Int32} {ls : GL} {st : List Value} {h : GH} {e : GE} (hd : decode cc pc = .ok (.iaload, 1)) (hn : pc + 1 = nx) (ha : h a = some (gia n f)) (hi : vp_in i n) (k : J nx ls (.int (f i.toNatClampNeg) :: st) h e) : J pc ls (.int i :: .ref a :: st) h e := hJ 17 _ _ _ _ _ _ _ _ _ _ hd hn ha hi k
theorem j_iald (hJ : gCl own cc ret ini call J P) {pc nx n a : Nat} {f : Nat → Int32} (j : Nat) {i : Int32} {ls : GL} {st : List Value} {h : GH} {e : GE} (hd : decode cc pc = .ok (.iaload, 1)) (hn : pc + 1 = nx) (ha : h a = some (gia n f)) (hi : i = nI j) (hj : j < n) (hb : n < 2 ^ 31) (k : J nx ls (.int (f j) :: st) h e) : J pc ls (.int i :: .ref a :: st) h e := by
  subst hi
  refine j_iald0 hJ hd hn ha (vp_in_nI hj hb) ?_
  rw [nI_clamp (by omega)]
  exact k
theorem j_iast0 (hJ : gCl own cc ret ini call J P) {pc nx n a : Nat} {f : Nat → Int32} {i x : Int32} {ls : GL} {st : List Value} {h : GH} {e : GE} (hd : decode cc pc = .ok (.iastore, 1)) (hn : pc + 1 = nx) (ha : h a = some (gia n f)) (hi : vp_in i n) (k : J nx ls st (gup h a (gia n (upd f i.toNatClampNeg x))) e) : J pc ls (.int x :: .int i :: .ref a :: st) h e := hJ 18 _ _ _ _ _ _ _ _ _ _ _ hd hn ha hi k
theorem j_iast (hJ : gCl own cc ret ini call J P) {pc nx n a : Nat} {f : Nat → Int32} (j : Nat) {i x : Int32} {ls : GL} {st : List Value} {h : GH} {e : GE} (hd : decode cc pc = .ok (.iastore, 1)) (hn : pc + 1 = nx) (ha : h a = some (gia n f)) (hi : i = nI j) (hj : j < n) (hb : n < 2 ^ 31) (k : J nx ls st (gup h a (gia n (upd f j x))) e) : J pc ls (.int x :: .int i :: .ref a :: st) h e := by
  subst hi
  refine j_iast0 hJ hd hn ha (vp_in_nI hj hb) ?_
  rw [nI_clamp (by omega)]
  exact k
theorem j_lald (hJ : gCl own cc ret ini call J P) {pc nx n a : Nat} {f : Nat → Int64} (j : Nat) {i : Int32} {ls : GL} {st : List Value} {h : GH} {e : GE} (hd : decode cc pc = .ok (.laload, 1)) (hn : pc + 1 = nx) (ha : h a = some (gla n f)) (hi : i = nI j) (hj : j < n) (hb : n < 2 ^ 31) (k : J nx ls (.long (f j) :: st) h e) : J pc ls (.int i :: .ref a :: st) h e := by
  subst hi
  refine hJ 19 _ _ _ _ _ _ _ _ _ _ hd hn ha (vp_in_nI hj hb) ?_
  rw [nI_clamp (by omega)]
  exact k
theorem j_last (hJ : gCl own cc ret ini call J P) {pc nx n a : Nat} {f : Nat → Int64} (j : Nat) {i : Int32} {x : Int64} {ls : GL} {st : List Value} {h : GH} {e : GE} (hd : decode cc pc = .ok (.lastore, 1)) (hn : pc + 1 = nx) (ha : h a = some (gla n f)) (hi : i = nI j) (hj : j < n) (hb : n < 2 ^ 31) (k : J nx ls st (gup h a (gla n (vp_updL f j x))) e) : J pc ls (.long x :: .int i :: .ref a :: st) h e := by
  subst hi
  refine hJ 20 _ _ _ _ _ _ _ _ _ _ _ hd hn ha (vp_in_nI hj hb) ?_
  rw [nI_clamp (by omega)]
  exact k
theorem j_aald (hJ : gCl own cc ret ini call J P) {pc nx t n a b : Nat} {f : Nat → Option Nat} (j : Nat) {i : Int32} {ls : GL} {st : List Value} {h : GH} {e : GE} (hd : decode cc pc = .ok (.aaload, 1)) (hn : pc + 1 = nx) (ha : h a = some (gra t n f)) (hi : i = nI j) (hj : j < n) (hb : n < 2 ^ 31) (ht : t = 2 ∨ t = 4) (hf : f j = some b) (k : J nx ls (.ref b :: st) h e) : J pc ls (.int i :: .ref a :: st) h e := by
  subst hi
  refine hJ 21 _ _ _ _ _ _ _ _ _ _ _ hd hn ha (vp_in_nI hj hb) ht ?_
  rw [nI_clamp (by omega), hf]
  exact k
theorem j_aast (hJ : gCl own cc ret ini call J P) {pc nx t n a v : Nat} {vs : List Value} {f : Nat → Option Nat} (j : Nat) {i : Int32} {ls : GL} {st : List Value} {h : GH} {e : GE} (hd : decode cc pc = .ok (.aastore, 1)) (hn : pc + 1 = nx) (ha : h a = some (gra t n f)) (hv : h v = some (gob t vs)) (hi : i = nI j) (hj : j < n) (hb : n < 2 ^ 31) (ht : t = 2 ∨ t = 4) (k : J nx ls st (gup h a (gra t n (va_up f j (some v)))) e) : J pc ls (.ref v :: .int i :: .ref a :: st) h e := by
  subst hi
  refine hJ 22 _ _ _ _ _ _ _ _ _ _ _ _ _ hd hn ha hv (vp_in_nI hj hb) ht ?_
  rw [nI_clamp (by omega)]
  exact k
theorem j_len (hJ : gCl own cc ret ini call J P) {pc nx n a : Nat} {f : Nat → Int32} {ls : GL} {st : List Value} {h : GH} {e : GE} (hd : decode cc pc = .ok (.arraylength, 1)) (hn : pc + 1 = nx) (ha : h a = some (gia n f)) (k : J nx ls (.int (nI n) :: st) h e) : J pc ls (.ref a :: st) h e := hJ 23 _ _ _ _ _ _ _ _ _ hd hn ha rfl (fun _ _ _ q => by cases q) k
theorem j_lenR (hJ : gCl own cc ret ini call J P) {pc nx t n a : Nat} {f : Nat → Option Nat} {ls : GL} {st : List Value} {h : GH} {e : GE} (hd : decode cc pc = .ok (.arraylength, 1)) (hn : pc + 1 = nx) (ha : h a = some (gra t n f)) (ht : t = 2 ∨ t = 4) (k : J nx ls (.int (nI n) :: st) h e) : J pc ls (.ref a :: st) h e := hJ 23 _ _ _ _ _ _ _ _ _ hd hn ha rfl (fun _ _ _ q => by cases q; exact ht) k
theorem j_acp (hJ : gCl own cc ret ini call J P) {pc idx nx a0 a n0 n1 : Nat} {f g : Nat → Int32} (s t m : Nat) {sp dp n : Int32} {ls : GL} {st : List Value} {h : GH} {e : GE} (hd : decode cc pc = .ok (.invokestatic idx, 3)) (hn : pc + 3 = nx) (hw : Cond.methodLink own idx arraycopyName ∈ lw_tbl) (hc : gcat st ≤ 8) (h0 : h a0 = some (gia n0 f)) (h1 : h a = some (gia n1 g)) (es : sp = nI s) (et : dp = nI t) (em : n = nI m) (b0 : s + m ≤ n0) (b1 : t + m ≤ n1) (c0 : n0 < 2 ^ 31) (c1 : n1 < 2 ^ 31)
    (k : J nx ls st (gup h a (gia n1 (va_cpy f g s t m))) (e.1, e.2.1, e.2.2.1, false)) : J pc ls (.int n :: .int dp :: .ref a :: .int sp :: .ref a0 :: st) h e := by
  subst es et em
  refine hJ 35 _ _ _ _ _ _ _ _ _ _ _ _ _ _ _ _ hd hn hw hc h0 h1 (nI_pos (by omega)) (nI_pos (by omega)) (nI_pos (by omega)) (by rw [nI_clamp (by omega), nI_clamp (by omega)]; exact b0) (by rw [nI_clamp (by omega), nI_clamp (by omega)]; exact b1) ?_
  rw [nI_clamp (show s < 2 ^ 31 by omega), nI_clamp (show t < 2 ^ 31 by omega), nI_clamp (show m < 2 ^ 31 by omega)]
  exact k
theorem j_max (hJ : gCl own cc ret ini call J P) {pc idx nx : Nat} {x y : Int32} {ls : GL} {st : List Value} {h : GH} {e : GE} (hd : decode cc pc = .ok (.invokestatic idx, 3)) (hn : pc + 3 = nx) (hw : Cond.methodLink own idx Lib.Math.max.name ∈ lw_tbl) (hc : gcat st ≤ 8) (k : J nx ls (.int (if x < y then y else x) :: st) h e) : J pc ls (.int y :: .int x :: st) h e := hJ 45 _ _ _ _ _ _ _ _ _ hd hn hw hc k
theorem j_min (hJ : gCl own cc ret ini call J P) {pc idx nx : Nat} {x y : Int32} {ls : GL} {st : List Value} {h : GH} {e : GE} (hd : decode cc pc = .ok (.invokestatic idx, 3)) (hn : pc + 3 = nx) (hw : Cond.methodLink own idx Lib.Math.min.name ∈ lw_tbl) (hc : gcat st ≤ 8) (k : J nx ls (.int (if y < x then y else x) :: st) h e) : J pc ls (.int y :: .int x :: st) h e := hJ 46 _ _ _ _ _ _ _ _ _ hd hn hw hc k
end GROW
section GROWR
variable {own : String} {cc : ByteArray} {ret : Option FieldType} {ini : Bool} {call : CT} {J : JT} {n : Nat} {fl : Bool} {P : Option Value → GH → Prop}
theorem j_iret (hJ : gCl own cc (some .int) ini call J (fun r h' e' => e' = (n, 0, 0, fl) ∧ P r h')) {pc : Nat} {v : Int32} {ls : GL} {h : GH} (hd : decode cc pc = .ok (.ireturn, 1)) (hP : P (some (.int v)) h) : J pc ls [.int v] h (n, 0, 0, fl) := hJ 36 _ _ _ _ _ hd ⟨.int, rfl, rfl⟩ ⟨rfl, hP⟩
theorem j_zret (hJ : gCl own cc (some .boolean) ini call J (fun r h' e' => e' = (n, 0, 0, fl) ∧ P r h')) {pc : Nat} (b : Bool) {v : Int32} {ls : GL} {h : GH} (hd : decode cc pc = .ok (.ireturn, 1)) (hv : v = gb b) (hP : P (some (.int (gb b))) h) : J pc ls [.int v] h (n, 0, 0, fl) := by
  subst hv
  exact hJ 36 _ _ _ _ _ hd ⟨.boolean, rfl, gb_nar b⟩ ⟨rfl, hP⟩
theorem j_lret (hJ : gCl own cc (some .long) ini call J (fun r h' e' => e' = (n, 0, 0, fl) ∧ P r h')) {pc : Nat} {v : Int64} {ls : GL} {h : GH} (hd : decode cc pc = .ok (.lreturn, 1)) (hP : P (some (.long v)) h) : J pc ls [.long v] h (n, 0, 0, fl) := hJ 37 _ _ _ _ _ hd rfl ⟨rfl, hP⟩
theorem j_vret (hJ : gCl own cc none ini call J (fun r h' e' => e' = (n, 0, 0, fl) ∧ P r h')) {pc : Nat} {ls : GL} {h : GH} (hd : decode cc pc = .ok (.return_, 1)) (hP : P none h) : J pc ls [] h (n, 0, 0, fl) := hJ 38 _ _ _ _ hd rfl ⟨rfl, hP⟩
end GROWR
section GROWC
variable {own : String} {cc : ByteArray} {ret : Option FieldType} {ini : Bool} {d : Nat} {J : JT} {P : RT} {Pc : Option Value → GH → Prop}
theorem j_cv (hJ : gCl own cc ret ini (gRuns d) J P) {pc idx nx t a n bc bs : Nat} {fl : Bool} {fs : List Value} {y : MethodName} {As : List Value} {ls : GL} {st st0 : List Value} {h : GH} (hd : decode cc pc = .ok (.invokevirtual idx, 3)) (hn : pc + 3 = nx) (hc : gN fl d y (.ref a :: As) h Pc) (hM : gMV own idx y As.length) (ha : h a = some (gob t fs)) (ht : (vwCl[t]?).map (fun q => q.1) = some y.cls) (hst : st0 = As.reverse ++ .ref a :: st) (hcat : gcat st ≤ 8)
    (kk : ∀ r h', Pc r h' → J nx ls (r.toList ++ st) h' (n, bc, bs, fl)) : J pc ls st0 h (n, bc, bs, fl) := by
  refine hJ 28 _ _ _ _ _ 0 0 _ _ _ _ _ _ _ _ hd hn hM ha ht hcat hst (Nat.zero_le _) (Nat.zero_le _) (gRuns_post (hc n) (fun r h' e' q => ?_))
  obtain ⟨rfl, q2⟩ := q
  exact kk r h' q2
theorem j_cvR (hJ : gCl own cc ret ini (gRuns d) J P) {pc idx nx t a n bc bs : Nat} {fl : Bool} {fs : List Value} {y : MethodName} {As : List Value} {v : Value} {ls : GL} {st st0 : List Value} {h : GH} (hd : decode cc pc = .ok (.invokevirtual idx, 3)) (hn : pc + 3 = nx) (hc : gR fl d y (.ref a :: As) h v) (hM : gMV own idx y As.length) (ha : h a = some (gob t fs)) (ht : (vwCl[t]?).map (fun q => q.1) = some y.cls) (hst : st0 = As.reverse ++ .ref a :: st) (hcat : gcat st ≤ 8)
    (kk : J nx ls (v :: st) h (n, bc, bs, fl)) : J pc ls st0 h (n, bc, bs, fl) :=
  j_cv hJ hd hn hc hM ha ht hst hcat (fun r h' q => by obtain ⟨rfl, rfl⟩ := q; exact kk)
theorem j_cs (hJ : gCl own cc ret ini (gRuns d) J P) {pc idx nx n bc bs : Nat} {fl : Bool} {y : MethodName} {As : List Value} {ls : GL} {st st0 : List Value} {h : GH} (hd : decode cc pc = .ok (.invokestatic idx, 3)) (hn : pc + 3 = nx) (hc : gN fl d y As h Pc) (hM : gMS own idx y As.length) (hst : st0 = As.reverse ++ st) (hcat : gcat st ≤ 8)
    (kk : ∀ r h', Pc r h' → J nx ls (r.toList ++ st) h' (n, bc, bs, fl)) : J pc ls st0 h (n, bc, bs, fl) := by
  refine hJ 30 _ _ _ 0 0 _ _ _ _ _ _ _ hd hn hM hcat hst (Nat.zero_le _) (Nat.zero_le _) (gRuns_post (hc n) (fun r h' e' q => ?_))
  obtain ⟨rfl, q2⟩ := q
  exact kk r h' q2
theorem j_csR (hJ : gCl own cc ret ini (gRuns d) J P) {pc idx nx n bc bs : Nat} {fl : Bool} {y : MethodName} {As : List Value} {v : Value} {ls : GL} {st st0 : List Value} {h : GH} (hd : decode cc pc = .ok (.invokestatic idx, 3)) (hn : pc + 3 = nx) (hc : gR fl d y As h v) (hM : gMS own idx y As.length) (hst : st0 = As.reverse ++ st) (hcat : gcat st ≤ 8)
    (kk : J nx ls (v :: st) h (n, bc, bs, fl)) : J pc ls st0 h (n, bc, bs, fl) :=
  j_cs hJ hd hn hc hM hst hcat (fun r h' q => by obtain ⟨rfl, rfl⟩ := q; exact kk)
theorem j_csNR (hJ : gCl own cc ret ini (gRuns d) J P) {pc idx nx n bc bs : Nat} {fl : Bool} {y : MethodName} {As : List Value} {v : Value} {ls : GL} {st st0 : List Value} {h : GH} (hd : decode cc pc = .ok (.invokestatic idx, 3)) (hn : pc + 3 = nx) (hc : gR fl d y As h v) (hM : gMSN own idx y As.length) (hst : st0 = As.reverse ++ st) (hcat : gcat st ≤ 8)
    (kk : J nx ls (v :: st) h (n, bc, bs, fl)) : J pc ls st0 h (n, bc, bs, fl) := by
  refine hJ 31 _ _ _ 0 0 _ _ _ _ _ _ _ hd hn hM hcat hst (Nat.zero_le _) (Nat.zero_le _) (gRuns_post (hc n) (fun r h' e' q => ?_))
  obtain ⟨rfl, rfl, rfl⟩ := q
  exact kk
theorem j_cvS (hJ : gCl own cc ret ini (gRuns d) J P) {pc idx nx i n bc bs : Nat} {fl : Bool} {y : MethodName} {As : List Value} {v : Value} {ls : GL} {st st0 : List Value} {h : GH} (hd : decode cc pc = .ok (.invokevirtual idx, 3)) (hn : pc + 3 = nx) (hc : gR fl d y (.ref (1000000 + i) :: As) h v) (hM : gMV own idx y As.length) (hi : i < 5) (hy : y.cls = "java/lang/String") (hst : st0 = As.reverse ++ .ref (1000000 + i) :: st) (hcat : gcat st ≤ 8)
    (kk : J nx ls (v :: st) h (n, bc, bs, fl)) : J pc ls st0 h (n, bc, bs, fl) := by
  refine hJ 29 _ _ _ _ 0 0 _ _ _ _ _ _ _ hd hn hM hi hy hcat hst (Nat.zero_le _) (Nat.zero_le _) (gRuns_post (hc n) (fun r h' e' q => ?_))
  obtain ⟨rfl, rfl, rfl⟩ := q
  exact kk
theorem gle8 {st : List Value} (h : Nat.ble (gcat st) 8 = true) : gcat st ≤ 8 := Nat.le_of_ble_eq_true h
end GROWC
end
section
/-! static facts, printed by wip/whole/gen/facts.py -/
theorem fX2_21 : gFL RX2 21 2 0 := ⟨_, _, _, rfl, by decide, tb_at 91 (by decide +kernel)⟩
theorem fX5_295 : gFL RX5 295 2 0 := ⟨_, _, _, rfl, by decide, tb_at 92 (by decide +kernel)⟩
theorem fX2_9 : gFL RX2 9 2 1 := ⟨_, _, _, rfl, by decide, tb_at 93 (by decide +kernel)⟩
theorem fX1_25 : gFL RX1 25 2 1 := ⟨_, _, _, rfl, by decide, tb_at 94 (by decide +kernel)⟩
theorem fX5_70 : gFL RX5 70 2 1 := ⟨_, _, _, rfl, by decide, tb_at 95 (by decide +kernel)⟩
theorem fX3_64 : gFL RX3 64 2 1 := ⟨_, _, _, rfl, by decide, tb_at 96 (by decide +kernel)⟩
theorem fX5_63 : gFL RX5 63 0 0 := ⟨_, _, _, rfl, by decide, tb_at 119 (by decide +kernel)⟩
theorem fX0_33 : gFL RX0 33 0 0 := ⟨_, _, _, rfl, by decide, tb_at 120 (by decide +kernel)⟩
theorem fX3_70 : gFL RX3 70 0 0 := ⟨_, _, _, rfl, by decide, tb_at 121 (by decide +kernel)⟩
theorem fX0_11 : gFL RX0 11 0 1 := ⟨_, _, _, rfl, by decide, tb_at 122 (by decide +kernel)⟩
theorem fX5_121 : gFL RX5 121 0 1 := ⟨_, _, _, rfl, by decide, tb_at 123 (by decide +kernel)⟩
theorem fX0_17 : gFL RX0 17 0 2 := ⟨_, _, _, rfl, by decide, tb_at 124 (by decide +kernel)⟩
theorem fX5_213 : gFL RX5 213 0 2 := ⟨_, _, _, rfl, by decide, tb_at 125 (by decide +kernel)⟩
theorem fX0_20 : gFL RX0 20 0 3 := ⟨_, _, _, rfl, by decide, tb_at 126 (by decide +kernel)⟩
theorem fX3_60 : gFL RX3 60 0 3 := ⟨_, _, _, rfl, by decide, tb_at 127 (by decide +kernel)⟩
theorem fX5_235 : gFL RX5 235 0 3 := ⟨_, _, _, rfl, by decide, tb_at 128 (by decide +kernel)⟩
theorem fX0_41 : gFL RX0 41 0 4 := ⟨_, _, _, rfl, by decide, tb_at 129 (by decide +kernel)⟩
theorem fX3_55 : gFL RX3 55 0 4 := ⟨_, _, _, rfl, by decide, tb_at 130 (by decide +kernel)⟩
theorem fX5_232 : gFL RX5 232 0 4 := ⟨_, _, _, rfl, by decide, tb_at 131 (by decide +kernel)⟩
theorem fX1_9 : gFL RX1 9 1 0 := ⟨_, _, _, rfl, by decide, tb_at 153 (by decide +kernel)⟩
theorem fX1_15 : gFL RX1 15 1 1 := ⟨_, _, _, rfl, by decide, tb_at 154 (by decide +kernel)⟩
theorem fX1_18 : gFL RX1 18 1 2 := ⟨_, _, _, rfl, by decide, tb_at 155 (by decide +kernel)⟩
theorem fX1_65 : gFL RX1 65 1 3 := ⟨_, _, _, rfl, by decide, tb_at 156 (by decide +kernel)⟩
theorem fX1_62 : gFL RX1 62 1 4 := ⟨_, _, _, rfl, by decide, tb_at 157 (by decide +kernel)⟩
theorem fX1_35 : gFL RX1 35 1 5 := ⟨_, _, _, rfl, by decide, tb_at 158 (by decide +kernel)⟩
theorem fX3_20 : gFL RX3 20 3 0 := ⟨_, _, _, rfl, by decide, tb_at 180 (by decide +kernel)⟩
theorem fX3_24 : gFL RX3 24 3 1 := ⟨_, _, _, rfl, by decide, tb_at 181 (by decide +kernel)⟩
theorem fX3_14 : gFL RX3 14 3 2 := ⟨_, _, _, rfl, by decide, tb_at 182 (by decide +kernel)⟩
theorem fX5_254 : gFL RX5 254 3 2 := ⟨_, _, _, rfl, by decide, tb_at 183 (by decide +kernel)⟩
theorem fX3_28 : gFL RX3 28 3 3 := ⟨_, _, _, rfl, by decide, tb_at 184 (by decide +kernel)⟩
theorem fX3_44 : gFL RX3 44 3 4 := ⟨_, _, _, rfl, by decide, tb_at 185 (by decide +kernel)⟩
theorem fX3_32 : gFL RX3 32 3 5 := ⟨_, _, _, rfl, by decide, tb_at 186 (by decide +kernel)⟩
theorem fX4_9 : gFL RX4 9 4 0 := ⟨_, _, _, rfl, by decide, tb_at 207 (by decide +kernel)⟩
theorem fX5_276 : gFL RX5 276 4 0 := ⟨_, _, _, rfl, by decide, tb_at 208 (by decide +kernel)⟩
theorem fX4_20 : gFL RX4 20 4 1 := ⟨_, _, _, rfl, by decide, tb_at 209 (by decide +kernel)⟩
theorem fX5_279 : gFL RX5 279 4 1 := ⟨_, _, _, rfl, by decide, tb_at 210 (by decide +kernel)⟩
theorem fX5_12 : gFL RX5 12 5 0 := ⟨_, _, _, rfl, by decide, tb_at 216 (by decide +kernel)⟩
theorem fX5_18 : gFL RX5 18 5 1 := ⟨_, _, _, rfl, by decide, tb_at 217 (by decide +kernel)⟩
theorem fX5_21 : gFL RX5 21 5 2 := ⟨_, _, _, rfl, by decide, tb_at 218 (by decide +kernel)⟩
theorem fX5_30 : gFL RX5 30 5 3 := ⟨_, _, _, rfl, by decide, tb_at 219 (by decide +kernel)⟩
theorem fX5_36 : gFL RX5 36 5 4 := ⟨_, _, _, rfl, by decide, tb_at 220 (by decide +kernel)⟩
theorem fX5_43 : gFL RX5 43 5 5 := ⟨_, _, _, rfl, by decide, tb_at 221 (by decide +kernel)⟩
theorem fX5_52 : gFL RX5 52 5 6 := ⟨_, _, _, rfl, by decide, tb_at 222 (by decide +kernel)⟩
theorem fX5_56 : gFL RX5 56 5 7 := ⟨_, _, _, rfl, by decide, tb_at 223 (by decide +kernel)⟩
theorem fX5_59 : gFL RX5 59 5 8 := ⟨_, _, _, rfl, by decide, tb_at 224 (by decide +kernel)⟩
theorem fX6_9 : gFL RX6 9 6 0 := ⟨_, _, _, rfl, by decide, tb_at 723 (by decide +kernel)⟩
theorem fX6_15 : gFL RX6 15 6 1 := ⟨_, _, _, rfl, by decide, tb_at 724 (by decide +kernel)⟩
theorem fX6_19 : gFL RX6 19 6 2 := ⟨_, _, _, rfl, by decide, tb_at 725 (by decide +kernel)⟩
theorem fX6_22 : gFL RX6 22 6 3 := ⟨_, _, _, rfl, by decide, tb_at 726 (by decide +kernel)⟩
theorem fX6_25 : gFL RX6 25 6 4 := ⟨_, _, _, rfl, by decide, tb_at 727 (by decide +kernel)⟩
theorem fX6_98 : gFL RX6 98 6 5 := ⟨_, _, _, rfl, by decide, tb_at 728 (by decide +kernel)⟩
theorem fX6_28 : gFL RX6 28 6 6 := ⟨_, _, _, rfl, by decide, tb_at 729 (by decide +kernel)⟩
theorem fX6_31 : gFL RX6 31 6 7 := ⟨_, _, _, rfl, by decide, tb_at 730 (by decide +kernel)⟩
theorem fX6_34 : gFL RX6 34 6 8 := ⟨_, _, _, rfl, by decide, tb_at 731 (by decide +kernel)⟩
theorem fX6_105 : gFL RX6 105 6 9 := ⟨_, _, _, rfl, by decide, tb_at 732 (by decide +kernel)⟩
theorem fX6_37 : gFL RX6 37 6 10 := ⟨_, _, _, rfl, by decide, tb_at 733 (by decide +kernel)⟩
theorem fX6_112 : gFL RX6 112 6 11 := ⟨_, _, _, rfl, by decide, tb_at 734 (by decide +kernel)⟩
theorem fX6_40 : gFL RX6 40 6 12 := ⟨_, _, _, rfl, by decide, tb_at 735 (by decide +kernel)⟩
theorem fX6_185 : gFL RX6 185 6 13 := ⟨_, _, _, rfl, by decide, tb_at 736 (by decide +kernel)⟩
theorem fX6_188 : gFL RX6 188 6 14 := ⟨_, _, _, rfl, by decide, tb_at 737 (by decide +kernel)⟩
theorem fX6_191 : gFL RX6 191 6 15 := ⟨_, _, _, rfl, by decide, tb_at 738 (by decide +kernel)⟩
theorem fX6_194 : gFL RX6 194 6 16 := ⟨_, _, _, rfl, by decide, tb_at 739 (by decide +kernel)⟩
theorem fX6_197 : gFL RX6 197 6 17 := ⟨_, _, _, rfl, by decide, tb_at 740 (by decide +kernel)⟩
theorem fX6_43 : gFL RX6 43 6 18 := ⟨_, _, _, rfl, by decide, tb_at 741 (by decide +kernel)⟩
theorem fX6_46 : gFL RX6 46 6 19 := ⟨_, _, _, rfl, by decide, tb_at 742 (by decide +kernel)⟩
theorem fX6_49 : gFL RX6 49 6 20 := ⟨_, _, _, rfl, by decide, tb_at 743 (by decide +kernel)⟩
theorem fX6_200 : gFL RX6 200 6 21 := ⟨_, _, _, rfl, by decide, tb_at 744 (by decide +kernel)⟩
theorem fX6_203 : gFL RX6 203 6 22 := ⟨_, _, _, rfl, by decide, tb_at 745 (by decide +kernel)⟩
theorem fX6_206 : gFL RX6 206 6 23 := ⟨_, _, _, rfl, by decide, tb_at 746 (by decide +kernel)⟩
theorem fX6_52 : gFL RX6 52 6 24 := ⟨_, _, _, rfl, by decide, tb_at 747 (by decide +kernel)⟩
theorem fX6_55 : gFL RX6 55 6 25 := ⟨_, _, _, rfl, by decide, tb_at 748 (by decide +kernel)⟩
theorem fX6_58 : gFL RX6 58 6 26 := ⟨_, _, _, rfl, by decide, tb_at 749 (by decide +kernel)⟩
theorem fX6_253 : gFL RX6 253 6 27 := ⟨_, _, _, rfl, by decide, tb_at 750 (by decide +kernel)⟩
theorem fX6_61 : gFL RX6 61 6 28 := ⟨_, _, _, rfl, by decide, tb_at 751 (by decide +kernel)⟩
theorem fX6_64 : gFL RX6 64 6 29 := ⟨_, _, _, rfl, by decide, tb_at 752 (by decide +kernel)⟩
theorem fX6_67 : gFL RX6 67 6 30 := ⟨_, _, _, rfl, by decide, tb_at 753 (by decide +kernel)⟩
theorem fX6_70 : gFL RX6 70 6 31 := ⟨_, _, _, rfl, by decide, tb_at 754 (by decide +kernel)⟩
theorem fX6_74 : gFL RX6 74 6 32 := ⟨_, _, _, rfl, by decide, tb_at 755 (by decide +kernel)⟩
theorem fX6_294 : gFL RX6 294 6 33 := ⟨_, _, _, rfl, by decide, tb_at 756 (by decide +kernel)⟩
theorem fX6_288 : gFL RX6 288 6 34 := ⟨_, _, _, rfl, by decide, tb_at 757 (by decide +kernel)⟩
theorem fX6_291 : gFL RX6 291 6 35 := ⟨_, _, _, rfl, by decide, tb_at 758 (by decide +kernel)⟩
theorem fX6_77 : gFL RX6 77 6 36 := ⟨_, _, _, rfl, by decide, tb_at 759 (by decide +kernel)⟩
theorem fX6_80 : gFL RX6 80 6 37 := ⟨_, _, _, rfl, by decide, tb_at 760 (by decide +kernel)⟩
theorem fX6_83 : gFL RX6 83 6 38 := ⟨_, _, _, rfl, by decide, tb_at 761 (by decide +kernel)⟩
theorem fX6_86 : gFL RX6 86 6 39 := ⟨_, _, _, rfl, by decide, tb_at 762 (by decide +kernel)⟩
theorem fX6_89 : gFL RX6 89 6 40 := ⟨_, _, _, rfl, by decide, tb_at 763 (by decide +kernel)⟩
theorem fX6_92 : gFL RX6 92 6 41 := ⟨_, _, _, rfl, by decide, tb_at 764 (by decide +kernel)⟩
theorem zX0_0 (v : Int32) : gFSn 0 0 (.int v) := ⟨_, _, _, .int, rfl, rfl, by decide +kernel, rfl, rfl⟩
theorem zX0_1 (a : Nat) : gFS RX0 0 1 true (.ref a) := ⟨_, _, _, .array (.object "PatternLanguages$Row"), rfl, rfl, rfl, by decide +kernel, rfl, rfl⟩
theorem zX0_2 (a : Nat) : gFS RX0 0 2 true (.ref a) := ⟨_, _, _, .array (.object "PatternLanguages$Row"), rfl, rfl, rfl, by decide +kernel, rfl, rfl⟩
theorem zX0_3 (a : Nat) : gFS RX0 0 3 true (.ref a) := ⟨_, _, _, .array (.object "PatternLanguages$Row"), rfl, rfl, rfl, by decide +kernel, rfl, rfl⟩
theorem zX0_4 (v : Int32) : gFSn 0 4 (.int v) := ⟨_, _, _, .int, rfl, rfl, by decide +kernel, rfl, rfl⟩
theorem zX1_0 (a : Nat) : gFS RX1 1 0 true (.ref a) := ⟨_, _, _, .array .int, rfl, rfl, rfl, by decide +kernel, rfl, rfl⟩
theorem zX1_1 (a : Nat) : gFS RX1 1 1 true (.ref a) := ⟨_, _, _, .array .int, rfl, rfl, rfl, by decide +kernel, rfl, rfl⟩
theorem zX1_2 (a : Nat) : gFS RX1 1 2 true (.ref a) := ⟨_, _, _, .array .int, rfl, rfl, rfl, by decide +kernel, rfl, rfl⟩
theorem zX1_3 (v : Int32) : gFSn 1 3 (.int v) := ⟨_, _, _, .int, rfl, rfl, by decide +kernel, rfl, rfl⟩
theorem zX1_4 (v : Int32) : gFSn 1 4 (.int v) := ⟨_, _, _, .int, rfl, rfl, by decide +kernel, rfl, rfl⟩
theorem zX1_5 (v : Int32) : gFSn 1 5 (.int v) := ⟨_, _, _, .int, rfl, rfl, by decide +kernel, rfl, rfl⟩
theorem zX2_0 (a : Nat) : gFS RX2 2 0 true (.ref a) := ⟨_, _, _, .array .int, rfl, rfl, rfl, by decide +kernel, rfl, rfl⟩
theorem zX2_1 (v : Int32) : gFSn 2 1 (.int v) := ⟨_, _, _, .int, rfl, rfl, by decide +kernel, rfl, rfl⟩
theorem zX3_0 (a : Nat) : gFS RX3 3 0 true (.ref a) := ⟨_, _, _, .object "PatternLanguages$Bench", rfl, rfl, rfl, by decide +kernel, rfl, rfl⟩
theorem zX3_1 (a : Nat) : gFS RX3 3 1 true (.ref a) := ⟨_, _, _, .object "PatternLanguages$Matcher", rfl, rfl, rfl, by decide +kernel, rfl, rfl⟩
theorem zX3_2 (a : Nat) : gFS RX3 3 2 true (.ref a) := ⟨_, _, _, .object "PatternLanguages$Row", rfl, rfl, rfl, by decide +kernel, rfl, rfl⟩
theorem zX3_3 (v : Int32) : gFSn 3 3 (.int v) := ⟨_, _, _, .int, rfl, rfl, by decide +kernel, rfl, rfl⟩
theorem zX3_4 (v : Int32) : gFSn 3 4 (.int v) := ⟨_, _, _, .int, rfl, rfl, by decide +kernel, rfl, rfl⟩
theorem zX3_5 (v : Int32) : gFSn 3 5 (.int v) := ⟨_, _, _, .int, rfl, rfl, by decide +kernel, rfl, rfl⟩
theorem zX4_0 (v : Int32) : gFSn 4 0 (.int v) := ⟨_, _, _, .int, rfl, rfl, by decide +kernel, rfl, rfl⟩
theorem zX4_1 (a : Nat) : gFS RX4 4 1 true (.ref a) := ⟨_, _, _, .object "PatternLanguages$Row", rfl, rfl, rfl, by decide +kernel, rfl, rfl⟩
theorem zX5_0 (a : Nat) : gFS RX5 5 0 true (.ref a) := ⟨_, _, _, .object "PatternLanguages$Bench", rfl, rfl, rfl, by decide +kernel, rfl, rfl⟩
theorem zX5_1 (a : Nat) : gFS RX5 5 1 true (.ref a) := ⟨_, _, _, .object "PatternLanguages$Bench", rfl, rfl, rfl, by decide +kernel, rfl, rfl⟩
theorem zX5_2 (b : Bool) : gFSn 5 2 (.int (gb b)) := ⟨_, _, _, .boolean, rfl, rfl, by decide +kernel, gb_nar b, by cases b <;> rfl⟩
theorem zX5_3 (a : Nat) : gFS RX5 5 3 true (.ref a) := ⟨_, _, _, .object "PatternLanguages$Row", rfl, rfl, rfl, by decide +kernel, rfl, rfl⟩
theorem zX5_4 (a : Nat) : gFS RX5 5 4 true (.ref a) := ⟨_, _, _, .array (.object "PatternLanguages$Slot"), rfl, rfl, rfl, by decide +kernel, rfl, rfl⟩
theorem zX5_5 (a : Nat) : gFS RX5 5 5 true (.ref a) := ⟨_, _, _, .object "PatternLanguages$Matcher", rfl, rfl, rfl, by decide +kernel, rfl, rfl⟩
theorem zX5_6 (a : Nat) : gFS RX5 5 6 true (.ref a) := ⟨_, _, _, .object "PatternLanguages$Search", rfl, rfl, rfl, by decide +kernel, rfl, rfl⟩
theorem zX5_7 (a : Nat) : gFS RX5 5 7 true (.ref a) := ⟨_, _, _, .object "PatternLanguages$Row", rfl, rfl, rfl, by decide +kernel, rfl, rfl⟩
theorem zX5_8 (a : Nat) : gFS RX5 5 8 true (.ref a) := ⟨_, _, _, .object "PatternLanguages$Row", rfl, rfl, rfl, by decide +kernel, rfl, rfl⟩
theorem zX6_0 (v : Int32) : gFSn 6 0 (.int v) := ⟨_, _, _, .int, rfl, rfl, by decide +kernel, rfl, rfl⟩
theorem zX6_1 (a : Nat) : gFS RX6 6 1 true (.ref a) := ⟨_, _, _, .array .int, rfl, rfl, rfl, by decide +kernel, rfl, rfl⟩
theorem zX6_2 (a : Nat) : gFS RX6 6 2 true (.ref a) := ⟨_, _, _, .array .int, rfl, rfl, rfl, by decide +kernel, rfl, rfl⟩
theorem zX6_3 (a : Nat) : gFS RX6 6 3 true (.ref a) := ⟨_, _, _, .array .int, rfl, rfl, rfl, by decide +kernel, rfl, rfl⟩
theorem zX6_4 (a : Nat) : gFS RX6 6 4 true (.ref a) := ⟨_, _, _, .array .int, rfl, rfl, rfl, by decide +kernel, rfl, rfl⟩
theorem zX6_5 (v : Int32) : gFSn 6 5 (.int v) := ⟨_, _, _, .int, rfl, rfl, by decide +kernel, rfl, rfl⟩
theorem zX6_6 (a : Nat) : gFS RX6 6 6 true (.ref a) := ⟨_, _, _, .array .int, rfl, rfl, rfl, by decide +kernel, rfl, rfl⟩
theorem zX6_7 (a : Nat) : gFS RX6 6 7 true (.ref a) := ⟨_, _, _, .array .int, rfl, rfl, rfl, by decide +kernel, rfl, rfl⟩
theorem zX6_8 (a : Nat) : gFS RX6 6 8 true (.ref a) := ⟨_, _, _, .array .int, rfl, rfl, rfl, by decide +kernel, rfl, rfl⟩
theorem zX6_9 (v : Int32) : gFSn 6 9 (.int v) := ⟨_, _, _, .int, rfl, rfl, by decide +kernel, rfl, rfl⟩
theorem zX6_10 (a : Nat) : gFS RX6 6 10 true (.ref a) := ⟨_, _, _, .array .int, rfl, rfl, rfl, by decide +kernel, rfl, rfl⟩
theorem zX6_11 (v : Int32) : gFSn 6 11 (.int v) := ⟨_, _, _, .int, rfl, rfl, by decide +kernel, rfl, rfl⟩
theorem zX6_12 (a : Nat) : gFS RX6 6 12 true (.ref a) := ⟨_, _, _, .array .int, rfl, rfl, rfl, by decide +kernel, rfl, rfl⟩
theorem zX6_13 (a : Nat) : gFSn 6 13 (.ref a) := ⟨_, _, _, .array .int, rfl, rfl, by decide +kernel, rfl, rfl⟩
theorem zX6_14 (v : Int32) : gFSn 6 14 (.int v) := ⟨_, _, _, .int, rfl, rfl, by decide +kernel, rfl, rfl⟩
theorem zX6_15 (v : Int32) : gFSn 6 15 (.int v) := ⟨_, _, _, .int, rfl, rfl, by decide +kernel, rfl, rfl⟩
theorem zX6_16 (a : Nat) : gFSn 6 16 (.ref a) := ⟨_, _, _, .array .int, rfl, rfl, by decide +kernel, rfl, rfl⟩
theorem zX6_17 (v : Int32) : gFSn 6 17 (.int v) := ⟨_, _, _, .int, rfl, rfl, by decide +kernel, rfl, rfl⟩
theorem zX6_18 (a : Nat) : gFS RX6 6 18 true (.ref a) := ⟨_, _, _, .array .int, rfl, rfl, rfl, by decide +kernel, rfl, rfl⟩
theorem zX6_19 (a : Nat) : gFS RX6 6 19 true (.ref a) := ⟨_, _, _, .array .int, rfl, rfl, rfl, by decide +kernel, rfl, rfl⟩
theorem zX6_20 (a : Nat) : gFS RX6 6 20 true (.ref a) := ⟨_, _, _, .array .int, rfl, rfl, rfl, by decide +kernel, rfl, rfl⟩
theorem zX6_21 (v : Int32) : gFSn 6 21 (.int v) := ⟨_, _, _, .int, rfl, rfl, by decide +kernel, rfl, rfl⟩
theorem zX6_22 (v : Int32) : gFSn 6 22 (.int v) := ⟨_, _, _, .int, rfl, rfl, by decide +kernel, rfl, rfl⟩
theorem zX6_23 (v : Int32) : gFSn 6 23 (.int v) := ⟨_, _, _, .int, rfl, rfl, by decide +kernel, rfl, rfl⟩
theorem zX6_24 (a : Nat) : gFS RX6 6 24 true (.ref a) := ⟨_, _, _, .array .int, rfl, rfl, rfl, by decide +kernel, rfl, rfl⟩
theorem zX6_25 (a : Nat) : gFS RX6 6 25 true (.ref a) := ⟨_, _, _, .array .int, rfl, rfl, rfl, by decide +kernel, rfl, rfl⟩
theorem zX6_26 (a : Nat) : gFS RX6 6 26 true (.ref a) := ⟨_, _, _, .array .int, rfl, rfl, rfl, by decide +kernel, rfl, rfl⟩
theorem zX6_27 (b : Bool) : gFSn 6 27 (.int (gb b)) := ⟨_, _, _, .boolean, rfl, rfl, by decide +kernel, gb_nar b, by cases b <;> rfl⟩
theorem zX6_28 (a : Nat) : gFS RX6 6 28 true (.ref a) := ⟨_, _, _, .array .int, rfl, rfl, rfl, by decide +kernel, rfl, rfl⟩
theorem zX6_29 (a : Nat) : gFS RX6 6 29 true (.ref a) := ⟨_, _, _, .array .int, rfl, rfl, rfl, by decide +kernel, rfl, rfl⟩
theorem zX6_30 (a : Nat) : gFS RX6 6 30 true (.ref a) := ⟨_, _, _, .array .int, rfl, rfl, rfl, by decide +kernel, rfl, rfl⟩
theorem zX6_31 (a : Nat) : gFS RX6 6 31 true (.ref a) := ⟨_, _, _, .array .long, rfl, rfl, rfl, by decide +kernel, rfl, rfl⟩
theorem zX6_32 (a : Nat) : gFS RX6 6 32 true (.ref a) := ⟨_, _, _, .array .long, rfl, rfl, rfl, by decide +kernel, rfl, rfl⟩
theorem zX6_33 (b : Bool) : gFSn 6 33 (.int (gb b)) := ⟨_, _, _, .boolean, rfl, rfl, by decide +kernel, gb_nar b, by cases b <;> rfl⟩
theorem zX6_34 (v : Int32) : gFSn 6 34 (.int v) := ⟨_, _, _, .int, rfl, rfl, by decide +kernel, rfl, rfl⟩
theorem zX6_35 (v : Int32) : gFSn 6 35 (.int v) := ⟨_, _, _, .int, rfl, rfl, by decide +kernel, rfl, rfl⟩
theorem zX6_36 (a : Nat) : gFS RX6 6 36 true (.ref a) := ⟨_, _, _, .array .int, rfl, rfl, rfl, by decide +kernel, rfl, rfl⟩
theorem zX6_37 (a : Nat) : gFS RX6 6 37 true (.ref a) := ⟨_, _, _, .array .int, rfl, rfl, rfl, by decide +kernel, rfl, rfl⟩
theorem zX6_38 (a : Nat) : gFS RX6 6 38 true (.ref a) := ⟨_, _, _, .array .int, rfl, rfl, rfl, by decide +kernel, rfl, rfl⟩
theorem zX6_39 (a : Nat) : gFS RX6 6 39 true (.ref a) := ⟨_, _, _, .array .int, rfl, rfl, rfl, by decide +kernel, rfl, rfl⟩
theorem zX6_40 (a : Nat) : gFS RX6 6 40 true (.ref a) := ⟨_, _, _, .array .int, rfl, rfl, rfl, by decide +kernel, rfl, rfl⟩
theorem zX6_41 (a : Nat) : gFS RX6 6 41 true (.ref a) := ⟨_, _, _, .array .int, rfl, rfl, rfl, by decide +kernel, rfl, rfl⟩
theorem MJ0_charAt_5068e : gMth yJ0_charAt_5068e cJ0_charAt_5068e 2 (some .char) := ⟨tb_at 413 (by decide +kernel), by decide, by decide +kernel, by decide +kernel⟩
theorem hJ0_charAt_5068e : gNH yJ0_charAt_5068e 1 := ⟨by decide +kernel, by decide +kernel, by decide +kernel⟩
theorem iJ0_charAt_5068e : Cond.instanceMethod yJ0_charAt_5068e ∈ lw_tbl := tb_at 411 (by decide +kernel)
theorem sJ0_charAt_5068e : Cond.selects yJ0_charAt_5068e.cls yJ0_charAt_5068e yJ0_charAt_5068e ∈ lw_tbl := tb_at 412 (by decide +kernel)
theorem nJ0_charAt_5068e : Cond.initialized yJ0_charAt_5068e.cls ∈ lw_tbl := tb_at 60 (by decide +kernel)
theorem MJ0_checkIndex_df160 : gMth yJ0_checkIndex_df160 cJ0_checkIndex_df160 2 none := ⟨tb_at 423 (by decide +kernel), by decide, by decide +kernel, by decide +kernel⟩
theorem hJ0_checkIndex_df160 : gNH yJ0_checkIndex_df160 2 := ⟨by decide +kernel, by decide +kernel, by decide +kernel⟩
theorem tJ0_checkIndex_df160 : Cond.static yJ0_checkIndex_df160 ∈ lw_tbl := tb_at 422 (by decide +kernel)
theorem nJ0_checkIndex_df160 : Cond.initialized yJ0_checkIndex_df160.cls ∈ lw_tbl := tb_at 60 (by decide +kernel)
theorem MJ0_coder_7d493 : gMth yJ0_coder_7d493 cJ0_coder_7d493 1 (some .byte) := ⟨tb_at 407 (by decide +kernel), by decide, by decide +kernel, by decide +kernel⟩
theorem hJ0_coder_7d493 : gNH yJ0_coder_7d493 0 := ⟨by decide +kernel, by decide +kernel, by decide +kernel⟩
theorem iJ0_coder_7d493 : Cond.instanceMethod yJ0_coder_7d493 ∈ lw_tbl := tb_at 405 (by decide +kernel)
theorem sJ0_coder_7d493 : Cond.selects yJ0_coder_7d493.cls yJ0_coder_7d493 yJ0_coder_7d493 ∈ lw_tbl := tb_at 406 (by decide +kernel)
theorem nJ0_coder_7d493 : Cond.initialized yJ0_coder_7d493.cls ∈ lw_tbl := tb_at 60 (by decide +kernel)
theorem MJ0_isLatin1_aae02 : gMth yJ0_isLatin1_aae02 cJ0_isLatin1_aae02 1 (some .boolean) := ⟨tb_at 417 (by decide +kernel), by decide, by decide +kernel, by decide +kernel⟩
theorem hJ0_isLatin1_aae02 : gNH yJ0_isLatin1_aae02 0 := ⟨by decide +kernel, by decide +kernel, by decide +kernel⟩
theorem iJ0_isLatin1_aae02 : Cond.instanceMethod yJ0_isLatin1_aae02 ∈ lw_tbl := tb_at 415 (by decide +kernel)
theorem sJ0_isLatin1_aae02 : Cond.selects yJ0_isLatin1_aae02.cls yJ0_isLatin1_aae02 yJ0_isLatin1_aae02 ∈ lw_tbl := tb_at 416 (by decide +kernel)
theorem nJ0_isLatin1_aae02 : Cond.initialized yJ0_isLatin1_aae02.cls ∈ lw_tbl := tb_at 60 (by decide +kernel)
theorem MJ0_length_8abf5 : gMth yJ0_length_8abf5 cJ0_length_8abf5 1 (some .int) := ⟨tb_at 403 (by decide +kernel), by decide, by decide +kernel, by decide +kernel⟩
theorem hJ0_length_8abf5 : gNH yJ0_length_8abf5 0 := ⟨by decide +kernel, by decide +kernel, by decide +kernel⟩
theorem iJ0_length_8abf5 : Cond.instanceMethod yJ0_length_8abf5 ∈ lw_tbl := tb_at 401 (by decide +kernel)
theorem sJ0_length_8abf5 : Cond.selects yJ0_length_8abf5.cls yJ0_length_8abf5 yJ0_length_8abf5 ∈ lw_tbl := tb_at 402 (by decide +kernel)
theorem nJ0_length_8abf5 : Cond.initialized yJ0_length_8abf5.cls ∈ lw_tbl := tb_at 60 (by decide +kernel)
theorem MJ1_charAt_3b067 : gMth yJ1_charAt_3b067 cJ1_charAt_3b067 2 (some .char) := ⟨tb_at 420 (by decide +kernel), by decide, by decide +kernel, by decide +kernel⟩
theorem hJ1_charAt_3b067 : gNH yJ1_charAt_3b067 2 := ⟨by decide +kernel, by decide +kernel, by decide +kernel⟩
theorem tJ1_charAt_3b067 : Cond.static yJ1_charAt_3b067 ∈ lw_tbl := tb_at 419 (by decide +kernel)
theorem nJ1_charAt_3b067 : Cond.initialized yJ1_charAt_3b067.cls ∈ lw_tbl := tb_at 61 (by decide +kernel)
theorem MJ3_checkIndex_8e157 : gMth yJ3_checkIndex_8e157 cJ3_checkIndex_8e157 3 (some .int) := ⟨tb_at 428 (by decide +kernel), by decide, by decide +kernel, by decide +kernel⟩
theorem hJ3_checkIndex_8e157 : gNH yJ3_checkIndex_8e157 3 := ⟨by decide +kernel, by decide +kernel, by decide +kernel⟩
theorem tJ3_checkIndex_8e157 : Cond.static yJ3_checkIndex_8e157 ∈ lw_tbl := tb_at 427 (by decide +kernel)
theorem nJ3_checkIndex_8e157 : Cond.initialized yJ3_checkIndex_8e157.cls ∈ lw_tbl := tb_at 62 (by decide +kernel)
theorem MJ6_compare_7cf53 : gMth yJ6_compare_7cf53 cJ6_compare_7cf53 2 (some .int) := ⟨tb_at 366 (by decide +kernel), by decide, by decide +kernel, by decide +kernel⟩
theorem hJ6_compare_7cf53 : gNH yJ6_compare_7cf53 2 := ⟨by decide +kernel, by decide +kernel, by decide +kernel⟩
theorem tJ6_compare_7cf53 : Cond.static yJ6_compare_7cf53 ∈ lw_tbl := tb_at 365 (by decide +kernel)
theorem nJ6_compare_7cf53 : Cond.initialized yJ6_compare_7cf53.cls ∈ lw_tbl := tb_at 59 (by decide +kernel)
theorem MX0_begin : gMth yX0_begin cX0_begin 3 none := ⟨tb_at 106 (by decide +kernel), by decide, by decide +kernel, by decide +kernel⟩
theorem hX0_begin : gNH yX0_begin 1 := ⟨by decide +kernel, by decide +kernel, by decide +kernel⟩
theorem iX0_begin : Cond.instanceMethod yX0_begin ∈ lw_tbl := tb_at 104 (by decide +kernel)
theorem sX0_begin : Cond.selects yX0_begin.cls yX0_begin yX0_begin ∈ lw_tbl := tb_at 105 (by decide +kernel)
theorem nX0_begin : Cond.initialized yX0_begin.cls ∈ lw_tbl := tb_at 51 (by decide +kernel)
theorem kX0_begin : (vwCl[0]?).map (fun q => q.1) = some yX0_begin.cls := rfl
theorem MX0_copyRows : gMth yX0_copyRows cX0_copyRows 3 none := ⟨tb_at 707 (by decide +kernel), by decide, by decide +kernel, by decide +kernel⟩
theorem hX0_copyRows : gNH yX0_copyRows 2 := ⟨by decide +kernel, by decide +kernel, by decide +kernel⟩
theorem tX0_copyRows : Cond.static yX0_copyRows ∈ lw_tbl := tb_at 706 (by decide +kernel)
theorem nX0_copyRows : Cond.initialized yX0_copyRows.cls ∈ lw_tbl := tb_at 51 (by decide +kernel)
theorem kX0_copyRows : (vwCl[0]?).map (fun q => q.1) = some yX0_copyRows.cls := rfl
theorem MX0_init : gMth yX0_init cX0_init 1 none := ⟨tb_at 76 (by decide +kernel), by decide, by decide +kernel, by decide +kernel⟩
theorem hX0_init : gNH yX0_init 0 := ⟨by decide +kernel, by decide +kernel, by decide +kernel⟩
theorem iX0_init : Cond.instanceMethod yX0_init ∈ lw_tbl := tb_at 75 (by decide +kernel)
theorem nX0_init : Cond.initialized yX0_init.cls ∈ lw_tbl := tb_at 51 (by decide +kernel)
theorem kX0_init : (vwCl[0]?).map (fun q => q.1) = some yX0_init.cls := rfl
theorem MX0_makeRows : gMth yX0_makeRows cX0_makeRows 2 none := ⟨tb_at 82 (by decide +kernel), by decide, by decide +kernel, by decide +kernel⟩
theorem hX0_makeRows : gNH yX0_makeRows 1 := ⟨by decide +kernel, by decide +kernel, by decide +kernel⟩
theorem tX0_makeRows : Cond.static yX0_makeRows ∈ lw_tbl := tb_at 81 (by decide +kernel)
theorem nX0_makeRows : Cond.initialized yX0_makeRows.cls ∈ lw_tbl := tb_at 51 (by decide +kernel)
theorem kX0_makeRows : (vwCl[0]?).map (fun q => q.1) = some yX0_makeRows.cls := rfl
theorem MX0_setTo : gMth yX0_setTo cX0_setTo 2 none := ⟨tb_at 704 (by decide +kernel), by decide, by decide +kernel, by decide +kernel⟩
theorem hX0_setTo : gNH yX0_setTo 1 := ⟨by decide +kernel, by decide +kernel, by decide +kernel⟩
theorem iX0_setTo : Cond.instanceMethod yX0_setTo ∈ lw_tbl := tb_at 702 (by decide +kernel)
theorem sX0_setTo : Cond.selects yX0_setTo.cls yX0_setTo yX0_setTo ∈ lw_tbl := tb_at 703 (by decide +kernel)
theorem nX0_setTo : Cond.initialized yX0_setTo.cls ∈ lw_tbl := tb_at 51 (by decide +kernel)
theorem kX0_setTo : (vwCl[0]?).map (fun q => q.1) = some yX0_setTo.cls := rfl
theorem MX1_canComeOut : gMth yX1_canComeOut cX1_canComeOut 2 (some .boolean) := ⟨tb_at 501 (by decide +kernel), by decide, by decide +kernel, by decide +kernel⟩
theorem hX1_canComeOut : gNH yX1_canComeOut 1 := ⟨by decide +kernel, by decide +kernel, by decide +kernel⟩
theorem iX1_canComeOut : Cond.instanceMethod yX1_canComeOut ∈ lw_tbl := tb_at 500 (by decide +kernel)
theorem sX1_canComeOut : Cond.selects yX1_canComeOut.cls yX1_canComeOut yX1_canComeOut ∈ lw_tbl := tb_at 12 (by decide +kernel)
theorem nX1_canComeOut : Cond.initialized yX1_canComeOut.cls ∈ lw_tbl := tb_at 54 (by decide +kernel)
theorem kX1_canComeOut : (vwCl[1]?).map (fun q => q.1) = some yX1_canComeOut.cls := rfl
theorem MX1_count : gMth yX1_count cX1_count 11 (some .int) := ⟨tb_at 505 (by decide +kernel), by decide, by decide +kernel, by decide +kernel⟩
theorem hX1_count : gNH yX1_count 6 := ⟨by decide +kernel, by decide +kernel, by decide +kernel⟩
theorem iX1_count : Cond.instanceMethod yX1_count ∈ lw_tbl := tb_at 504 (by decide +kernel)
theorem sX1_count : Cond.selects yX1_count.cls yX1_count yX1_count ∈ lw_tbl := tb_at 13 (by decide +kernel)
theorem nX1_count : Cond.initialized yX1_count.cls ∈ lw_tbl := tb_at 54 (by decide +kernel)
theorem kX1_count : (vwCl[1]?).map (fun q => q.1) = some yX1_count.cls := rfl
theorem MX1_countAll : gMth yX1_countAll cX1_countAll 5 (some .int) := ⟨tb_at 520 (by decide +kernel), by decide, by decide +kernel, by decide +kernel⟩
theorem hX1_countAll : gNH yX1_countAll 3 := ⟨by decide +kernel, by decide +kernel, by decide +kernel⟩
theorem iX1_countAll : Cond.instanceMethod yX1_countAll ∈ lw_tbl := tb_at 518 (by decide +kernel)
theorem sX1_countAll : Cond.selects yX1_countAll.cls yX1_countAll yX1_countAll ∈ lw_tbl := tb_at 519 (by decide +kernel)
theorem nX1_countAll : Cond.initialized yX1_countAll.cls ∈ lw_tbl := tb_at 54 (by decide +kernel)
theorem kX1_countAll : (vwCl[1]?).map (fun q => q.1) = some yX1_countAll.cls := rfl
theorem MX1_countBindings : gMth yX1_countBindings cX1_countBindings 14 (some .int) := ⟨tb_at 509 (by decide +kernel), by decide, by decide +kernel, by decide +kernel⟩
theorem hX1_countBindings : gNH yX1_countBindings 6 := ⟨by decide +kernel, by decide +kernel, by decide +kernel⟩
theorem iX1_countBindings : Cond.instanceMethod yX1_countBindings ∈ lw_tbl := tb_at 508 (by decide +kernel)
theorem sX1_countBindings : Cond.selects yX1_countBindings.cls yX1_countBindings yX1_countBindings ∈ lw_tbl := tb_at 14 (by decide +kernel)
theorem nX1_countBindings : Cond.initialized yX1_countBindings.cls ∈ lw_tbl := tb_at 54 (by decide +kernel)
theorem kX1_countBindings : (vwCl[1]?).map (fun q => q.1) = some yX1_countBindings.cls := rfl
theorem MX1_init : gMth yX1_init cX1_init 1 none := ⟨tb_at 151 (by decide +kernel), by decide, by decide +kernel, by decide +kernel⟩
theorem hX1_init : gNH yX1_init 0 := ⟨by decide +kernel, by decide +kernel, by decide +kernel⟩
theorem iX1_init : Cond.instanceMethod yX1_init ∈ lw_tbl := tb_at 150 (by decide +kernel)
theorem nX1_init : Cond.initialized yX1_init.cls ∈ lw_tbl := tb_at 54 (by decide +kernel)
theorem kX1_init : (vwCl[1]?).map (fun q => q.1) = some yX1_init.cls := rfl
theorem MX1_isMatch : gMth yX1_isMatch cX1_isMatch 4 (some .boolean) := ⟨tb_at 486 (by decide +kernel), by decide, by decide +kernel, by decide +kernel⟩
theorem hX1_isMatch : gNH yX1_isMatch 3 := ⟨by decide +kernel, by decide +kernel, by decide +kernel⟩
theorem iX1_isMatch : Cond.instanceMethod yX1_isMatch ∈ lw_tbl := tb_at 484 (by decide +kernel)
theorem sX1_isMatch : Cond.selects yX1_isMatch.cls yX1_isMatch yX1_isMatch ∈ lw_tbl := tb_at 485 (by decide +kernel)
theorem nX1_isMatch : Cond.initialized yX1_isMatch.cls ∈ lw_tbl := tb_at 54 (by decide +kernel)
theorem kX1_isMatch : (vwCl[1]?).map (fun q => q.1) = some yX1_isMatch.cls := rfl
theorem MX1_isMatchBefore : gMth yX1_isMatchBefore cX1_isMatchBefore 7 (some .boolean) := ⟨tb_at 490 (by decide +kernel), by decide, by decide +kernel, by decide +kernel⟩
theorem hX1_isMatchBefore : gNH yX1_isMatchBefore 5 := ⟨by decide +kernel, by decide +kernel, by decide +kernel⟩
theorem iX1_isMatchBefore : Cond.instanceMethod yX1_isMatchBefore ∈ lw_tbl := tb_at 488 (by decide +kernel)
theorem sX1_isMatchBefore : Cond.selects yX1_isMatchBefore.cls yX1_isMatchBefore yX1_isMatchBefore ∈ lw_tbl := tb_at 489 (by decide +kernel)
theorem nX1_isMatchBefore : Cond.initialized yX1_isMatchBefore.cls ∈ lw_tbl := tb_at 54 (by decide +kernel)
theorem kX1_isMatchBefore : (vwCl[1]?).map (fun q => q.1) = some yX1_isMatchBefore.cls := rfl
theorem MX1_isSame : gMth yX1_isSame cX1_isSame 5 (some .boolean) := ⟨tb_at 512 (by decide +kernel), by decide, by decide +kernel, by decide +kernel⟩
theorem hX1_isSame : gNH yX1_isSame 4 := ⟨by decide +kernel, by decide +kernel, by decide +kernel⟩
theorem tX1_isSame : Cond.static yX1_isSame ∈ lw_tbl := tb_at 511 (by decide +kernel)
theorem nX1_isSame : Cond.initialized yX1_isSame.cls ∈ lw_tbl := tb_at 54 (by decide +kernel)
theorem kX1_isSame : (vwCl[1]?).map (fun q => q.1) = some yX1_isSame.cls := rfl
theorem MX1_prepare : gMth yX1_prepare cX1_prepare 6 (some .int) := ⟨tb_at 494 (by decide +kernel), by decide, by decide +kernel, by decide +kernel⟩
theorem hX1_prepare : gNH yX1_prepare 2 := ⟨by decide +kernel, by decide +kernel, by decide +kernel⟩
theorem iX1_prepare : Cond.instanceMethod yX1_prepare ∈ lw_tbl := tb_at 493 (by decide +kernel)
theorem sX1_prepare : Cond.selects yX1_prepare.cls yX1_prepare yX1_prepare ∈ lw_tbl := tb_at 11 (by decide +kernel)
theorem nX1_prepare : Cond.initialized yX1_prepare.cls ∈ lw_tbl := tb_at 54 (by decide +kernel)
theorem kX1_prepare : (vwCl[1]?).map (fun q => q.1) = some yX1_prepare.cls := rfl
theorem MX1_writeImage : gMth yX1_writeImage cX1_writeImage 5 none := ⟨tb_at 530 (by decide +kernel), by decide, by decide +kernel, by decide +kernel⟩
theorem hX1_writeImage : gNH yX1_writeImage 3 := ⟨by decide +kernel, by decide +kernel, by decide +kernel⟩
theorem iX1_writeImage : Cond.instanceMethod yX1_writeImage ∈ lw_tbl := tb_at 528 (by decide +kernel)
theorem sX1_writeImage : Cond.selects yX1_writeImage.cls yX1_writeImage yX1_writeImage ∈ lw_tbl := tb_at 529 (by decide +kernel)
theorem nX1_writeImage : Cond.initialized yX1_writeImage.cls ∈ lw_tbl := tb_at 54 (by decide +kernel)
theorem kX1_writeImage : (vwCl[1]?).map (fun q => q.1) = some yX1_writeImage.cls := rfl
theorem MX2_add : gMth yX2_add cX2_add 2 (some .boolean) := ⟨tb_at 118 (by decide +kernel), by decide, by decide +kernel, by decide +kernel⟩
theorem hX2_add : gNH yX2_add 1 := ⟨by decide +kernel, by decide +kernel, by decide +kernel⟩
theorem iX2_add : Cond.instanceMethod yX2_add ∈ lw_tbl := tb_at 116 (by decide +kernel)
theorem sX2_add : Cond.selects yX2_add.cls yX2_add yX2_add ∈ lw_tbl := tb_at 117 (by decide +kernel)
theorem nX2_add : Cond.initialized yX2_add.cls ∈ lw_tbl := tb_at 52 (by decide +kernel)
theorem kX2_add : (vwCl[2]?).map (fun q => q.1) = some yX2_add.cls := rfl
theorem MX2_addAll : gMth yX2_addAll cX2_addAll 4 (some .boolean) := ⟨tb_at 552 (by decide +kernel), by decide, by decide +kernel, by decide +kernel⟩
theorem hX2_addAll : gNH yX2_addAll 1 := ⟨by decide +kernel, by decide +kernel, by decide +kernel⟩
theorem iX2_addAll : Cond.instanceMethod yX2_addAll ∈ lw_tbl := tb_at 550 (by decide +kernel)
theorem sX2_addAll : Cond.selects yX2_addAll.cls yX2_addAll yX2_addAll ∈ lw_tbl := tb_at 551 (by decide +kernel)
theorem nX2_addAll : Cond.initialized yX2_addAll.cls ∈ lw_tbl := tb_at 52 (by decide +kernel)
theorem kX2_addAll : (vwCl[2]?).map (fun q => q.1) = some yX2_addAll.cls := rfl
theorem MX2_advance : gMth yX2_advance cX2_advance 3 none := ⟨tb_at 649 (by decide +kernel), by decide, by decide +kernel, by decide +kernel⟩
theorem hX2_advance : gNH yX2_advance 1 := ⟨by decide +kernel, by decide +kernel, by decide +kernel⟩
theorem iX2_advance : Cond.instanceMethod yX2_advance ∈ lw_tbl := tb_at 647 (by decide +kernel)
theorem sX2_advance : Cond.selects yX2_advance.cls yX2_advance yX2_advance ∈ lw_tbl := tb_at 648 (by decide +kernel)
theorem nX2_advance : Cond.initialized yX2_advance.cls ∈ lw_tbl := tb_at 52 (by decide +kernel)
theorem kX2_advance : (vwCl[2]?).map (fun q => q.1) = some yX2_advance.cls := rfl
theorem MX2_at : gMth yX2_at cX2_at 3 (some .int) := ⟨tb_at 282 (by decide +kernel), by decide, by decide +kernel, by decide +kernel⟩
theorem hX2_at : gNH yX2_at 1 := ⟨by decide +kernel, by decide +kernel, by decide +kernel⟩
theorem iX2_at : Cond.instanceMethod yX2_at ∈ lw_tbl := tb_at 280 (by decide +kernel)
theorem sX2_at : Cond.selects yX2_at.cls yX2_at yX2_at ∈ lw_tbl := tb_at 281 (by decide +kernel)
theorem nX2_at : Cond.initialized yX2_at.cls ∈ lw_tbl := tb_at 52 (by decide +kernel)
theorem kX2_at : (vwCl[2]?).map (fun q => q.1) = some yX2_at.cls := rfl
theorem MX2_clear : gMth yX2_clear cX2_clear 1 none := ⟨tb_at 114 (by decide +kernel), by decide, by decide +kernel, by decide +kernel⟩
theorem hX2_clear : gNH yX2_clear 0 := ⟨by decide +kernel, by decide +kernel, by decide +kernel⟩
theorem iX2_clear : Cond.instanceMethod yX2_clear ∈ lw_tbl := tb_at 112 (by decide +kernel)
theorem sX2_clear : Cond.selects yX2_clear.cls yX2_clear yX2_clear ∈ lw_tbl := tb_at 113 (by decide +kernel)
theorem nX2_clear : Cond.initialized yX2_clear.cls ∈ lw_tbl := tb_at 52 (by decide +kernel)
theorem kX2_clear : (vwCl[2]?).map (fun q => q.1) = some yX2_clear.cls := rfl
theorem MX2_countOf : gMth yX2_countOf cX2_countOf 4 (some .int) := ⟨tb_at 352 (by decide +kernel), by decide, by decide +kernel, by decide +kernel⟩
theorem hX2_countOf : gNH yX2_countOf 1 := ⟨by decide +kernel, by decide +kernel, by decide +kernel⟩
theorem iX2_countOf : Cond.instanceMethod yX2_countOf ∈ lw_tbl := tb_at 350 (by decide +kernel)
theorem sX2_countOf : Cond.selects yX2_countOf.cls yX2_countOf yX2_countOf ∈ lw_tbl := tb_at 351 (by decide +kernel)
theorem nX2_countOf : Cond.initialized yX2_countOf.cls ∈ lw_tbl := tb_at 52 (by decide +kernel)
theorem kX2_countOf : (vwCl[2]?).map (fun q => q.1) = some yX2_countOf.cls := rfl
theorem MX2_exchange : gMth yX2_exchange cX2_exchange 4 none := ⟨tb_at 295 (by decide +kernel), by decide, by decide +kernel, by decide +kernel⟩
theorem hX2_exchange : gNH yX2_exchange 2 := ⟨by decide +kernel, by decide +kernel, by decide +kernel⟩
theorem iX2_exchange : Cond.instanceMethod yX2_exchange ∈ lw_tbl := tb_at 293 (by decide +kernel)
theorem sX2_exchange : Cond.selects yX2_exchange.cls yX2_exchange yX2_exchange ∈ lw_tbl := tb_at 294 (by decide +kernel)
theorem nX2_exchange : Cond.initialized yX2_exchange.cls ∈ lw_tbl := tb_at 52 (by decide +kernel)
theorem kX2_exchange : (vwCl[2]?).map (fun q => q.1) = some yX2_exchange.cls := rfl
theorem MX2_fillWith : gMth yX2_fillWith cX2_fillWith 4 none := ⟨tb_at 110 (by decide +kernel), by decide, by decide +kernel, by decide +kernel⟩
theorem hX2_fillWith : gNH yX2_fillWith 2 := ⟨by decide +kernel, by decide +kernel, by decide +kernel⟩
theorem iX2_fillWith : Cond.instanceMethod yX2_fillWith ∈ lw_tbl := tb_at 108 (by decide +kernel)
theorem sX2_fillWith : Cond.selects yX2_fillWith.cls yX2_fillWith yX2_fillWith ∈ lw_tbl := tb_at 109 (by decide +kernel)
theorem nX2_fillWith : Cond.initialized yX2_fillWith.cls ∈ lw_tbl := tb_at 52 (by decide +kernel)
theorem kX2_fillWith : (vwCl[2]?).map (fun q => q.1) = some yX2_fillWith.cls := rfl
theorem MX2_hasIndex : gMth yX2_hasIndex cX2_hasIndex 2 (some .boolean) := ⟨tb_at 303 (by decide +kernel), by decide, by decide +kernel, by decide +kernel⟩
theorem hX2_hasIndex : gNH yX2_hasIndex 1 := ⟨by decide +kernel, by decide +kernel, by decide +kernel⟩
theorem iX2_hasIndex : Cond.instanceMethod yX2_hasIndex ∈ lw_tbl := tb_at 301 (by decide +kernel)
theorem sX2_hasIndex : Cond.selects yX2_hasIndex.cls yX2_hasIndex yX2_hasIndex ∈ lw_tbl := tb_at 302 (by decide +kernel)
theorem nX2_hasIndex : Cond.initialized yX2_hasIndex.cls ∈ lw_tbl := tb_at 52 (by decide +kernel)
theorem kX2_hasIndex : (vwCl[2]?).map (fun q => q.1) = some yX2_hasIndex.cls := rfl
theorem MX2_hasRange : gMth yX2_hasRange cX2_hasRange 3 (some .boolean) := ⟨tb_at 689 (by decide +kernel), by decide, by decide +kernel, by decide +kernel⟩
theorem hX2_hasRange : gNH yX2_hasRange 2 := ⟨by decide +kernel, by decide +kernel, by decide +kernel⟩
theorem iX2_hasRange : Cond.instanceMethod yX2_hasRange ∈ lw_tbl := tb_at 687 (by decide +kernel)
theorem sX2_hasRange : Cond.selects yX2_hasRange.cls yX2_hasRange yX2_hasRange ∈ lw_tbl := tb_at 688 (by decide +kernel)
theorem nX2_hasRange : Cond.initialized yX2_hasRange.cls ∈ lw_tbl := tb_at 52 (by decide +kernel)
theorem kX2_hasRange : (vwCl[2]?).map (fun q => q.1) = some yX2_hasRange.cls := rfl
theorem MX2_init : gMth yX2_init cX2_init 2 none := ⟨tb_at 86 (by decide +kernel), by decide, by decide +kernel, by decide +kernel⟩
theorem hX2_init : gNH yX2_init 1 := ⟨by decide +kernel, by decide +kernel, by decide +kernel⟩
theorem iX2_init : Cond.instanceMethod yX2_init ∈ lw_tbl := tb_at 85 (by decide +kernel)
theorem nX2_init : Cond.initialized yX2_init.cls ∈ lw_tbl := tb_at 52 (by decide +kernel)
theorem kX2_init : (vwCl[2]?).map (fun q => q.1) = some yX2_init.cls := rfl
theorem MX2_letterCount : gMth yX2_letterCount cX2_letterCount 3 (some .int) := ⟨tb_at 363 (by decide +kernel), by decide, by decide +kernel, by decide +kernel⟩
theorem hX2_letterCount : gNH yX2_letterCount 0 := ⟨by decide +kernel, by decide +kernel, by decide +kernel⟩
theorem iX2_letterCount : Cond.instanceMethod yX2_letterCount ∈ lw_tbl := tb_at 361 (by decide +kernel)
theorem sX2_letterCount : Cond.selects yX2_letterCount.cls yX2_letterCount yX2_letterCount ∈ lw_tbl := tb_at 362 (by decide +kernel)
theorem nX2_letterCount : Cond.initialized yX2_letterCount.cls ∈ lw_tbl := tb_at 52 (by decide +kernel)
theorem kX2_letterCount : (vwCl[2]?).map (fun q => q.1) = some yX2_letterCount.cls := rfl
theorem MX2_makeCanonical : gMth yX2_makeCanonical cX2_makeCanonical 3 none := ⟨tb_at 290 (by decide +kernel), by decide, by decide +kernel, by decide +kernel⟩
theorem hX2_makeCanonical : gNH yX2_makeCanonical 0 := ⟨by decide +kernel, by decide +kernel, by decide +kernel⟩
theorem iX2_makeCanonical : Cond.instanceMethod yX2_makeCanonical ∈ lw_tbl := tb_at 288 (by decide +kernel)
theorem sX2_makeCanonical : Cond.selects yX2_makeCanonical.cls yX2_makeCanonical yX2_makeCanonical ∈ lw_tbl := tb_at 289 (by decide +kernel)
theorem nX2_makeCanonical : Cond.initialized yX2_makeCanonical.cls ∈ lw_tbl := tb_at 52 (by decide +kernel)
theorem kX2_makeCanonical : (vwCl[2]?).map (fun q => q.1) = some yX2_makeCanonical.cls := rfl
theorem MX2_put : gMth yX2_put cX2_put 3 none := ⟨tb_at 299 (by decide +kernel), by decide, by decide +kernel, by decide +kernel⟩
theorem hX2_put : gNH yX2_put 2 := ⟨by decide +kernel, by decide +kernel, by decide +kernel⟩
theorem iX2_put : Cond.instanceMethod yX2_put ∈ lw_tbl := tb_at 297 (by decide +kernel)
theorem sX2_put : Cond.selects yX2_put.cls yX2_put yX2_put ∈ lw_tbl := tb_at 298 (by decide +kernel)
theorem nX2_put : Cond.initialized yX2_put.cls ∈ lw_tbl := tb_at 52 (by decide +kernel)
theorem kX2_put : (vwCl[2]?).map (fun q => q.1) = some yX2_put.cls := rfl
theorem MX2_putForCodes : gMth yX2_putForCodes cX2_putForCodes 5 none := ⟨tb_at 378 (by decide +kernel), by decide, by decide +kernel, by decide +kernel⟩
theorem hX2_putForCodes : gNH yX2_putForCodes 3 := ⟨by decide +kernel, by decide +kernel, by decide +kernel⟩
theorem iX2_putForCodes : Cond.instanceMethod yX2_putForCodes ∈ lw_tbl := tb_at 376 (by decide +kernel)
theorem sX2_putForCodes : Cond.selects yX2_putForCodes.cls yX2_putForCodes yX2_putForCodes ∈ lw_tbl := tb_at 377 (by decide +kernel)
theorem nX2_putForCodes : Cond.initialized yX2_putForCodes.cls ∈ lw_tbl := tb_at 52 (by decide +kernel)
theorem kX2_putForCodes : (vwCl[2]?).map (fun q => q.1) = some yX2_putForCodes.cls := rfl
theorem MX2_removeLast : gMth yX2_removeLast cX2_removeLast 1 none := ⟨tb_at 465 (by decide +kernel), by decide, by decide +kernel, by decide +kernel⟩
theorem hX2_removeLast : gNH yX2_removeLast 0 := ⟨by decide +kernel, by decide +kernel, by decide +kernel⟩
theorem iX2_removeLast : Cond.instanceMethod yX2_removeLast ∈ lw_tbl := tb_at 463 (by decide +kernel)
theorem sX2_removeLast : Cond.selects yX2_removeLast.cls yX2_removeLast yX2_removeLast ∈ lw_tbl := tb_at 464 (by decide +kernel)
theorem nX2_removeLast : Cond.initialized yX2_removeLast.cls ∈ lw_tbl := tb_at 52 (by decide +kernel)
theorem kX2_removeLast : (vwCl[2]?).map (fun q => q.1) = some yX2_removeLast.cls := rfl
theorem MX2_setTo : gMth yX2_setTo cX2_setTo 4 none := ⟨tb_at 314 (by decide +kernel), by decide, by decide +kernel, by decide +kernel⟩
theorem hX2_setTo : gNH yX2_setTo 1 := ⟨by decide +kernel, by decide +kernel, by decide +kernel⟩
theorem iX2_setTo : Cond.instanceMethod yX2_setTo ∈ lw_tbl := tb_at 312 (by decide +kernel)
theorem sX2_setTo : Cond.selects yX2_setTo.cls yX2_setTo yX2_setTo ∈ lw_tbl := tb_at 313 (by decide +kernel)
theorem nX2_setTo : Cond.initialized yX2_setTo.cls ∈ lw_tbl := tb_at 52 (by decide +kernel)
theorem kX2_setTo : (vwCl[2]?).map (fun q => q.1) = some yX2_setTo.cls := rfl
theorem MX2_turnAround : gMth yX2_turnAround cX2_turnAround 4 none := ⟨tb_at 451 (by decide +kernel), by decide, by decide +kernel, by decide +kernel⟩
theorem hX2_turnAround : gNH yX2_turnAround 0 := ⟨by decide +kernel, by decide +kernel, by decide +kernel⟩
theorem iX2_turnAround : Cond.instanceMethod yX2_turnAround ∈ lw_tbl := tb_at 449 (by decide +kernel)
theorem sX2_turnAround : Cond.selects yX2_turnAround.cls yX2_turnAround yX2_turnAround ∈ lw_tbl := tb_at 450 (by decide +kernel)
theorem nX2_turnAround : Cond.initialized yX2_turnAround.cls ∈ lw_tbl := tb_at 52 (by decide +kernel)
theorem kX2_turnAround : (vwCl[2]?).map (fun q => q.1) = some yX2_turnAround.cls := rfl
theorem MX2_variablesIn : gMth yX2_variablesIn cX2_variablesIn 3 (some .int) := ⟨tb_at 337 (by decide +kernel), by decide, by decide +kernel, by decide +kernel⟩
theorem hX2_variablesIn : gNH yX2_variablesIn 0 := ⟨by decide +kernel, by decide +kernel, by decide +kernel⟩
theorem iX2_variablesIn : Cond.instanceMethod yX2_variablesIn ∈ lw_tbl := tb_at 335 (by decide +kernel)
theorem sX2_variablesIn : Cond.selects yX2_variablesIn.cls yX2_variablesIn yX2_variablesIn ∈ lw_tbl := tb_at 336 (by decide +kernel)
theorem nX2_variablesIn : Cond.initialized yX2_variablesIn.cls ∈ lw_tbl := tb_at 52 (by decide +kernel)
theorem kX2_variablesIn : (vwCl[2]?).map (fun q => q.1) = some yX2_variablesIn.cls := rfl
theorem MX2_wordCode : gMth yX2_wordCode cX2_wordCode 6 (some .long) := ⟨tb_at 580 (by decide +kernel), by decide, by decide +kernel, by decide +kernel⟩
theorem hX2_wordCode : gNH yX2_wordCode 0 := ⟨by decide +kernel, by decide +kernel, by decide +kernel⟩
theorem iX2_wordCode : Cond.instanceMethod yX2_wordCode ∈ lw_tbl := tb_at 578 (by decide +kernel)
theorem sX2_wordCode : Cond.selects yX2_wordCode.cls yX2_wordCode yX2_wordCode ∈ lw_tbl := tb_at 579 (by decide +kernel)
theorem nX2_wordCode : Cond.initialized yX2_wordCode.cls ∈ lw_tbl := tb_at 52 (by decide +kernel)
theorem kX2_wordCode : (vwCl[2]?).map (fun q => q.1) = some yX2_wordCode.cls := rfl
theorem MX3_canBegin : gMth yX3_canBegin cX3_canBegin 6 (some .boolean) := ⟨tb_at 616 (by decide +kernel), by decide, by decide +kernel, by decide +kernel⟩
theorem hX3_canBegin : gNH yX3_canBegin 2 := ⟨by decide +kernel, by decide +kernel, by decide +kernel⟩
theorem iX3_canBegin : Cond.instanceMethod yX3_canBegin ∈ lw_tbl := tb_at 615 (by decide +kernel)
theorem sX3_canBegin : Cond.selects yX3_canBegin.cls yX3_canBegin yX3_canBegin ∈ lw_tbl := tb_at 20 (by decide +kernel)
theorem nX3_canBegin : Cond.initialized yX3_canBegin.cls ∈ lw_tbl := tb_at 55 (by decide +kernel)
theorem kX3_canBegin : (vwCl[3]?).map (fun q => q.1) = some yX3_canBegin.cls := rfl
theorem MX3_canStretch : gMth yX3_canStretch cX3_canStretch 5 (some .boolean) := ⟨tb_at 636 (by decide +kernel), by decide, by decide +kernel, by decide +kernel⟩
theorem hX3_canStretch : gNH yX3_canStretch 2 := ⟨by decide +kernel, by decide +kernel, by decide +kernel⟩
theorem iX3_canStretch : Cond.instanceMethod yX3_canStretch ∈ lw_tbl := tb_at 635 (by decide +kernel)
theorem sX3_canStretch : Cond.selects yX3_canStretch.cls yX3_canStretch yX3_canStretch ∈ lw_tbl := tb_at 22 (by decide +kernel)
theorem nX3_canStretch : Cond.initialized yX3_canStretch.cls ∈ lw_tbl := tb_at 55 (by decide +kernel)
theorem kX3_canStretch : (vwCl[3]?).map (fun q => q.1) = some yX3_canStretch.cls := rfl
theorem MX3_complete : gMth yX3_complete cX3_complete 7 (some .boolean) := ⟨tb_at 612 (by decide +kernel), by decide, by decide +kernel, by decide +kernel⟩
theorem hX3_complete : gNH yX3_complete 3 := ⟨by decide +kernel, by decide +kernel, by decide +kernel⟩
theorem iX3_complete : Cond.instanceMethod yX3_complete ∈ lw_tbl := tb_at 611 (by decide +kernel)
theorem sX3_complete : Cond.selects yX3_complete.cls yX3_complete yX3_complete ∈ lw_tbl := tb_at 19 (by decide +kernel)
theorem nX3_complete : Cond.initialized yX3_complete.cls ∈ lw_tbl := tb_at 55 (by decide +kernel)
theorem kX3_complete : (vwCl[3]?).map (fun q => q.1) = some yX3_complete.cls := rfl
theorem MX3_completeWithVariable : gMth yX3_completeWithVariable cX3_completeWithVariable 10 (some .boolean) := ⟨tb_at 623 (by decide +kernel), by decide, by decide +kernel, by decide +kernel⟩
theorem hX3_completeWithVariable : gNH yX3_completeWithVariable 3 := ⟨by decide +kernel, by decide +kernel, by decide +kernel⟩
theorem iX3_completeWithVariable : Cond.instanceMethod yX3_completeWithVariable ∈ lw_tbl := tb_at 622 (by decide +kernel)
theorem sX3_completeWithVariable : Cond.selects yX3_completeWithVariable.cls yX3_completeWithVariable yX3_completeWithVariable ∈ lw_tbl := tb_at 21 (by decide +kernel)
theorem nX3_completeWithVariable : Cond.initialized yX3_completeWithVariable.cls ∈ lw_tbl := tb_at 55 (by decide +kernel)
theorem kX3_completeWithVariable : (vwCl[3]?).map (fun q => q.1) = some yX3_completeWithVariable.cls := rfl
theorem MX3_findBest : gMth yX3_findBest cX3_findBest 7 (some .boolean) := ⟨tb_at 606 (by decide +kernel), by decide, by decide +kernel, by decide +kernel⟩
theorem hX3_findBest : gNH yX3_findBest 2 := ⟨by decide +kernel, by decide +kernel, by decide +kernel⟩
theorem iX3_findBest : Cond.instanceMethod yX3_findBest ∈ lw_tbl := tb_at 604 (by decide +kernel)
theorem sX3_findBest : Cond.selects yX3_findBest.cls yX3_findBest yX3_findBest ∈ lw_tbl := tb_at 605 (by decide +kernel)
theorem nX3_findBest : Cond.initialized yX3_findBest.cls ∈ lw_tbl := tb_at 55 (by decide +kernel)
theorem kX3_findBest : (vwCl[3]?).map (fun q => q.1) = some yX3_findBest.cls := rfl
theorem MX3_findLongestOfX : gMth yX3_findLongestOfX cX3_findLongestOfX 3 (some .boolean) := ⟨tb_at 632 (by decide +kernel), by decide, by decide +kernel, by decide +kernel⟩
theorem hX3_findLongestOfX : gNH yX3_findLongestOfX 0 := ⟨by decide +kernel, by decide +kernel, by decide +kernel⟩
theorem iX3_findLongestOfX : Cond.instanceMethod yX3_findLongestOfX ∈ lw_tbl := tb_at 630 (by decide +kernel)
theorem sX3_findLongestOfX : Cond.selects yX3_findLongestOfX.cls yX3_findLongestOfX yX3_findLongestOfX ∈ lw_tbl := tb_at 631 (by decide +kernel)
theorem nX3_findLongestOfX : Cond.initialized yX3_findLongestOfX.cls ∈ lw_tbl := tb_at 55 (by decide +kernel)
theorem kX3_findLongestOfX : (vwCl[3]?).map (fun q => q.1) = some yX3_findLongestOfX.cls := rfl
theorem MX3_init : gMth yX3_init cX3_init 3 none := ⟨tb_at 176 (by decide +kernel), by decide, by decide +kernel, by decide +kernel⟩
theorem hX3_init : gNH yX3_init 2 := ⟨by decide +kernel, by decide +kernel, by decide +kernel⟩
theorem iX3_init : Cond.instanceMethod yX3_init ∈ lw_tbl := tb_at 175 (by decide +kernel)
theorem nX3_init : Cond.initialized yX3_init.cls ∈ lw_tbl := tb_at 55 (by decide +kernel)
theorem kX3_init : (vwCl[3]?).map (fun q => q.1) = some yX3_init.cls := rfl
theorem MX4_init : gMth yX4_init cX4_init 1 none := ⟨tb_at 203 (by decide +kernel), by decide, by decide +kernel, by decide +kernel⟩
theorem hX4_init : gNH yX4_init 0 := ⟨by decide +kernel, by decide +kernel, by decide +kernel⟩
theorem iX4_init : Cond.instanceMethod yX4_init ∈ lw_tbl := tb_at 202 (by decide +kernel)
theorem nX4_init : Cond.initialized yX4_init.cls ∈ lw_tbl := tb_at 56 (by decide +kernel)
theorem kX4_init : (vwCl[4]?).map (fun q => q.1) = some yX4_init.cls := rfl
theorem MX5_addProduced : gMth yX5_addProduced cX5_addProduced 2 (some .int) := ⟨tb_at 544 (by decide +kernel), by decide, by decide +kernel, by decide +kernel⟩
theorem hX5_addProduced : gNH yX5_addProduced 1 := ⟨by decide +kernel, by decide +kernel, by decide +kernel⟩
theorem iX5_addProduced : Cond.instanceMethod yX5_addProduced ∈ lw_tbl := tb_at 542 (by decide +kernel)
theorem sX5_addProduced : Cond.selects yX5_addProduced.cls yX5_addProduced yX5_addProduced ∈ lw_tbl := tb_at 543 (by decide +kernel)
theorem nX5_addProduced : Cond.initialized yX5_addProduced.cls ∈ lw_tbl := tb_at 50 (by decide +kernel)
theorem kX5_addProduced : (vwCl[5]?).map (fun q => q.1) = some yX5_addProduced.cls := rfl
theorem MX5_addToSample : gMth yX5_addToSample cX5_addToSample 1 (some .int) := ⟨tb_at 556 (by decide +kernel), by decide, by decide +kernel, by decide +kernel⟩
theorem hX5_addToSample : gNH yX5_addToSample 0 := ⟨by decide +kernel, by decide +kernel, by decide +kernel⟩
theorem iX5_addToSample : Cond.instanceMethod yX5_addToSample ∈ lw_tbl := tb_at 555 (by decide +kernel)
theorem sX5_addToSample : Cond.selects yX5_addToSample.cls yX5_addToSample yX5_addToSample ∈ lw_tbl := tb_at 16 (by decide +kernel)
theorem nX5_addToSample : Cond.initialized yX5_addToSample.cls ∈ lw_tbl := tb_at 50 (by decide +kernel)
theorem kX5_addToSample : (vwCl[5]?).map (fun q => q.1) = some yX5_addToSample.cls := rfl
theorem MX5_addWord : gMth yX5_addWord cX5_addWord 1 (some .int) := ⟨tb_at 560 (by decide +kernel), by decide, by decide +kernel, by decide +kernel⟩
theorem hX5_addWord : gNH yX5_addWord 0 := ⟨by decide +kernel, by decide +kernel, by decide +kernel⟩
theorem iX5_addWord : Cond.instanceMethod yX5_addWord ∈ lw_tbl := tb_at 558 (by decide +kernel)
theorem sX5_addWord : Cond.selects yX5_addWord.cls yX5_addWord yX5_addWord ∈ lw_tbl := tb_at 559 (by decide +kernel)
theorem nX5_addWord : Cond.initialized yX5_addWord.cls ∈ lw_tbl := tb_at 50 (by decide +kernel)
theorem kX5_addWord : (vwCl[5]?).map (fun q => q.1) = some yX5_addWord.cls := rfl
theorem MX5_advantage : gMth yX5_advantage cX5_advantage 5 (some .int) := ⟨tb_at 359 (by decide +kernel), by decide, by decide +kernel, by decide +kernel⟩
theorem hX5_advantage : gNH yX5_advantage 2 := ⟨by decide +kernel, by decide +kernel, by decide +kernel⟩
theorem tX5_advantage : Cond.static yX5_advantage ∈ lw_tbl := tb_at 358 (by decide +kernel)
theorem nX5_advantage : Cond.initialized yX5_advantage.cls ∈ lw_tbl := tb_at 50 (by decide +kernel)
theorem kX5_advantage : (vwCl[5]?).map (fun q => q.1) = some yX5_advantage.cls := rfl
theorem MX5_allocate : gMth yX5_allocate cX5_allocate 4 (some .int) := ⟨tb_at 661 (by decide +kernel), by decide, by decide +kernel, by decide +kernel⟩
theorem hX5_allocate : gNH yX5_allocate 3 := ⟨by decide +kernel, by decide +kernel, by decide +kernel⟩
theorem iX5_allocate : Cond.instanceMethod yX5_allocate ∈ lw_tbl := tb_at 659 (by decide +kernel)
theorem sX5_allocate : Cond.selects yX5_allocate.cls yX5_allocate yX5_allocate ∈ lw_tbl := tb_at 660 (by decide +kernel)
theorem nX5_allocate : Cond.initialized yX5_allocate.cls ∈ lw_tbl := tb_at 50 (by decide +kernel)
theorem kX5_allocate : (vwCl[5]?).map (fun q => q.1) = some yX5_allocate.cls := rfl
theorem MX5_append : gMth yX5_append cX5_append 4 (some .int) := ⟨tb_at 256 (by decide +kernel), by decide, by decide +kernel, by decide +kernel⟩
theorem hX5_append : gNH yX5_append 2 := ⟨by decide +kernel, by decide +kernel, by decide +kernel⟩
theorem iX5_append : Cond.instanceMethod yX5_append ∈ lw_tbl := tb_at 254 (by decide +kernel)
theorem sX5_append : Cond.selects yX5_append.cls yX5_append yX5_append ∈ lw_tbl := tb_at 255 (by decide +kernel)
theorem nX5_append : Cond.initialized yX5_append.cls ∈ lw_tbl := tb_at 50 (by decide +kernel)
theorem kX5_append : (vwCl[5]?).map (fun q => q.1) = some yX5_append.cls := rfl
theorem MX5_chainBreak : gMth yX5_chainBreak cX5_chainBreak 5 (some .int) := ⟨tb_at 598 (by decide +kernel), by decide, by decide +kernel, by decide +kernel⟩
theorem hX5_chainBreak : gNH yX5_chainBreak 3 := ⟨by decide +kernel, by decide +kernel, by decide +kernel⟩
theorem iX5_chainBreak : Cond.instanceMethod yX5_chainBreak ∈ lw_tbl := tb_at 596 (by decide +kernel)
theorem sX5_chainBreak : Cond.selects yX5_chainBreak.cls yX5_chainBreak yX5_chainBreak ∈ lw_tbl := tb_at 597 (by decide +kernel)
theorem nX5_chainBreak : Cond.initialized yX5_chainBreak.cls ∈ lw_tbl := tb_at 50 (by decide +kernel)
theorem kX5_chainBreak : (vwCl[5]?).map (fun q => q.1) = some yX5_chainBreak.cls := rfl
theorem MX5_changeAsTold : gMth yX5_changeAsTold cX5_changeAsTold 3 (some .int) := ⟨tb_at 394 (by decide +kernel), by decide, by decide +kernel, by decide +kernel⟩
theorem hX5_changeAsTold : gNH yX5_changeAsTold 1 := ⟨by decide +kernel, by decide +kernel, by decide +kernel⟩
theorem iX5_changeAsTold : Cond.instanceMethod yX5_changeAsTold ∈ lw_tbl := tb_at 393 (by decide +kernel)
theorem sX5_changeAsTold : Cond.selects yX5_changeAsTold.cls yX5_changeAsTold yX5_changeAsTold ∈ lw_tbl := tb_at 7 (by decide +kernel)
theorem nX5_changeAsTold : Cond.initialized yX5_changeAsTold.cls ∈ lw_tbl := tb_at 50 (by decide +kernel)
theorem kX5_changeAsTold : (vwCl[5]?).map (fun q => q.1) = some yX5_changeAsTold.cls := rfl
theorem MX5_clearInput : gMth yX5_clearInput cX5_clearInput 2 (some .int) := ⟨tb_at 261 (by decide +kernel), by decide, by decide +kernel, by decide +kernel⟩
theorem hX5_clearInput : gNH yX5_clearInput 0 := ⟨by decide +kernel, by decide +kernel, by decide +kernel⟩
theorem iX5_clearInput : Cond.instanceMethod yX5_clearInput ∈ lw_tbl := tb_at 259 (by decide +kernel)
theorem sX5_clearInput : Cond.selects yX5_clearInput.cls yX5_clearInput yX5_clearInput ∈ lw_tbl := tb_at 260 (by decide +kernel)
theorem nX5_clearInput : Cond.initialized yX5_clearInput.cls ∈ lw_tbl := tb_at 50 (by decide +kernel)
theorem kX5_clearInput : (vwCl[5]?).map (fun q => q.1) = some yX5_clearInput.cls := rfl
theorem MX5_codeOf : gMth yX5_codeOf cX5_codeOf 3 (some .int) := ⟨tb_at 286 (by decide +kernel), by decide, by decide +kernel, by decide +kernel⟩
theorem hX5_codeOf : gNH yX5_codeOf 1 := ⟨by decide +kernel, by decide +kernel, by decide +kernel⟩
theorem iX5_codeOf : Cond.instanceMethod yX5_codeOf ∈ lw_tbl := tb_at 285 (by decide +kernel)
theorem sX5_codeOf : Cond.selects yX5_codeOf.cls yX5_codeOf yX5_codeOf ∈ lw_tbl := tb_at 3 (by decide +kernel)
theorem nX5_codeOf : Cond.initialized yX5_codeOf.cls ∈ lw_tbl := tb_at 50 (by decide +kernel)
theorem kX5_codeOf : (vwCl[5]?).map (fun q => q.1) = some yX5_codeOf.cls := rfl
theorem MX5_compareQuality : gMth yX5_compareQuality cX5_compareQuality 3 (some .int) := ⟨tb_at 356 (by decide +kernel), by decide, by decide +kernel, by decide +kernel⟩
theorem hX5_compareQuality : gNH yX5_compareQuality 2 := ⟨by decide +kernel, by decide +kernel, by decide +kernel⟩
theorem iX5_compareQuality : Cond.instanceMethod yX5_compareQuality ∈ lw_tbl := tb_at 354 (by decide +kernel)
theorem sX5_compareQuality : Cond.selects yX5_compareQuality.cls yX5_compareQuality yX5_compareQuality ∈ lw_tbl := tb_at 355 (by decide +kernel)
theorem nX5_compareQuality : Cond.initialized yX5_compareQuality.cls ∈ lw_tbl := tb_at 50 (by decide +kernel)
theorem kX5_compareQuality : (vwCl[5]?).map (fun q => q.1) = some yX5_compareQuality.cls := rfl
theorem MX5_copy : gMth yX5_copy cX5_copy 3 (some .int) := ⟨tb_at 321 (by decide +kernel), by decide, by decide +kernel, by decide +kernel⟩
theorem hX5_copy : gNH yX5_copy 2 := ⟨by decide +kernel, by decide +kernel, by decide +kernel⟩
theorem iX5_copy : Cond.instanceMethod yX5_copy ∈ lw_tbl := tb_at 319 (by decide +kernel)
theorem sX5_copy : Cond.selects yX5_copy.cls yX5_copy yX5_copy ∈ lw_tbl := tb_at 320 (by decide +kernel)
theorem nX5_copy : Cond.initialized yX5_copy.cls ∈ lw_tbl := tb_at 50 (by decide +kernel)
theorem kX5_copy : (vwCl[5]?).map (fun q => q.1) = some yX5_copy.cls := rfl
theorem MX5_copyElements : gMth yX5_copyElements cX5_copyElements 8 (some .int) := ⟨tb_at 685 (by decide +kernel), by decide, by decide +kernel, by decide +kernel⟩
theorem hX5_copyElements : gNH yX5_copyElements 5 := ⟨by decide +kernel, by decide +kernel, by decide +kernel⟩
theorem iX5_copyElements : Cond.instanceMethod yX5_copyElements ∈ lw_tbl := tb_at 683 (by decide +kernel)
theorem sX5_copyElements : Cond.selects yX5_copyElements.cls yX5_copyElements yX5_copyElements ∈ lw_tbl := tb_at 684 (by decide +kernel)
theorem nX5_copyElements : Cond.initialized yX5_copyElements.cls ∈ lw_tbl := tb_at 50 (by decide +kernel)
theorem kX5_copyElements : (vwCl[5]?).map (fun q => q.1) = some yX5_copyElements.cls := rfl
theorem MX5_countWords : gMth yX5_countWords cX5_countWords 7 (some .int) := ⟨tb_at 640 (by decide +kernel), by decide, by decide +kernel, by decide +kernel⟩
theorem hX5_countWords : gNH yX5_countWords 3 := ⟨by decide +kernel, by decide +kernel, by decide +kernel⟩
theorem iX5_countWords : Cond.instanceMethod yX5_countWords ∈ lw_tbl := tb_at 638 (by decide +kernel)
theorem sX5_countWords : Cond.selects yX5_countWords.cls yX5_countWords yX5_countWords ∈ lw_tbl := tb_at 639 (by decide +kernel)
theorem nX5_countWords : Cond.initialized yX5_countWords.cls ∈ lw_tbl := tb_at 50 (by decide +kernel)
theorem kX5_countWords : (vwCl[5]?).map (fun q => q.1) = some yX5_countWords.cls := rfl
theorem MX5_difference : gMth yX5_difference cX5_difference 6 (some .long) := ⟨tb_at 653 (by decide +kernel), by decide, by decide +kernel, by decide +kernel⟩
theorem hX5_difference : gNH yX5_difference 4 := ⟨by decide +kernel, by decide +kernel, by decide +kernel⟩
theorem iX5_difference : Cond.instanceMethod yX5_difference ∈ lw_tbl := tb_at 651 (by decide +kernel)
theorem sX5_difference : Cond.selects yX5_difference.cls yX5_difference yX5_difference ∈ lw_tbl := tb_at 652 (by decide +kernel)
theorem nX5_difference : Cond.initialized yX5_difference.cls ∈ lw_tbl := tb_at 50 (by decide +kernel)
theorem kX5_difference : (vwCl[5]?).map (fun q => q.1) = some yX5_difference.cls := rfl
theorem MX5_dropLast : gMth yX5_dropLast cX5_dropLast 1 none := ⟨tb_at 461 (by decide +kernel), by decide, by decide +kernel, by decide +kernel⟩
theorem hX5_dropLast : gNH yX5_dropLast 1 := ⟨by decide +kernel, by decide +kernel, by decide +kernel⟩
theorem tX5_dropLast : Cond.static yX5_dropLast ∈ lw_tbl := tb_at 460 (by decide +kernel)
theorem nX5_dropLast : Cond.initialized yX5_dropLast.cls ∈ lw_tbl := tb_at 50 (by decide +kernel)
theorem kX5_dropLast : (vwCl[5]?).map (fun q => q.1) = some yX5_dropLast.cls := rfl
theorem MX5_element : gMth yX5_element cX5_element 4 (some .long) := ⟨tb_at 681 (by decide +kernel), by decide, by decide +kernel, by decide +kernel⟩
theorem hX5_element : gNH yX5_element 2 := ⟨by decide +kernel, by decide +kernel, by decide +kernel⟩
theorem iX5_element : Cond.instanceMethod yX5_element ∈ lw_tbl := tb_at 679 (by decide +kernel)
theorem sX5_element : Cond.selects yX5_element.cls yX5_element yX5_element ∈ lw_tbl := tb_at 680 (by decide +kernel)
theorem nX5_element : Cond.initialized yX5_element.cls ∈ lw_tbl := tb_at 50 (by decide +kernel)
theorem kX5_element : (vwCl[5]?).map (fun q => q.1) = some yX5_element.cls := rfl
theorem MX5_findDifference : gMth yX5_findDifference cX5_findDifference 7 (some .boolean) := ⟨tb_at 657 (by decide +kernel), by decide, by decide +kernel, by decide +kernel⟩
theorem hX5_findDifference : gNH yX5_findDifference 4 := ⟨by decide +kernel, by decide +kernel, by decide +kernel⟩
theorem iX5_findDifference : Cond.instanceMethod yX5_findDifference ∈ lw_tbl := tb_at 656 (by decide +kernel)
theorem sX5_findDifference : Cond.selects yX5_findDifference.cls yX5_findDifference yX5_findDifference ∈ lw_tbl := tb_at 24 (by decide +kernel)
theorem nX5_findDifference : Cond.initialized yX5_findDifference.cls ∈ lw_tbl := tb_at 50 (by decide +kernel)
theorem kX5_findDifference : (vwCl[5]?).map (fun q => q.1) = some yX5_findDifference.cls := rfl
theorem MX5_findOneVariable : gMth yX5_findOneVariable cX5_findOneVariable 2 (some .int) := ⟨tb_at 628 (by decide +kernel), by decide, by decide +kernel, by decide +kernel⟩
theorem hX5_findOneVariable : gNH yX5_findOneVariable 1 := ⟨by decide +kernel, by decide +kernel, by decide +kernel⟩
theorem iX5_findOneVariable : Cond.instanceMethod yX5_findOneVariable ∈ lw_tbl := tb_at 626 (by decide +kernel)
theorem sX5_findOneVariable : Cond.selects yX5_findOneVariable.cls yX5_findOneVariable yX5_findOneVariable ∈ lw_tbl := tb_at 627 (by decide +kernel)
theorem nX5_findOneVariable : Cond.initialized yX5_findOneVariable.cls ∈ lw_tbl := tb_at 50 (by decide +kernel)
theorem kX5_findOneVariable : (vwCl[5]?).map (fun q => q.1) = some yX5_findOneVariable.cls := rfl
theorem MX5_findPattern : gMth yX5_findPattern cX5_findPattern 4 (some .int) := ⟨tb_at 602 (by decide +kernel), by decide, by decide +kernel, by decide +kernel⟩
theorem hX5_findPattern : gNH yX5_findPattern 3 := ⟨by decide +kernel, by decide +kernel, by decide +kernel⟩
theorem iX5_findPattern : Cond.instanceMethod yX5_findPattern ∈ lw_tbl := tb_at 600 (by decide +kernel)
theorem sX5_findPattern : Cond.selects yX5_findPattern.cls yX5_findPattern yX5_findPattern ∈ lw_tbl := tb_at 601 (by decide +kernel)
theorem nX5_findPattern : Cond.initialized yX5_findPattern.cls ∈ lw_tbl := tb_at 50 (by decide +kernel)
theorem kX5_findPattern : (vwCl[5]?).map (fun q => q.1) = some yX5_findPattern.cls := rfl
theorem MX5_firstMisfit : gMth yX5_firstMisfit cX5_firstMisfit 4 (some .int) := ⟨tb_at 586 (by decide +kernel), by decide, by decide +kernel, by decide +kernel⟩
theorem hX5_firstMisfit : gNH yX5_firstMisfit 2 := ⟨by decide +kernel, by decide +kernel, by decide +kernel⟩
theorem iX5_firstMisfit : Cond.instanceMethod yX5_firstMisfit ∈ lw_tbl := tb_at 584 (by decide +kernel)
theorem sX5_firstMisfit : Cond.selects yX5_firstMisfit.cls yX5_firstMisfit yX5_firstMisfit ∈ lw_tbl := tb_at 585 (by decide +kernel)
theorem nX5_firstMisfit : Cond.initialized yX5_firstMisfit.cls ∈ lw_tbl := tb_at 50 (by decide +kernel)
theorem kX5_firstMisfit : (vwCl[5]?).map (fun q => q.1) = some yX5_firstMisfit.cls := rfl
theorem MX5_hasVariable : gMth yX5_hasVariable cX5_hasVariable 3 (some .boolean) := ⟨tb_at 345 (by decide +kernel), by decide, by decide +kernel, by decide +kernel⟩
theorem hX5_hasVariable : gNH yX5_hasVariable 2 := ⟨by decide +kernel, by decide +kernel, by decide +kernel⟩
theorem iX5_hasVariable : Cond.instanceMethod yX5_hasVariable ∈ lw_tbl := tb_at 344 (by decide +kernel)
theorem sX5_hasVariable : Cond.selects yX5_hasVariable.cls yX5_hasVariable yX5_hasVariable ∈ lw_tbl := tb_at 5 (by decide +kernel)
theorem nX5_hasVariable : Cond.initialized yX5_hasVariable.cls ∈ lw_tbl := tb_at 50 (by decide +kernel)
theorem kX5_hasVariable : (vwCl[5]?).map (fun q => q.1) = some yX5_hasVariable.cls := rfl
theorem MX5_imageLetter : gMth yX5_imageLetter cX5_imageLetter 4 (some .int) := ⟨tb_at 540 (by decide +kernel), by decide, by decide +kernel, by decide +kernel⟩
theorem hX5_imageLetter : gNH yX5_imageLetter 2 := ⟨by decide +kernel, by decide +kernel, by decide +kernel⟩
theorem iX5_imageLetter : Cond.instanceMethod yX5_imageLetter ∈ lw_tbl := tb_at 538 (by decide +kernel)
theorem sX5_imageLetter : Cond.selects yX5_imageLetter.cls yX5_imageLetter yX5_imageLetter ∈ lw_tbl := tb_at 539 (by decide +kernel)
theorem nX5_imageLetter : Cond.initialized yX5_imageLetter.cls ∈ lw_tbl := tb_at 50 (by decide +kernel)
theorem kX5_imageLetter : (vwCl[5]?).map (fun q => q.1) = some yX5_imageLetter.cls := rfl
theorem MX5_init : gMth yX5_init cX5_init 2 none := ⟨tb_at 68 (by decide +kernel), by decide, by decide +kernel, by decide +kernel⟩
theorem hX5_init : gNH yX5_init 0 := ⟨by decide +kernel, by decide +kernel, by decide +kernel⟩
theorem iX5_init : Cond.instanceMethod yX5_init ∈ lw_tbl := tb_at 67 (by decide +kernel)
theorem nX5_init : Cond.initialized yX5_init.cls ∈ lw_tbl := tb_at 50 (by decide +kernel)
theorem kX5_init : (vwCl[5]?).map (fun q => q.1) = some yX5_init.cls := rfl
theorem MX5_inputIs : gMth yX5_inputIs cX5_inputIs 3 (some .boolean) := ⟨tb_at 399 (by decide +kernel), by decide, by decide +kernel, by decide +kernel⟩
theorem hX5_inputIs : gNH yX5_inputIs 1 := ⟨by decide +kernel, by decide +kernel, by decide +kernel⟩
theorem iX5_inputIs : Cond.instanceMethod yX5_inputIs ∈ lw_tbl := tb_at 398 (by decide +kernel)
theorem sX5_inputIs : Cond.selects yX5_inputIs.cls yX5_inputIs yX5_inputIs ∈ lw_tbl := tb_at 8 (by decide +kernel)
theorem nX5_inputIs : Cond.initialized yX5_inputIs.cls ∈ lw_tbl := tb_at 50 (by decide +kernel)
theorem kX5_inputIs : (vwCl[5]?).map (fun q => q.1) = some yX5_inputIs.cls := rfl
theorem MX5_isAsGeneral : gMth yX5_isAsGeneral cX5_isAsGeneral 4 (some .boolean) := ⟨tb_at 594 (by decide +kernel), by decide, by decide +kernel, by decide +kernel⟩
theorem hX5_isAsGeneral : gNH yX5_isAsGeneral 3 := ⟨by decide +kernel, by decide +kernel, by decide +kernel⟩
theorem iX5_isAsGeneral : Cond.instanceMethod yX5_isAsGeneral ∈ lw_tbl := tb_at 593 (by decide +kernel)
theorem sX5_isAsGeneral : Cond.selects yX5_isAsGeneral.cls yX5_isAsGeneral yX5_isAsGeneral ∈ lw_tbl := tb_at 18 (by decide +kernel)
theorem nX5_isAsGeneral : Cond.initialized yX5_isAsGeneral.cls ∈ lw_tbl := tb_at 50 (by decide +kernel)
theorem kX5_isAsGeneral : (vwCl[5]?).map (fun q => q.1) = some yX5_isAsGeneral.cls := rfl
theorem MX5_isMode : gMth yX5_isMode cX5_isMode 1 (some .boolean) := ⟨tb_at 482 (by decide +kernel), by decide, by decide +kernel, by decide +kernel⟩
theorem hX5_isMode : gNH yX5_isMode 1 := ⟨by decide +kernel, by decide +kernel, by decide +kernel⟩
theorem tX5_isMode : Cond.static yX5_isMode ∈ lw_tbl := tb_at 481 (by decide +kernel)
theorem nX5_isMode : Cond.initialized yX5_isMode.cls ∈ lw_tbl := tb_at 50 (by decide +kernel)
theorem kX5_isMode : (vwCl[5]?).map (fun q => q.1) = some yX5_isMode.cls := rfl
theorem MX5_isMoreGeneral : gMth yX5_isMoreGeneral cX5_isMoreGeneral 4 (some .int) := ⟨tb_at 590 (by decide +kernel), by decide, by decide +kernel, by decide +kernel⟩
theorem hX5_isMoreGeneral : gNH yX5_isMoreGeneral 3 := ⟨by decide +kernel, by decide +kernel, by decide +kernel⟩
theorem iX5_isMoreGeneral : Cond.instanceMethod yX5_isMoreGeneral ∈ lw_tbl := tb_at 588 (by decide +kernel)
theorem sX5_isMoreGeneral : Cond.selects yX5_isMoreGeneral.cls yX5_isMoreGeneral yX5_isMoreGeneral ∈ lw_tbl := tb_at 589 (by decide +kernel)
theorem nX5_isMoreGeneral : Cond.initialized yX5_isMoreGeneral.cls ∈ lw_tbl := tb_at 50 (by decide +kernel)
theorem kX5_isMoreGeneral : (vwCl[5]?).map (fun q => q.1) = some yX5_isMoreGeneral.cls := rfl
theorem MX5_isRegister : gMth yX5_isRegister cX5_isRegister 1 (some .boolean) := ⟨tb_at 306 (by decide +kernel), by decide, by decide +kernel, by decide +kernel⟩
theorem hX5_isRegister : gNH yX5_isRegister 1 := ⟨by decide +kernel, by decide +kernel, by decide +kernel⟩
theorem tX5_isRegister : Cond.static yX5_isRegister ∈ lw_tbl := tb_at 305 (by decide +kernel)
theorem nX5_isRegister : Cond.initialized yX5_isRegister.cls ∈ lw_tbl := tb_at 50 (by decide +kernel)
theorem kX5_isRegister : (vwCl[5]?).map (fun q => q.1) = some yX5_isRegister.cls := rfl
theorem MX5_isSampleIndex : gMth yX5_isSampleIndex cX5_isSampleIndex 2 (some .boolean) := ⟨tb_at 568 (by decide +kernel), by decide, by decide +kernel, by decide +kernel⟩
theorem hX5_isSampleIndex : gNH yX5_isSampleIndex 1 := ⟨by decide +kernel, by decide +kernel, by decide +kernel⟩
theorem iX5_isSampleIndex : Cond.instanceMethod yX5_isSampleIndex ∈ lw_tbl := tb_at 567 (by decide +kernel)
theorem sX5_isSampleIndex : Cond.selects yX5_isSampleIndex.cls yX5_isSampleIndex yX5_isSampleIndex ∈ lw_tbl := tb_at 17 (by decide +kernel)
theorem nX5_isSampleIndex : Cond.initialized yX5_isSampleIndex.cls ∈ lw_tbl := tb_at 50 (by decide +kernel)
theorem kX5_isSampleIndex : (vwCl[5]?).map (fun q => q.1) = some yX5_isSampleIndex.cls := rfl
theorem MX5_isSlot : gMth yX5_isSlot cX5_isSlot 1 (some .boolean) := ⟨tb_at 664 (by decide +kernel), by decide, by decide +kernel, by decide +kernel⟩
theorem hX5_isSlot : gNH yX5_isSlot 1 := ⟨by decide +kernel, by decide +kernel, by decide +kernel⟩
theorem tX5_isSlot : Cond.static yX5_isSlot ∈ lw_tbl := tb_at 663 (by decide +kernel)
theorem nX5_isSlot : Cond.initialized yX5_isSlot.cls ∈ lw_tbl := tb_at 50 (by decide +kernel)
theorem kX5_isSlot : (vwCl[5]?).map (fun q => q.1) = some yX5_isSlot.cls := rfl
theorem MX5_isVariable : gMth yX5_isVariable cX5_isVariable 1 (some .boolean) := ⟨tb_at 348 (by decide +kernel), by decide, by decide +kernel, by decide +kernel⟩
theorem hX5_isVariable : gNH yX5_isVariable 1 := ⟨by decide +kernel, by decide +kernel, by decide +kernel⟩
theorem tX5_isVariable : Cond.static yX5_isVariable ∈ lw_tbl := tb_at 347 (by decide +kernel)
theorem nX5_isVariable : Cond.initialized yX5_isVariable.cls ∈ lw_tbl := tb_at 50 (by decide +kernel)
theorem kX5_isVariable : (vwCl[5]?).map (fun q => q.1) = some yX5_isVariable.cls := rfl
theorem MX5_length : gMth yX5_length cX5_length 2 (some .int) := ⟨tb_at 325 (by decide +kernel), by decide, by decide +kernel, by decide +kernel⟩
theorem hX5_length : gNH yX5_length 1 := ⟨by decide +kernel, by decide +kernel, by decide +kernel⟩
theorem iX5_length : Cond.instanceMethod yX5_length ∈ lw_tbl := tb_at 323 (by decide +kernel)
theorem sX5_length : Cond.selects yX5_length.cls yX5_length yX5_length ∈ lw_tbl := tb_at 324 (by decide +kernel)
theorem nX5_length : Cond.initialized yX5_length.cls ∈ lw_tbl := tb_at 50 (by decide +kernel)
theorem kX5_length : (vwCl[5]?).map (fun q => q.1) = some yX5_length.cls := rfl
theorem MX5_letters : gMth yX5_letters cX5_letters 1 (some .int) := ⟨tb_at 252 (by decide +kernel), by decide, by decide +kernel, by decide +kernel⟩
theorem hX5_letters : gNH yX5_letters 0 := ⟨by decide +kernel, by decide +kernel, by decide +kernel⟩
theorem iX5_letters : Cond.instanceMethod yX5_letters ∈ lw_tbl := tb_at 250 (by decide +kernel)
theorem sX5_letters : Cond.selects yX5_letters.cls yX5_letters yX5_letters ∈ lw_tbl := tb_at 251 (by decide +kernel)
theorem nX5_letters : Cond.initialized yX5_letters.cls ∈ lw_tbl := tb_at 50 (by decide +kernel)
theorem kX5_letters : (vwCl[5]?).map (fun q => q.1) = some yX5_letters.cls := rfl
theorem MX5_loadPattern : gMth yX5_loadPattern cX5_loadPattern 3 (some .int) := ⟨tb_at 696 (by decide +kernel), by decide, by decide +kernel, by decide +kernel⟩
theorem hX5_loadPattern : gNH yX5_loadPattern 2 := ⟨by decide +kernel, by decide +kernel, by decide +kernel⟩
theorem iX5_loadPattern : Cond.instanceMethod yX5_loadPattern ∈ lw_tbl := tb_at 694 (by decide +kernel)
theorem sX5_loadPattern : Cond.selects yX5_loadPattern.cls yX5_loadPattern yX5_loadPattern ∈ lw_tbl := tb_at 695 (by decide +kernel)
theorem nX5_loadPattern : Cond.initialized yX5_loadPattern.cls ∈ lw_tbl := tb_at 50 (by decide +kernel)
theorem kX5_loadPattern : (vwCl[5]?).map (fun q => q.1) = some yX5_loadPattern.cls := rfl
theorem MX5_match : gMth yX5_match cX5_match 7 (some .int) := ⟨tb_at 525 (by decide +kernel), by decide, by decide +kernel, by decide +kernel⟩
theorem hX5_match : gNH yX5_match 2 := ⟨by decide +kernel, by decide +kernel, by decide +kernel⟩
theorem iX5_match : Cond.instanceMethod yX5_match ∈ lw_tbl := tb_at 523 (by decide +kernel)
theorem sX5_match : Cond.selects yX5_match.cls yX5_match yX5_match ∈ lw_tbl := tb_at 524 (by decide +kernel)
theorem nX5_match : Cond.initialized yX5_match.cls ∈ lw_tbl := tb_at 50 (by decide +kernel)
theorem kX5_match : (vwCl[5]?).map (fun q => q.1) = some yX5_match.cls := rfl
theorem MX5_matchCount : gMth yX5_matchCount cX5_matchCount 4 (some .int) := ⟨tb_at 516 (by decide +kernel), by decide, by decide +kernel, by decide +kernel⟩
theorem hX5_matchCount : gNH yX5_matchCount 2 := ⟨by decide +kernel, by decide +kernel, by decide +kernel⟩
theorem iX5_matchCount : Cond.instanceMethod yX5_matchCount ∈ lw_tbl := tb_at 514 (by decide +kernel)
theorem sX5_matchCount : Cond.selects yX5_matchCount.cls yX5_matchCount yX5_matchCount ∈ lw_tbl := tb_at 515 (by decide +kernel)
theorem nX5_matchCount : Cond.initialized yX5_matchCount.cls ∈ lw_tbl := tb_at 50 (by decide +kernel)
theorem kX5_matchCount : (vwCl[5]?).map (fun q => q.1) = some yX5_matchCount.cls := rfl
theorem MX5_matches : gMth yX5_matches cX5_matches 4 (some .int) := ⟨tb_at 472 (by decide +kernel), by decide, by decide +kernel, by decide +kernel⟩
theorem hX5_matches : gNH yX5_matches 2 := ⟨by decide +kernel, by decide +kernel, by decide +kernel⟩
theorem iX5_matches : Cond.instanceMethod yX5_matches ∈ lw_tbl := tb_at 470 (by decide +kernel)
theorem sX5_matches : Cond.selects yX5_matches.cls yX5_matches yX5_matches ∈ lw_tbl := tb_at 471 (by decide +kernel)
theorem nX5_matches : Cond.initialized yX5_matches.cls ∈ lw_tbl := tb_at 50 (by decide +kernel)
theorem kX5_matches : (vwCl[5]?).map (fun q => q.1) = some yX5_matches.cls := rfl
theorem MX5_merge : gMth yX5_merge cX5_merge 4 (some .int) := ⟨tb_at 382 (by decide +kernel), by decide, by decide +kernel, by decide +kernel⟩
theorem hX5_merge : gNH yX5_merge 3 := ⟨by decide +kernel, by decide +kernel, by decide +kernel⟩
theorem iX5_merge : Cond.instanceMethod yX5_merge ∈ lw_tbl := tb_at 380 (by decide +kernel)
theorem sX5_merge : Cond.selects yX5_merge.cls yX5_merge yX5_merge ∈ lw_tbl := tb_at 381 (by decide +kernel)
theorem nX5_merge : Cond.initialized yX5_merge.cls ∈ lw_tbl := tb_at 50 (by decide +kernel)
theorem kX5_merge : (vwCl[5]?).map (fun q => q.1) = some yX5_merge.cls := rfl
theorem MX5_narrowed : gMth yX5_narrowed cX5_narrowed 3 (some .int) := ⟨tb_at 676 (by decide +kernel), by decide, by decide +kernel, by decide +kernel⟩
theorem hX5_narrowed : gNH yX5_narrowed 2 := ⟨by decide +kernel, by decide +kernel, by decide +kernel⟩
theorem tX5_narrowed : Cond.static yX5_narrowed ∈ lw_tbl := tb_at 675 (by decide +kernel)
theorem nX5_narrowed : Cond.initialized yX5_narrowed.cls ∈ lw_tbl := tb_at 50 (by decide +kernel)
theorem kX5_narrowed : (vwCl[5]?).map (fun q => q.1) = some yX5_narrowed.cls := rfl
theorem MX5_occurrences : gMth yX5_occurrences cX5_occurrences 3 (some .int) := ⟨tb_at 341 (by decide +kernel), by decide, by decide +kernel, by decide +kernel⟩
theorem hX5_occurrences : gNH yX5_occurrences 2 := ⟨by decide +kernel, by decide +kernel, by decide +kernel⟩
theorem iX5_occurrences : Cond.instanceMethod yX5_occurrences ∈ lw_tbl := tb_at 339 (by decide +kernel)
theorem sX5_occurrences : Cond.selects yX5_occurrences.cls yX5_occurrences yX5_occurrences ∈ lw_tbl := tb_at 340 (by decide +kernel)
theorem nX5_occurrences : Cond.initialized yX5_occurrences.cls ∈ lw_tbl := tb_at 50 (by decide +kernel)
theorem kX5_occurrences : (vwCl[5]?).map (fun q => q.1) = some yX5_occurrences.cls := rfl
theorem MX5_produce : gMth yX5_produce cX5_produce 6 (some .boolean) := ⟨tb_at 548 (by decide +kernel), by decide, by decide +kernel, by decide +kernel⟩
theorem hX5_produce : gNH yX5_produce 1 := ⟨by decide +kernel, by decide +kernel, by decide +kernel⟩
theorem iX5_produce : Cond.instanceMethod yX5_produce ∈ lw_tbl := tb_at 547 (by decide +kernel)
theorem sX5_produce : Cond.selects yX5_produce.cls yX5_produce yX5_produce ∈ lw_tbl := tb_at 15 (by decide +kernel)
theorem nX5_produce : Cond.initialized yX5_produce.cls ∈ lw_tbl := tb_at 50 (by decide +kernel)
theorem kX5_produce : (vwCl[5]?).map (fun q => q.1) = some yX5_produce.cls := rfl
theorem MX5_putElement : gMth yX5_putElement cX5_putElement 6 (some .int) := ⟨tb_at 672 (by decide +kernel), by decide, by decide +kernel, by decide +kernel⟩
theorem hX5_putElement : gNH yX5_putElement 3 := ⟨by decide +kernel, by decide +kernel, by decide +kernel⟩
theorem iX5_putElement : Cond.instanceMethod yX5_putElement ∈ lw_tbl := tb_at 670 (by decide +kernel)
theorem sX5_putElement : Cond.selects yX5_putElement.cls yX5_putElement yX5_putElement ∈ lw_tbl := tb_at 671 (by decide +kernel)
theorem nX5_putElement : Cond.initialized yX5_putElement.cls ∈ lw_tbl := tb_at 50 (by decide +kernel)
theorem kX5_putElement : (vwCl[5]?).map (fun q => q.1) = some yX5_putElement.cls := rfl
theorem MX5_putForVariable : gMth yX5_putForVariable cX5_putForVariable 5 (some .int) := ⟨tb_at 374 (by decide +kernel), by decide, by decide +kernel, by decide +kernel⟩
theorem hX5_putForVariable : gNH yX5_putForVariable 3 := ⟨by decide +kernel, by decide +kernel, by decide +kernel⟩
theorem iX5_putForVariable : Cond.instanceMethod yX5_putForVariable ∈ lw_tbl := tb_at 373 (by decide +kernel)
theorem sX5_putForVariable : Cond.selects yX5_putForVariable.cls yX5_putForVariable yX5_putForVariable ∈ lw_tbl := tb_at 6 (by decide +kernel)
theorem nX5_putForVariable : Cond.initialized yX5_putForVariable.cls ∈ lw_tbl := tb_at 50 (by decide +kernel)
theorem kX5_putForVariable : (vwCl[5]?).map (fun q => q.1) = some yX5_putForVariable.cls := rfl
theorem MX5_readPattern : gMth yX5_readPattern cX5_readPattern 2 (some .boolean) := ⟨tb_at 274 (by decide +kernel), by decide, by decide +kernel, by decide +kernel⟩
theorem hX5_readPattern : gNH yX5_readPattern 1 := ⟨by decide +kernel, by decide +kernel, by decide +kernel⟩
theorem iX5_readPattern : Cond.instanceMethod yX5_readPattern ∈ lw_tbl := tb_at 273 (by decide +kernel)
theorem sX5_readPattern : Cond.selects yX5_readPattern.cls yX5_readPattern yX5_readPattern ∈ lw_tbl := tb_at 1 (by decide +kernel)
theorem nX5_readPattern : Cond.initialized yX5_readPattern.cls ∈ lw_tbl := tb_at 50 (by decide +kernel)
theorem kX5_readPattern : (vwCl[5]?).map (fun q => q.1) = some yX5_readPattern.cls := rfl
theorem MX5_readSymbols : gMth yX5_readSymbols cX5_readSymbols 4 (some .boolean) := ⟨tb_at 278 (by decide +kernel), by decide, by decide +kernel, by decide +kernel⟩
theorem hX5_readSymbols : gNH yX5_readSymbols 1 := ⟨by decide +kernel, by decide +kernel, by decide +kernel⟩
theorem iX5_readSymbols : Cond.instanceMethod yX5_readSymbols ∈ lw_tbl := tb_at 277 (by decide +kernel)
theorem sX5_readSymbols : Cond.selects yX5_readSymbols.cls yX5_readSymbols yX5_readSymbols ∈ lw_tbl := tb_at 2 (by decide +kernel)
theorem nX5_readSymbols : Cond.initialized yX5_readSymbols.cls ∈ lw_tbl := tb_at 50 (by decide +kernel)
theorem kX5_readSymbols : (vwCl[5]?).map (fun q => q.1) = some yX5_readSymbols.cls := rfl
theorem MX5_refusalOfMatching : gMth yX5_refusalOfMatching cX5_refusalOfMatching 3 (some .int) := ⟨tb_at 479 (by decide +kernel), by decide, by decide +kernel, by decide +kernel⟩
theorem hX5_refusalOfMatching : gNH yX5_refusalOfMatching 3 := ⟨by decide +kernel, by decide +kernel, by decide +kernel⟩
theorem tX5_refusalOfMatching : Cond.static yX5_refusalOfMatching ∈ lw_tbl := tb_at 478 (by decide +kernel)
theorem nX5_refusalOfMatching : Cond.initialized yX5_refusalOfMatching.cls ∈ lw_tbl := tb_at 50 (by decide +kernel)
theorem kX5_refusalOfMatching : (vwCl[5]?).map (fun q => q.1) = some yX5_refusalOfMatching.cls := rfl
theorem MX5_release : gMth yX5_release cX5_release 3 (some .int) := ⟨tb_at 668 (by decide +kernel), by decide, by decide +kernel, by decide +kernel⟩
theorem hX5_release : gNH yX5_release 1 := ⟨by decide +kernel, by decide +kernel, by decide +kernel⟩
theorem iX5_release : Cond.instanceMethod yX5_release ∈ lw_tbl := tb_at 666 (by decide +kernel)
theorem sX5_release : Cond.selects yX5_release.cls yX5_release yX5_release ∈ lw_tbl := tb_at 667 (by decide +kernel)
theorem nX5_release : Cond.initialized yX5_release.cls ∈ lw_tbl := tb_at 50 (by decide +kernel)
theorem kX5_release : (vwCl[5]?).map (fun q => q.1) = some yX5_release.cls := rfl
theorem MX5_removeWord : gMth yX5_removeWord cX5_removeWord 3 (some .int) := ⟨tb_at 564 (by decide +kernel), by decide, by decide +kernel, by decide +kernel⟩
theorem hX5_removeWord : gNH yX5_removeWord 1 := ⟨by decide +kernel, by decide +kernel, by decide +kernel⟩
theorem iX5_removeWord : Cond.instanceMethod yX5_removeWord ∈ lw_tbl := tb_at 562 (by decide +kernel)
theorem sX5_removeWord : Cond.selects yX5_removeWord.cls yX5_removeWord yX5_removeWord ∈ lw_tbl := tb_at 563 (by decide +kernel)
theorem nX5_removeWord : Cond.initialized yX5_removeWord.cls ∈ lw_tbl := tb_at 50 (by decide +kernel)
theorem kX5_removeWord : (vwCl[5]?).map (fun q => q.1) = some yX5_removeWord.cls := rfl
theorem MX5_replace : gMth yX5_replace cX5_replace 4 (some .int) := ⟨tb_at 370 (by decide +kernel), by decide, by decide +kernel, by decide +kernel⟩
theorem hX5_replace : gNH yX5_replace 3 := ⟨by decide +kernel, by decide +kernel, by decide +kernel⟩
theorem iX5_replace : Cond.instanceMethod yX5_replace ∈ lw_tbl := tb_at 368 (by decide +kernel)
theorem sX5_replace : Cond.selects yX5_replace.cls yX5_replace yX5_replace ∈ lw_tbl := tb_at 369 (by decide +kernel)
theorem nX5_replace : Cond.initialized yX5_replace.cls ∈ lw_tbl := tb_at 50 (by decide +kernel)
theorem kX5_replace : (vwCl[5]?).map (fun q => q.1) = some yX5_replace.cls := rfl
theorem MX5_reset : gMth yX5_reset cX5_reset 3 (some .int) := ⟨tb_at 247 (by decide +kernel), by decide, by decide +kernel, by decide +kernel⟩
theorem hX5_reset : gNH yX5_reset 1 := ⟨by decide +kernel, by decide +kernel, by decide +kernel⟩
theorem iX5_reset : Cond.instanceMethod yX5_reset ∈ lw_tbl := tb_at 245 (by decide +kernel)
theorem sX5_reset : Cond.selects yX5_reset.cls yX5_reset yX5_reset ∈ lw_tbl := tb_at 246 (by decide +kernel)
theorem nX5_reset : Cond.initialized yX5_reset.cls ∈ lw_tbl := tb_at 50 (by decide +kernel)
theorem kX5_reset : (vwCl[5]?).map (fun q => q.1) = some yX5_reset.cls := rfl
theorem MX5_restore : gMth yX5_restore cX5_restore 1 (some .int) := ⟨tb_at 712 (by decide +kernel), by decide, by decide +kernel, by decide +kernel⟩
theorem hX5_restore : gNH yX5_restore 0 := ⟨by decide +kernel, by decide +kernel, by decide +kernel⟩
theorem iX5_restore : Cond.instanceMethod yX5_restore ∈ lw_tbl := tb_at 710 (by decide +kernel)
theorem sX5_restore : Cond.selects yX5_restore.cls yX5_restore yX5_restore ∈ lw_tbl := tb_at 711 (by decide +kernel)
theorem nX5_restore : Cond.initialized yX5_restore.cls ∈ lw_tbl := tb_at 50 (by decide +kernel)
theorem kX5_restore : (vwCl[5]?).map (fun q => q.1) = some yX5_restore.cls := rfl
theorem MX5_sampleCode : gMth yX5_sampleCode cX5_sampleCode 2 (some .long) := ⟨tb_at 576 (by decide +kernel), by decide, by decide +kernel, by decide +kernel⟩
theorem hX5_sampleCode : gNH yX5_sampleCode 1 := ⟨by decide +kernel, by decide +kernel, by decide +kernel⟩
theorem iX5_sampleCode : Cond.instanceMethod yX5_sampleCode ∈ lw_tbl := tb_at 574 (by decide +kernel)
theorem sX5_sampleCode : Cond.selects yX5_sampleCode.cls yX5_sampleCode yX5_sampleCode ∈ lw_tbl := tb_at 575 (by decide +kernel)
theorem nX5_sampleCode : Cond.initialized yX5_sampleCode.cls ∈ lw_tbl := tb_at 50 (by decide +kernel)
theorem kX5_sampleCode : (vwCl[5]?).map (fun q => q.1) = some yX5_sampleCode.cls := rfl
theorem MX5_sampleSize : gMth yX5_sampleSize cX5_sampleSize 1 (some .int) := ⟨tb_at 572 (by decide +kernel), by decide, by decide +kernel, by decide +kernel⟩
theorem hX5_sampleSize : gNH yX5_sampleSize 0 := ⟨by decide +kernel, by decide +kernel, by decide +kernel⟩
theorem iX5_sampleSize : Cond.instanceMethod yX5_sampleSize ∈ lw_tbl := tb_at 570 (by decide +kernel)
theorem sX5_sampleSize : Cond.selects yX5_sampleSize.cls yX5_sampleSize yX5_sampleSize ∈ lw_tbl := tb_at 571 (by decide +kernel)
theorem nX5_sampleSize : Cond.initialized yX5_sampleSize.cls ∈ lw_tbl := tb_at 50 (by decide +kernel)
theorem kX5_sampleSize : (vwCl[5]?).map (fun q => q.1) = some yX5_sampleSize.cls := rfl
theorem MX5_setImage : gMth yX5_setImage cX5_setImage 3 (some .int) := ⟨tb_at 536 (by decide +kernel), by decide, by decide +kernel, by decide +kernel⟩
theorem hX5_setImage : gNH yX5_setImage 1 := ⟨by decide +kernel, by decide +kernel, by decide +kernel⟩
theorem iX5_setImage : Cond.instanceMethod yX5_setImage ∈ lw_tbl := tb_at 534 (by decide +kernel)
theorem sX5_setImage : Cond.selects yX5_setImage.cls yX5_setImage yX5_setImage ∈ lw_tbl := tb_at 535 (by decide +kernel)
theorem nX5_setImage : Cond.initialized yX5_setImage.cls ∈ lw_tbl := tb_at 50 (by decide +kernel)
theorem kX5_setImage : (vwCl[5]?).map (fun q => q.1) = some yX5_setImage.cls := rfl
theorem MX5_setPattern : gMth yX5_setPattern cX5_setPattern 3 (some .int) := ⟨tb_at 266 (by decide +kernel), by decide, by decide +kernel, by decide +kernel⟩
theorem hX5_setPattern : gNH yX5_setPattern 1 := ⟨by decide +kernel, by decide +kernel, by decide +kernel⟩
theorem iX5_setPattern : Cond.instanceMethod yX5_setPattern ∈ lw_tbl := tb_at 264 (by decide +kernel)
theorem sX5_setPattern : Cond.selects yX5_setPattern.cls yX5_setPattern yX5_setPattern ∈ lw_tbl := tb_at 265 (by decide +kernel)
theorem nX5_setPattern : Cond.initialized yX5_setPattern.cls ∈ lw_tbl := tb_at 50 (by decide +kernel)
theorem kX5_setPattern : (vwCl[5]?).map (fun q => q.1) = some yX5_setPattern.cls := rfl
theorem MX5_snapshot : gMth yX5_snapshot cX5_snapshot 1 (some .int) := ⟨tb_at 700 (by decide +kernel), by decide, by decide +kernel, by decide +kernel⟩
theorem hX5_snapshot : gNH yX5_snapshot 0 := ⟨by decide +kernel, by decide +kernel, by decide +kernel⟩
theorem iX5_snapshot : Cond.instanceMethod yX5_snapshot ∈ lw_tbl := tb_at 698 (by decide +kernel)
theorem sX5_snapshot : Cond.selects yX5_snapshot.cls yX5_snapshot yX5_snapshot ∈ lw_tbl := tb_at 699 (by decide +kernel)
theorem nX5_snapshot : Cond.initialized yX5_snapshot.cls ∈ lw_tbl := tb_at 50 (by decide +kernel)
theorem kX5_snapshot : (vwCl[5]?).map (fun q => q.1) = some yX5_snapshot.cls := rfl
theorem MX5_split : gMth yX5_split cX5_split 7 (some .int) := ⟨tb_at 386 (by decide +kernel), by decide, by decide +kernel, by decide +kernel⟩
theorem hX5_split : gNH yX5_split 2 := ⟨by decide +kernel, by decide +kernel, by decide +kernel⟩
theorem iX5_split : Cond.instanceMethod yX5_split ∈ lw_tbl := tb_at 384 (by decide +kernel)
theorem sX5_split : Cond.selects yX5_split.cls yX5_split yX5_split ∈ lw_tbl := tb_at 385 (by decide +kernel)
theorem nX5_split : Cond.initialized yX5_split.cls ∈ lw_tbl := tb_at 50 (by decide +kernel)
theorem kX5_split : (vwCl[5]?).map (fun q => q.1) = some yX5_split.cls := rfl
theorem MX5_store : gMth yX5_store cX5_store 3 (some .int) := ⟨tb_at 310 (by decide +kernel), by decide, by decide +kernel, by decide +kernel⟩
theorem hX5_store : gNH yX5_store 2 := ⟨by decide +kernel, by decide +kernel, by decide +kernel⟩
theorem iX5_store : Cond.instanceMethod yX5_store ∈ lw_tbl := tb_at 309 (by decide +kernel)
theorem sX5_store : Cond.selects yX5_store.cls yX5_store yX5_store ∈ lw_tbl := tb_at 4 (by decide +kernel)
theorem nX5_store : Cond.initialized yX5_store.cls ∈ lw_tbl := tb_at 50 (by decide +kernel)
theorem kX5_store : (vwCl[5]?).map (fun q => q.1) = some yX5_store.cls := rfl
theorem MX5_swapLetters : gMth yX5_swapLetters cX5_swapLetters 2 none := ⟨tb_at 456 (by decide +kernel), by decide, by decide +kernel, by decide +kernel⟩
theorem hX5_swapLetters : gNH yX5_swapLetters 1 := ⟨by decide +kernel, by decide +kernel, by decide +kernel⟩
theorem iX5_swapLetters : Cond.instanceMethod yX5_swapLetters ∈ lw_tbl := tb_at 455 (by decide +kernel)
theorem sX5_swapLetters : Cond.selects yX5_swapLetters.cls yX5_swapLetters yX5_swapLetters ∈ lw_tbl := tb_at 9 (by decide +kernel)
theorem nX5_swapLetters : Cond.initialized yX5_swapLetters.cls ∈ lw_tbl := tb_at 50 (by decide +kernel)
theorem kX5_swapLetters : (vwCl[5]?).map (fun q => q.1) = some yX5_swapLetters.cls := rfl
theorem MX5_symbol : gMth yX5_symbol cX5_symbol 4 (some .int) := ⟨tb_at 329 (by decide +kernel), by decide, by decide +kernel, by decide +kernel⟩
theorem hX5_symbol : gNH yX5_symbol 2 := ⟨by decide +kernel, by decide +kernel, by decide +kernel⟩
theorem iX5_symbol : Cond.instanceMethod yX5_symbol ∈ lw_tbl := tb_at 327 (by decide +kernel)
theorem sX5_symbol : Cond.selects yX5_symbol.cls yX5_symbol yX5_symbol ∈ lw_tbl := tb_at 328 (by decide +kernel)
theorem nX5_symbol : Cond.initialized yX5_symbol.cls ∈ lw_tbl := tb_at 50 (by decide +kernel)
theorem kX5_symbol : (vwCl[5]?).map (fun q => q.1) = some yX5_symbol.cls := rfl
theorem MX5_takePattern : gMth yX5_takePattern cX5_takePattern 2 (some .boolean) := ⟨tb_at 270 (by decide +kernel), by decide, by decide +kernel, by decide +kernel⟩
theorem hX5_takePattern : gNH yX5_takePattern 0 := ⟨by decide +kernel, by decide +kernel, by decide +kernel⟩
theorem iX5_takePattern : Cond.instanceMethod yX5_takePattern ∈ lw_tbl := tb_at 269 (by decide +kernel)
theorem sX5_takePattern : Cond.selects yX5_takePattern.cls yX5_takePattern yX5_takePattern ∈ lw_tbl := tb_at 0 (by decide +kernel)
theorem nX5_takePattern : Cond.initialized yX5_takePattern.cls ∈ lw_tbl := tb_at 50 (by decide +kernel)
theorem kX5_takePattern : (vwCl[5]?).map (fun q => q.1) = some yX5_takePattern.cls := rfl
theorem MX5_takeWord : gMth yX5_takeWord cX5_takeWord 2 (some .boolean) := ⟨tb_at 476 (by decide +kernel), by decide, by decide +kernel, by decide +kernel⟩
theorem hX5_takeWord : gNH yX5_takeWord 0 := ⟨by decide +kernel, by decide +kernel, by decide +kernel⟩
theorem iX5_takeWord : Cond.instanceMethod yX5_takeWord ∈ lw_tbl := tb_at 475 (by decide +kernel)
theorem sX5_takeWord : Cond.selects yX5_takeWord.cls yX5_takeWord yX5_takeWord ∈ lw_tbl := tb_at 10 (by decide +kernel)
theorem nX5_takeWord : Cond.initialized yX5_takeWord.cls ∈ lw_tbl := tb_at 50 (by decide +kernel)
theorem kX5_takeWord : (vwCl[5]?).map (fun q => q.1) = some yX5_takeWord.cls := rfl
theorem MX5_transform : gMth yX5_transform cX5_transform 3 (some .int) := ⟨tb_at 390 (by decide +kernel), by decide, by decide +kernel, by decide +kernel⟩
theorem hX5_transform : gNH yX5_transform 1 := ⟨by decide +kernel, by decide +kernel, by decide +kernel⟩
theorem iX5_transform : Cond.instanceMethod yX5_transform ∈ lw_tbl := tb_at 388 (by decide +kernel)
theorem sX5_transform : Cond.selects yX5_transform.cls yX5_transform yX5_transform ∈ lw_tbl := tb_at 389 (by decide +kernel)
theorem nX5_transform : Cond.initialized yX5_transform.cls ∈ lw_tbl := tb_at 50 (by decide +kernel)
theorem kX5_transform : (vwCl[5]?).map (fun q => q.1) = some yX5_transform.cls := rfl
theorem MX5_variableCount : gMth yX5_variableCount cX5_variableCount 2 (some .int) := ⟨tb_at 333 (by decide +kernel), by decide, by decide +kernel, by decide +kernel⟩
theorem hX5_variableCount : gNH yX5_variableCount 1 := ⟨by decide +kernel, by decide +kernel, by decide +kernel⟩
theorem iX5_variableCount : Cond.instanceMethod yX5_variableCount ∈ lw_tbl := tb_at 331 (by decide +kernel)
theorem sX5_variableCount : Cond.selects yX5_variableCount.cls yX5_variableCount yX5_variableCount ∈ lw_tbl := tb_at 332 (by decide +kernel)
theorem nX5_variableCount : Cond.initialized yX5_variableCount.cls ∈ lw_tbl := tb_at 50 (by decide +kernel)
theorem kX5_variableCount : (vwCl[5]?).map (fun q => q.1) = some yX5_variableCount.cls := rfl
theorem MX5_wordsOfLength : gMth yX5_wordsOfLength cX5_wordsOfLength 4 (some .int) := ⟨tb_at 644 (by decide +kernel), by decide, by decide +kernel, by decide +kernel⟩
theorem hX5_wordsOfLength : gNH yX5_wordsOfLength 1 := ⟨by decide +kernel, by decide +kernel, by decide +kernel⟩
theorem iX5_wordsOfLength : Cond.instanceMethod yX5_wordsOfLength ∈ lw_tbl := tb_at 643 (by decide +kernel)
theorem sX5_wordsOfLength : Cond.selects yX5_wordsOfLength.cls yX5_wordsOfLength yX5_wordsOfLength ∈ lw_tbl := tb_at 23 (by decide +kernel)
theorem nX5_wordsOfLength : Cond.initialized yX5_wordsOfLength.cls ∈ lw_tbl := tb_at 50 (by decide +kernel)
theorem kX5_wordsOfLength : (vwCl[5]?).map (fun q => q.1) = some yX5_wordsOfLength.cls := rfl
theorem MX6_addProduced : gMth yX6_addProduced cX6_addProduced 7 (some .int) := ⟨tb_at 1016 (by decide +kernel), by decide, by decide +kernel, by decide +kernel⟩
theorem hX6_addProduced : gNH yX6_addProduced 1 := ⟨by decide +kernel, by decide +kernel, by decide +kernel⟩
theorem iX6_addProduced : Cond.instanceMethod yX6_addProduced ∈ lw_tbl := tb_at 1014 (by decide +kernel)
theorem sX6_addProduced : Cond.selects yX6_addProduced.cls yX6_addProduced yX6_addProduced ∈ lw_tbl := tb_at 1015 (by decide +kernel)
theorem nX6_addProduced : Cond.initialized yX6_addProduced.cls ∈ lw_tbl := tb_at 57 (by decide +kernel)
theorem kX6_addProduced : (vwCl[6]?).map (fun q => q.1) = some yX6_addProduced.cls := rfl
theorem MX6_addToSample : gMth yX6_addToSample cX6_addToSample 1 (some .int) := ⟨tb_at 1020 (by decide +kernel), by decide, by decide +kernel, by decide +kernel⟩
theorem hX6_addToSample : gNH yX6_addToSample 0 := ⟨by decide +kernel, by decide +kernel, by decide +kernel⟩
theorem iX6_addToSample : Cond.instanceMethod yX6_addToSample ∈ lw_tbl := tb_at 1019 (by decide +kernel)
theorem sX6_addToSample : Cond.selects yX6_addToSample.cls yX6_addToSample yX6_addToSample ∈ lw_tbl := tb_at 39 (by decide +kernel)
theorem nX6_addToSample : Cond.initialized yX6_addToSample.cls ∈ lw_tbl := tb_at 57 (by decide +kernel)
theorem kX6_addToSample : (vwCl[6]?).map (fun q => q.1) = some yX6_addToSample.cls := rfl
theorem MX6_addWord : gMth yX6_addWord cX6_addWord 1 (some .int) := ⟨tb_at 1024 (by decide +kernel), by decide, by decide +kernel, by decide +kernel⟩
theorem hX6_addWord : gNH yX6_addWord 0 := ⟨by decide +kernel, by decide +kernel, by decide +kernel⟩
theorem iX6_addWord : Cond.instanceMethod yX6_addWord ∈ lw_tbl := tb_at 1022 (by decide +kernel)
theorem sX6_addWord : Cond.selects yX6_addWord.cls yX6_addWord yX6_addWord ∈ lw_tbl := tb_at 1023 (by decide +kernel)
theorem nX6_addWord : Cond.initialized yX6_addWord.cls ∈ lw_tbl := tb_at 57 (by decide +kernel)
theorem kX6_addWord : (vwCl[6]?).map (fun q => q.1) = some yX6_addWord.cls := rfl
theorem MX6_allocate : gMth yX6_allocate cX6_allocate 5 (some .int) := ⟨tb_at 1105 (by decide +kernel), by decide, by decide +kernel, by decide +kernel⟩
theorem hX6_allocate : gNH yX6_allocate 3 := ⟨by decide +kernel, by decide +kernel, by decide +kernel⟩
theorem iX6_allocate : Cond.instanceMethod yX6_allocate ∈ lw_tbl := tb_at 1103 (by decide +kernel)
theorem sX6_allocate : Cond.selects yX6_allocate.cls yX6_allocate yX6_allocate ∈ lw_tbl := tb_at 1104 (by decide +kernel)
theorem nX6_allocate : Cond.initialized yX6_allocate.cls ∈ lw_tbl := tb_at 57 (by decide +kernel)
theorem kX6_allocate : (vwCl[6]?).map (fun q => q.1) = some yX6_allocate.cls := rfl
theorem MX6_append : gMth yX6_append cX6_append 4 (some .int) := ⟨tb_at 865 (by decide +kernel), by decide, by decide +kernel, by decide +kernel⟩
theorem hX6_append : gNH yX6_append 2 := ⟨by decide +kernel, by decide +kernel, by decide +kernel⟩
theorem iX6_append : Cond.instanceMethod yX6_append ∈ lw_tbl := tb_at 863 (by decide +kernel)
theorem sX6_append : Cond.selects yX6_append.cls yX6_append yX6_append ∈ lw_tbl := tb_at 864 (by decide +kernel)
theorem nX6_append : Cond.initialized yX6_append.cls ∈ lw_tbl := tb_at 57 (by decide +kernel)
theorem kX6_append : (vwCl[6]?).map (fun q => q.1) = some yX6_append.cls := rfl
theorem MX6_better : gMth yX6_better cX6_better 8 (some .int) := ⟨tb_at 934 (by decide +kernel), by decide, by decide +kernel, by decide +kernel⟩
theorem hX6_better : gNH yX6_better 5 := ⟨by decide +kernel, by decide +kernel, by decide +kernel⟩
theorem tX6_better : Cond.static yX6_better ∈ lw_tbl := tb_at 933 (by decide +kernel)
theorem nX6_better : Cond.initialized yX6_better.cls ∈ lw_tbl := tb_at 57 (by decide +kernel)
theorem kX6_better : (vwCl[6]?).map (fun q => q.1) = some yX6_better.cls := rfl
theorem MX6_carry : gMth yX6_carry cX6_carry 3 none := ⟨tb_at 1142 (by decide +kernel), by decide, by decide +kernel, by decide +kernel⟩
theorem hX6_carry : gNH yX6_carry 3 := ⟨by decide +kernel, by decide +kernel, by decide +kernel⟩
theorem tX6_carry : Cond.static yX6_carry ∈ lw_tbl := tb_at 1141 (by decide +kernel)
theorem nX6_carry : Cond.initialized yX6_carry.cls ∈ lw_tbl := tb_at 57 (by decide +kernel)
theorem kX6_carry : (vwCl[6]?).map (fun q => q.1) = some yX6_carry.cls := rfl
theorem MX6_carryAll : gMth yX6_carryAll cX6_carryAll 2 none := ⟨tb_at 1139 (by decide +kernel), by decide, by decide +kernel, by decide +kernel⟩
theorem hX6_carryAll : gNH yX6_carryAll 1 := ⟨by decide +kernel, by decide +kernel, by decide +kernel⟩
theorem iX6_carryAll : Cond.instanceMethod yX6_carryAll ∈ lw_tbl := tb_at 1138 (by decide +kernel)
theorem sX6_carryAll : Cond.selects yX6_carryAll.cls yX6_carryAll yX6_carryAll ∈ lw_tbl := tb_at 48 (by decide +kernel)
theorem nX6_carryAll : Cond.initialized yX6_carryAll.cls ∈ lw_tbl := tb_at 57 (by decide +kernel)
theorem kX6_carryAll : (vwCl[6]?).map (fun q => q.1) = some yX6_carryAll.cls := rfl
theorem MX6_chainBreak : gMth yX6_chainBreak cX6_chainBreak 5 (some .int) := ⟨tb_at 1065 (by decide +kernel), by decide, by decide +kernel, by decide +kernel⟩
theorem hX6_chainBreak : gNH yX6_chainBreak 3 := ⟨by decide +kernel, by decide +kernel, by decide +kernel⟩
theorem iX6_chainBreak : Cond.instanceMethod yX6_chainBreak ∈ lw_tbl := tb_at 1063 (by decide +kernel)
theorem sX6_chainBreak : Cond.selects yX6_chainBreak.cls yX6_chainBreak yX6_chainBreak ∈ lw_tbl := tb_at 1064 (by decide +kernel)
theorem nX6_chainBreak : Cond.initialized yX6_chainBreak.cls ∈ lw_tbl := tb_at 57 (by decide +kernel)
theorem kX6_chainBreak : (vwCl[6]?).map (fun q => q.1) = some yX6_chainBreak.cls := rfl
theorem MX6_choose : gMth yX6_choose cX6_choose 4 none := ⟨tb_at 991 (by decide +kernel), by decide, by decide +kernel, by decide +kernel⟩
theorem hX6_choose : gNH yX6_choose 2 := ⟨by decide +kernel, by decide +kernel, by decide +kernel⟩
theorem iX6_choose : Cond.instanceMethod yX6_choose ∈ lw_tbl := tb_at 990 (by decide +kernel)
theorem sX6_choose : Cond.selects yX6_choose.cls yX6_choose yX6_choose ∈ lw_tbl := tb_at 37 (by decide +kernel)
theorem nX6_choose : Cond.initialized yX6_choose.cls ∈ lw_tbl := tb_at 57 (by decide +kernel)
theorem kX6_choose : (vwCl[6]?).map (fun q => q.1) = some yX6_choose.cls := rfl
theorem MX6_clear : gMth yX6_clear cX6_clear 2 none := ⟨tb_at 722 (by decide +kernel), by decide, by decide +kernel, by decide +kernel⟩
theorem hX6_clear : gNH yX6_clear 0 := ⟨by decide +kernel, by decide +kernel, by decide +kernel⟩
theorem iX6_clear : Cond.instanceMethod yX6_clear ∈ lw_tbl := tb_at 721 (by decide +kernel)
theorem sX6_clear : Cond.selects yX6_clear.cls yX6_clear yX6_clear ∈ lw_tbl := tb_at 25 (by decide +kernel)
theorem nX6_clear : Cond.initialized yX6_clear.cls ∈ lw_tbl := tb_at 57 (by decide +kernel)
theorem kX6_clear : (vwCl[6]?).map (fun q => q.1) = some yX6_clear.cls := rfl
theorem MX6_clearInput : gMth yX6_clearInput cX6_clearInput 2 (some .int) := ⟨tb_at 869 (by decide +kernel), by decide, by decide +kernel, by decide +kernel⟩
theorem hX6_clearInput : gNH yX6_clearInput 0 := ⟨by decide +kernel, by decide +kernel, by decide +kernel⟩
theorem iX6_clearInput : Cond.instanceMethod yX6_clearInput ∈ lw_tbl := tb_at 867 (by decide +kernel)
theorem sX6_clearInput : Cond.selects yX6_clearInput.cls yX6_clearInput yX6_clearInput ∈ lw_tbl := tb_at 868 (by decide +kernel)
theorem nX6_clearInput : Cond.initialized yX6_clearInput.cls ∈ lw_tbl := tb_at 57 (by decide +kernel)
theorem kX6_clearInput : (vwCl[6]?).map (fun q => q.1) = some yX6_clearInput.cls := rfl
theorem MX6_codeOf : gMth yX6_codeOf cX6_codeOf 2 (some .int) := ⟨tb_at 881 (by decide +kernel), by decide, by decide +kernel, by decide +kernel⟩
theorem hX6_codeOf : gNH yX6_codeOf 1 := ⟨by decide +kernel, by decide +kernel, by decide +kernel⟩
theorem iX6_codeOf : Cond.instanceMethod yX6_codeOf ∈ lw_tbl := tb_at 880 (by decide +kernel)
theorem sX6_codeOf : Cond.selects yX6_codeOf.cls yX6_codeOf yX6_codeOf ∈ lw_tbl := tb_at 27 (by decide +kernel)
theorem nX6_codeOf : Cond.initialized yX6_codeOf.cls ∈ lw_tbl := tb_at 57 (by decide +kernel)
theorem kX6_codeOf : (vwCl[6]?).map (fun q => q.1) = some yX6_codeOf.cls := rfl
theorem MX6_codeOf_ : gMth yX6_codeOf_ cX6_codeOf_ 6 (some .long) := ⟨tb_at 1043 (by decide +kernel), by decide, by decide +kernel, by decide +kernel⟩
theorem hX6_codeOf_ : gNH yX6_codeOf_ 3 := ⟨by decide +kernel, by decide +kernel, by decide +kernel⟩
theorem tX6_codeOf_ : Cond.static yX6_codeOf_ ∈ lw_tbl := tb_at 1042 (by decide +kernel)
theorem nX6_codeOf_ : Cond.initialized yX6_codeOf_.cls ∈ lw_tbl := tb_at 57 (by decide +kernel)
theorem kX6_codeOf_ : (vwCl[6]?).map (fun q => q.1) = some yX6_codeOf_.cls := rfl
theorem MX6_compareQuality : gMth yX6_compareQuality cX6_compareQuality 4 (some .int) := ⟨tb_at 931 (by decide +kernel), by decide, by decide +kernel, by decide +kernel⟩
theorem hX6_compareQuality : gNH yX6_compareQuality 2 := ⟨by decide +kernel, by decide +kernel, by decide +kernel⟩
theorem iX6_compareQuality : Cond.instanceMethod yX6_compareQuality ∈ lw_tbl := tb_at 929 (by decide +kernel)
theorem sX6_compareQuality : Cond.selects yX6_compareQuality.cls yX6_compareQuality yX6_compareQuality ∈ lw_tbl := tb_at 930 (by decide +kernel)
theorem nX6_compareQuality : Cond.initialized yX6_compareQuality.cls ∈ lw_tbl := tb_at 57 (by decide +kernel)
theorem kX6_compareQuality : (vwCl[6]?).map (fun q => q.1) = some yX6_compareQuality.cls := rfl
theorem MX6_copy : gMth yX6_copy cX6_copy 3 (some .int) := ⟨tb_at 897 (by decide +kernel), by decide, by decide +kernel, by decide +kernel⟩
theorem hX6_copy : gNH yX6_copy 2 := ⟨by decide +kernel, by decide +kernel, by decide +kernel⟩
theorem iX6_copy : Cond.instanceMethod yX6_copy ∈ lw_tbl := tb_at 895 (by decide +kernel)
theorem sX6_copy : Cond.selects yX6_copy.cls yX6_copy yX6_copy ∈ lw_tbl := tb_at 896 (by decide +kernel)
theorem nX6_copy : Cond.initialized yX6_copy.cls ∈ lw_tbl := tb_at 57 (by decide +kernel)
theorem kX6_copy : (vwCl[6]?).map (fun q => q.1) = some yX6_copy.cls := rfl
theorem MX6_copyElements : gMth yX6_copyElements cX6_copyElements 7 (some .int) := ⟨tb_at 1127 (by decide +kernel), by decide, by decide +kernel, by decide +kernel⟩
theorem hX6_copyElements : gNH yX6_copyElements 5 := ⟨by decide +kernel, by decide +kernel, by decide +kernel⟩
theorem iX6_copyElements : Cond.instanceMethod yX6_copyElements ∈ lw_tbl := tb_at 1125 (by decide +kernel)
theorem sX6_copyElements : Cond.selects yX6_copyElements.cls yX6_copyElements yX6_copyElements ∈ lw_tbl := tb_at 1126 (by decide +kernel)
theorem nX6_copyElements : Cond.initialized yX6_copyElements.cls ∈ lw_tbl := tb_at 57 (by decide +kernel)
theorem kX6_copyElements : (vwCl[6]?).map (fun q => q.1) = some yX6_copyElements.cls := rfl
theorem MX6_countOf : gMth yX6_countOf cX6_countOf 6 (some .int) := ⟨tb_at 919 (by decide +kernel), by decide, by decide +kernel, by decide +kernel⟩
theorem hX6_countOf : gNH yX6_countOf 4 := ⟨by decide +kernel, by decide +kernel, by decide +kernel⟩
theorem tX6_countOf : Cond.static yX6_countOf ∈ lw_tbl := tb_at 918 (by decide +kernel)
theorem nX6_countOf : Cond.initialized yX6_countOf.cls ∈ lw_tbl := tb_at 57 (by decide +kernel)
theorem kX6_countOf : (vwCl[6]?).map (fun q => q.1) = some yX6_countOf.cls := rfl
theorem MX6_countWords : gMth yX6_countWords cX6_countWords 6 (some .int) := ⟨tb_at 1085 (by decide +kernel), by decide, by decide +kernel, by decide +kernel⟩
theorem hX6_countWords : gNH yX6_countWords 3 := ⟨by decide +kernel, by decide +kernel, by decide +kernel⟩
theorem iX6_countWords : Cond.instanceMethod yX6_countWords ∈ lw_tbl := tb_at 1083 (by decide +kernel)
theorem sX6_countWords : Cond.selects yX6_countWords.cls yX6_countWords yX6_countWords ∈ lw_tbl := tb_at 1084 (by decide +kernel)
theorem nX6_countWords : Cond.initialized yX6_countWords.cls ∈ lw_tbl := tb_at 57 (by decide +kernel)
theorem kX6_countWords : (vwCl[6]?).map (fun q => q.1) = some yX6_countWords.cls := rfl
theorem MX6_covers : gMth yX6_covers cX6_covers 4 (some .boolean) := ⟨tb_at 1061 (by decide +kernel), by decide, by decide +kernel, by decide +kernel⟩
theorem hX6_covers : gNH yX6_covers 3 := ⟨by decide +kernel, by decide +kernel, by decide +kernel⟩
theorem iX6_covers : Cond.instanceMethod yX6_covers ∈ lw_tbl := tb_at 1060 (by decide +kernel)
theorem sX6_covers : Cond.selects yX6_covers.cls yX6_covers yX6_covers ∈ lw_tbl := tb_at 42 (by decide +kernel)
theorem nX6_covers : Cond.initialized yX6_covers.cls ∈ lw_tbl := tb_at 57 (by decide +kernel)
theorem kX6_covers : (vwCl[6]?).map (fun q => q.1) = some yX6_covers.cls := rfl
theorem MX6_difference : gMth yX6_difference cX6_difference 7 (some .long) := ⟨tb_at 1101 (by decide +kernel), by decide, by decide +kernel, by decide +kernel⟩
theorem hX6_difference : gNH yX6_difference 4 := ⟨by decide +kernel, by decide +kernel, by decide +kernel⟩
theorem iX6_difference : Cond.instanceMethod yX6_difference ∈ lw_tbl := tb_at 1099 (by decide +kernel)
theorem sX6_difference : Cond.selects yX6_difference.cls yX6_difference yX6_difference ∈ lw_tbl := tb_at 1100 (by decide +kernel)
theorem nX6_difference : Cond.initialized yX6_difference.cls ∈ lw_tbl := tb_at 57 (by decide +kernel)
theorem kX6_difference : (vwCl[6]?).map (fun q => q.1) = some yX6_difference.cls := rfl
theorem MX6_element : gMth yX6_element cX6_element 3 (some .long) := ⟨tb_at 1123 (by decide +kernel), by decide, by decide +kernel, by decide +kernel⟩
theorem hX6_element : gNH yX6_element 2 := ⟨by decide +kernel, by decide +kernel, by decide +kernel⟩
theorem iX6_element : Cond.instanceMethod yX6_element ∈ lw_tbl := tb_at 1121 (by decide +kernel)
theorem sX6_element : Cond.selects yX6_element.cls yX6_element yX6_element ∈ lw_tbl := tb_at 1122 (by decide +kernel)
theorem nX6_element : Cond.initialized yX6_element.cls ∈ lw_tbl := tb_at 57 (by decide +kernel)
theorem kX6_element : (vwCl[6]?).map (fun q => q.1) = some yX6_element.cls := rfl
theorem MX6_exchange : gMth yX6_exchange cX6_exchange 5 (some .int) := ⟨tb_at 945 (by decide +kernel), by decide, by decide +kernel, by decide +kernel⟩
theorem hX6_exchange : gNH yX6_exchange 3 := ⟨by decide +kernel, by decide +kernel, by decide +kernel⟩
theorem iX6_exchange : Cond.instanceMethod yX6_exchange ∈ lw_tbl := tb_at 944 (by decide +kernel)
theorem sX6_exchange : Cond.selects yX6_exchange.cls yX6_exchange yX6_exchange ∈ lw_tbl := tb_at 32 (by decide +kernel)
theorem nX6_exchange : Cond.initialized yX6_exchange.cls ∈ lw_tbl := tb_at 57 (by decide +kernel)
theorem kX6_exchange : (vwCl[6]?).map (fun q => q.1) = some yX6_exchange.cls := rfl
theorem MX6_findOneVariable : gMth yX6_findOneVariable cX6_findOneVariable 3 (some .int) := ⟨tb_at 1081 (by decide +kernel), by decide, by decide +kernel, by decide +kernel⟩
theorem hX6_findOneVariable : gNH yX6_findOneVariable 1 := ⟨by decide +kernel, by decide +kernel, by decide +kernel⟩
theorem iX6_findOneVariable : Cond.instanceMethod yX6_findOneVariable ∈ lw_tbl := tb_at 1079 (by decide +kernel)
theorem sX6_findOneVariable : Cond.selects yX6_findOneVariable.cls yX6_findOneVariable yX6_findOneVariable ∈ lw_tbl := tb_at 1080 (by decide +kernel)
theorem nX6_findOneVariable : Cond.initialized yX6_findOneVariable.cls ∈ lw_tbl := tb_at 57 (by decide +kernel)
theorem kX6_findOneVariable : (vwCl[6]?).map (fun q => q.1) = some yX6_findOneVariable.cls := rfl
theorem MX6_findPattern : gMth yX6_findPattern cX6_findPattern 4 (some .int) := ⟨tb_at 1069 (by decide +kernel), by decide, by decide +kernel, by decide +kernel⟩
theorem hX6_findPattern : gNH yX6_findPattern 3 := ⟨by decide +kernel, by decide +kernel, by decide +kernel⟩
theorem iX6_findPattern : Cond.instanceMethod yX6_findPattern ∈ lw_tbl := tb_at 1067 (by decide +kernel)
theorem sX6_findPattern : Cond.selects yX6_findPattern.cls yX6_findPattern yX6_findPattern ∈ lw_tbl := tb_at 1068 (by decide +kernel)
theorem nX6_findPattern : Cond.initialized yX6_findPattern.cls ∈ lw_tbl := tb_at 57 (by decide +kernel)
theorem kX6_findPattern : (vwCl[6]?).map (fun q => q.1) = some yX6_findPattern.cls := rfl
theorem MX6_firstMisfit : gMth yX6_firstMisfit cX6_firstMisfit 3 (some .int) := ⟨tb_at 1049 (by decide +kernel), by decide, by decide +kernel, by decide +kernel⟩
theorem hX6_firstMisfit : gNH yX6_firstMisfit 2 := ⟨by decide +kernel, by decide +kernel, by decide +kernel⟩
theorem iX6_firstMisfit : Cond.instanceMethod yX6_firstMisfit ∈ lw_tbl := tb_at 1047 (by decide +kernel)
theorem sX6_firstMisfit : Cond.selects yX6_firstMisfit.cls yX6_firstMisfit yX6_firstMisfit ∈ lw_tbl := tb_at 1048 (by decide +kernel)
theorem nX6_firstMisfit : Cond.initialized yX6_firstMisfit.cls ∈ lw_tbl := tb_at 57 (by decide +kernel)
theorem kX6_firstMisfit : (vwCl[6]?).map (fun q => q.1) = some yX6_firstMisfit.cls := rfl
theorem MX6_firstWord : gMth yX6_firstWord cX6_firstWord 2 none := ⟨tb_at 1089 (by decide +kernel), by decide, by decide +kernel, by decide +kernel⟩
theorem hX6_firstWord : gNH yX6_firstWord 0 := ⟨by decide +kernel, by decide +kernel, by decide +kernel⟩
theorem iX6_firstWord : Cond.instanceMethod yX6_firstWord ∈ lw_tbl := tb_at 1088 (by decide +kernel)
theorem sX6_firstWord : Cond.selects yX6_firstWord.cls yX6_firstWord yX6_firstWord ∈ lw_tbl := tb_at 45 (by decide +kernel)
theorem nX6_firstWord : Cond.initialized yX6_firstWord.cls ∈ lw_tbl := tb_at 57 (by decide +kernel)
theorem kX6_firstWord : (vwCl[6]?).map (fun q => q.1) = some yX6_firstWord.cls := rfl
theorem MX6_generates : gMth yX6_generates cX6_generates 4 (some .boolean) := ⟨tb_at 1093 (by decide +kernel), by decide, by decide +kernel, by decide +kernel⟩
theorem hX6_generates : gNH yX6_generates 3 := ⟨by decide +kernel, by decide +kernel, by decide +kernel⟩
theorem iX6_generates : Cond.instanceMethod yX6_generates ∈ lw_tbl := tb_at 1092 (by decide +kernel)
theorem sX6_generates : Cond.selects yX6_generates.cls yX6_generates yX6_generates ∈ lw_tbl := tb_at 46 (by decide +kernel)
theorem nX6_generates : Cond.initialized yX6_generates.cls ∈ lw_tbl := tb_at 57 (by decide +kernel)
theorem kX6_generates : (vwCl[6]?).map (fun q => q.1) = some yX6_generates.cls := rfl
theorem MX6_imageLetter : gMth yX6_imageLetter cX6_imageLetter 3 (some .int) := ⟨tb_at 1012 (by decide +kernel), by decide, by decide +kernel, by decide +kernel⟩
theorem hX6_imageLetter : gNH yX6_imageLetter 2 := ⟨by decide +kernel, by decide +kernel, by decide +kernel⟩
theorem iX6_imageLetter : Cond.instanceMethod yX6_imageLetter ∈ lw_tbl := tb_at 1010 (by decide +kernel)
theorem sX6_imageLetter : Cond.selects yX6_imageLetter.cls yX6_imageLetter yX6_imageLetter ∈ lw_tbl := tb_at 1011 (by decide +kernel)
theorem nX6_imageLetter : Cond.initialized yX6_imageLetter.cls ∈ lw_tbl := tb_at 57 (by decide +kernel)
theorem kX6_imageLetter : (vwCl[6]?).map (fun q => q.1) = some yX6_imageLetter.cls := rfl
theorem MX6_in : gMth yX6_in cX6_in 3 (some .boolean) := ⟨tb_at 857 (by decide +kernel), by decide, by decide +kernel, by decide +kernel⟩
theorem hX6_in : gNH yX6_in 3 := ⟨by decide +kernel, by decide +kernel, by decide +kernel⟩
theorem tX6_in : Cond.static yX6_in ∈ lw_tbl := tb_at 856 (by decide +kernel)
theorem nX6_in : Cond.initialized yX6_in.cls ∈ lw_tbl := tb_at 57 (by decide +kernel)
theorem kX6_in : (vwCl[6]?).map (fun q => q.1) = some yX6_in.cls := rfl
theorem MX6_init : gMth yX6_init cX6_init 1 none := ⟨tb_at 717 (by decide +kernel), by decide, by decide +kernel, by decide +kernel⟩
theorem hX6_init : gNH yX6_init 0 := ⟨by decide +kernel, by decide +kernel, by decide +kernel⟩
theorem iX6_init : Cond.instanceMethod yX6_init ∈ lw_tbl := tb_at 716 (by decide +kernel)
theorem nX6_init : Cond.initialized yX6_init.cls ∈ lw_tbl := tb_at 57 (by decide +kernel)
theorem kX6_init : (vwCl[6]?).map (fun q => q.1) = some yX6_init.cls := rfl
theorem MX6_inputIs : gMth yX6_inputIs cX6_inputIs 4 (some .boolean) := ⟨tb_at 962 (by decide +kernel), by decide, by decide +kernel, by decide +kernel⟩
theorem hX6_inputIs : gNH yX6_inputIs 1 := ⟨by decide +kernel, by decide +kernel, by decide +kernel⟩
theorem iX6_inputIs : Cond.instanceMethod yX6_inputIs ∈ lw_tbl := tb_at 961 (by decide +kernel)
theorem sX6_inputIs : Cond.selects yX6_inputIs.cls yX6_inputIs yX6_inputIs ∈ lw_tbl := tb_at 33 (by decide +kernel)
theorem nX6_inputIs : Cond.initialized yX6_inputIs.cls ∈ lw_tbl := tb_at 57 (by decide +kernel)
theorem kX6_inputIs : (vwCl[6]?).map (fun q => q.1) = some yX6_inputIs.cls := rfl
theorem MX6_isInSample : gMth yX6_isInSample cX6_isInSample 2 (some .boolean) := ⟨tb_at 1032 (by decide +kernel), by decide, by decide +kernel, by decide +kernel⟩
theorem hX6_isInSample : gNH yX6_isInSample 1 := ⟨by decide +kernel, by decide +kernel, by decide +kernel⟩
theorem iX6_isInSample : Cond.instanceMethod yX6_isInSample ∈ lw_tbl := tb_at 1031 (by decide +kernel)
theorem sX6_isInSample : Cond.selects yX6_isInSample.cls yX6_isInSample yX6_isInSample ∈ lw_tbl := tb_at 40 (by decide +kernel)
theorem nX6_isInSample : Cond.initialized yX6_isInSample.cls ∈ lw_tbl := tb_at 57 (by decide +kernel)
theorem kX6_isInSample : (vwCl[6]?).map (fun q => q.1) = some yX6_isInSample.cls := rfl
theorem MX6_isMode : gMth yX6_isMode cX6_isMode 1 (some .boolean) := ⟨tb_at 979 (by decide +kernel), by decide, by decide +kernel, by decide +kernel⟩
theorem hX6_isMode : gNH yX6_isMode 1 := ⟨by decide +kernel, by decide +kernel, by decide +kernel⟩
theorem tX6_isMode : Cond.static yX6_isMode ∈ lw_tbl := tb_at 978 (by decide +kernel)
theorem nX6_isMode : Cond.initialized yX6_isMode.cls ∈ lw_tbl := tb_at 57 (by decide +kernel)
theorem kX6_isMode : (vwCl[6]?).map (fun q => q.1) = some yX6_isMode.cls := rfl
theorem MX6_isMoreGeneral : gMth yX6_isMoreGeneral cX6_isMoreGeneral 4 (some .int) := ⟨tb_at 1057 (by decide +kernel), by decide, by decide +kernel, by decide +kernel⟩
theorem hX6_isMoreGeneral : gNH yX6_isMoreGeneral 3 := ⟨by decide +kernel, by decide +kernel, by decide +kernel⟩
theorem iX6_isMoreGeneral : Cond.instanceMethod yX6_isMoreGeneral ∈ lw_tbl := tb_at 1055 (by decide +kernel)
theorem sX6_isMoreGeneral : Cond.selects yX6_isMoreGeneral.cls yX6_isMoreGeneral yX6_isMoreGeneral ∈ lw_tbl := tb_at 1056 (by decide +kernel)
theorem nX6_isMoreGeneral : Cond.initialized yX6_isMoreGeneral.cls ∈ lw_tbl := tb_at 57 (by decide +kernel)
theorem kX6_isMoreGeneral : (vwCl[6]?).map (fun q => q.1) = some yX6_isMoreGeneral.cls := rfl
theorem MX6_isRegister : gMth yX6_isRegister cX6_isRegister 1 (some .boolean) := ⟨tb_at 884 (by decide +kernel), by decide, by decide +kernel, by decide +kernel⟩
theorem hX6_isRegister : gNH yX6_isRegister 1 := ⟨by decide +kernel, by decide +kernel, by decide +kernel⟩
theorem tX6_isRegister : Cond.static yX6_isRegister ∈ lw_tbl := tb_at 883 (by decide +kernel)
theorem nX6_isRegister : Cond.initialized yX6_isRegister.cls ∈ lw_tbl := tb_at 57 (by decide +kernel)
theorem kX6_isRegister : (vwCl[6]?).map (fun q => q.1) = some yX6_isRegister.cls := rfl
theorem MX6_isSlot : gMth yX6_isSlot cX6_isSlot 1 (some .boolean) := ⟨tb_at 1108 (by decide +kernel), by decide, by decide +kernel, by decide +kernel⟩
theorem hX6_isSlot : gNH yX6_isSlot 1 := ⟨by decide +kernel, by decide +kernel, by decide +kernel⟩
theorem tX6_isSlot : Cond.static yX6_isSlot ∈ lw_tbl := tb_at 1107 (by decide +kernel)
theorem nX6_isSlot : Cond.initialized yX6_isSlot.cls ∈ lw_tbl := tb_at 57 (by decide +kernel)
theorem kX6_isSlot : (vwCl[6]?).map (fun q => q.1) = some yX6_isSlot.cls := rfl
theorem MX6_length : gMth yX6_length cX6_length 2 (some .int) := ⟨tb_at 901 (by decide +kernel), by decide, by decide +kernel, by decide +kernel⟩
theorem hX6_length : gNH yX6_length 1 := ⟨by decide +kernel, by decide +kernel, by decide +kernel⟩
theorem iX6_length : Cond.instanceMethod yX6_length ∈ lw_tbl := tb_at 899 (by decide +kernel)
theorem sX6_length : Cond.selects yX6_length.cls yX6_length yX6_length ∈ lw_tbl := tb_at 900 (by decide +kernel)
theorem nX6_length : Cond.initialized yX6_length.cls ∈ lw_tbl := tb_at 57 (by decide +kernel)
theorem kX6_length : (vwCl[6]?).map (fun q => q.1) = some yX6_length.cls := rfl
theorem MX6_letters : gMth yX6_letters cX6_letters 1 (some .int) := ⟨tb_at 861 (by decide +kernel), by decide, by decide +kernel, by decide +kernel⟩
theorem hX6_letters : gNH yX6_letters 0 := ⟨by decide +kernel, by decide +kernel, by decide +kernel⟩
theorem iX6_letters : Cond.instanceMethod yX6_letters ∈ lw_tbl := tb_at 859 (by decide +kernel)
theorem sX6_letters : Cond.selects yX6_letters.cls yX6_letters yX6_letters ∈ lw_tbl := tb_at 860 (by decide +kernel)
theorem nX6_letters : Cond.initialized yX6_letters.cls ∈ lw_tbl := tb_at 57 (by decide +kernel)
theorem kX6_letters : (vwCl[6]?).map (fun q => q.1) = some yX6_letters.cls := rfl
theorem MX6_lettersIn : gMth yX6_lettersIn cX6_lettersIn 5 (some .int) := ⟨tb_at 937 (by decide +kernel), by decide, by decide +kernel, by decide +kernel⟩
theorem hX6_lettersIn : gNH yX6_lettersIn 3 := ⟨by decide +kernel, by decide +kernel, by decide +kernel⟩
theorem tX6_lettersIn : Cond.static yX6_lettersIn ∈ lw_tbl := tb_at 936 (by decide +kernel)
theorem nX6_lettersIn : Cond.initialized yX6_lettersIn.cls ∈ lw_tbl := tb_at 57 (by decide +kernel)
theorem kX6_lettersIn : (vwCl[6]?).map (fun q => q.1) = some yX6_lettersIn.cls := rfl
theorem MX6_loadPattern : gMth yX6_loadPattern cX6_loadPattern 4 (some .int) := ⟨tb_at 1131 (by decide +kernel), by decide, by decide +kernel, by decide +kernel⟩
theorem hX6_loadPattern : gNH yX6_loadPattern 2 := ⟨by decide +kernel, by decide +kernel, by decide +kernel⟩
theorem iX6_loadPattern : Cond.instanceMethod yX6_loadPattern ∈ lw_tbl := tb_at 1129 (by decide +kernel)
theorem sX6_loadPattern : Cond.selects yX6_loadPattern.cls yX6_loadPattern yX6_loadPattern ∈ lw_tbl := tb_at 1130 (by decide +kernel)
theorem nX6_loadPattern : Cond.initialized yX6_loadPattern.cls ∈ lw_tbl := tb_at 57 (by decide +kernel)
theorem kX6_loadPattern : (vwCl[6]?).map (fun q => q.1) = some yX6_loadPattern.cls := rfl
theorem MX6_match : gMth yX6_match cX6_match 10 (some .int) := ⟨tb_at 987 (by decide +kernel), by decide, by decide +kernel, by decide +kernel⟩
theorem hX6_match : gNH yX6_match 8 := ⟨by decide +kernel, by decide +kernel, by decide +kernel⟩
theorem iX6_match : Cond.instanceMethod yX6_match ∈ lw_tbl := tb_at 986 (by decide +kernel)
theorem sX6_match : Cond.selects yX6_match.cls yX6_match yX6_match ∈ lw_tbl := tb_at 36 (by decide +kernel)
theorem nX6_match : Cond.initialized yX6_match.cls ∈ lw_tbl := tb_at 57 (by decide +kernel)
theorem kX6_match : (vwCl[6]?).map (fun q => q.1) = some yX6_match.cls := rfl
theorem MX6_matchCount : gMth yX6_matchCount cX6_matchCount 4 (some .int) := ⟨tb_at 999 (by decide +kernel), by decide, by decide +kernel, by decide +kernel⟩
theorem hX6_matchCount : gNH yX6_matchCount 2 := ⟨by decide +kernel, by decide +kernel, by decide +kernel⟩
theorem iX6_matchCount : Cond.instanceMethod yX6_matchCount ∈ lw_tbl := tb_at 997 (by decide +kernel)
theorem sX6_matchCount : Cond.selects yX6_matchCount.cls yX6_matchCount yX6_matchCount ∈ lw_tbl := tb_at 998 (by decide +kernel)
theorem nX6_matchCount : Cond.initialized yX6_matchCount.cls ∈ lw_tbl := tb_at 57 (by decide +kernel)
theorem kX6_matchCount : (vwCl[6]?).map (fun q => q.1) = some yX6_matchCount.cls := rfl
theorem MX6_match_ : gMth yX6_match_ cX6_match_ 7 (some .int) := ⟨tb_at 1004 (by decide +kernel), by decide, by decide +kernel, by decide +kernel⟩
theorem hX6_match_ : gNH yX6_match_ 2 := ⟨by decide +kernel, by decide +kernel, by decide +kernel⟩
theorem iX6_match_ : Cond.instanceMethod yX6_match_ ∈ lw_tbl := tb_at 1002 (by decide +kernel)
theorem sX6_match_ : Cond.selects yX6_match_.cls yX6_match_ yX6_match_ ∈ lw_tbl := tb_at 1003 (by decide +kernel)
theorem nX6_match_ : Cond.initialized yX6_match_.cls ∈ lw_tbl := tb_at 57 (by decide +kernel)
theorem kX6_match_ : (vwCl[6]?).map (fun q => q.1) = some yX6_match_.cls := rfl
theorem MX6_matches : gMth yX6_matches cX6_matches 4 (some .int) := ⟨tb_at 972 (by decide +kernel), by decide, by decide +kernel, by decide +kernel⟩
theorem hX6_matches : gNH yX6_matches 2 := ⟨by decide +kernel, by decide +kernel, by decide +kernel⟩
theorem iX6_matches : Cond.instanceMethod yX6_matches ∈ lw_tbl := tb_at 970 (by decide +kernel)
theorem sX6_matches : Cond.selects yX6_matches.cls yX6_matches yX6_matches ∈ lw_tbl := tb_at 971 (by decide +kernel)
theorem nX6_matches : Cond.initialized yX6_matches.cls ∈ lw_tbl := tb_at 57 (by decide +kernel)
theorem kX6_matches : (vwCl[6]?).map (fun q => q.1) = some yX6_matches.cls := rfl
theorem MX6_matchesOf : gMth yX6_matchesOf cX6_matchesOf 4 (some .int) := ⟨tb_at 983 (by decide +kernel), by decide, by decide +kernel, by decide +kernel⟩
theorem hX6_matchesOf : gNH yX6_matchesOf 3 := ⟨by decide +kernel, by decide +kernel, by decide +kernel⟩
theorem iX6_matchesOf : Cond.instanceMethod yX6_matchesOf ∈ lw_tbl := tb_at 982 (by decide +kernel)
theorem sX6_matchesOf : Cond.selects yX6_matchesOf.cls yX6_matchesOf yX6_matchesOf ∈ lw_tbl := tb_at 35 (by decide +kernel)
theorem nX6_matchesOf : Cond.initialized yX6_matchesOf.cls ∈ lw_tbl := tb_at 57 (by decide +kernel)
theorem kX6_matchesOf : (vwCl[6]?).map (fun q => q.1) = some yX6_matchesOf.cls := rfl
theorem MX6_merge : gMth yX6_merge cX6_merge 4 (some .int) := ⟨tb_at 949 (by decide +kernel), by decide, by decide +kernel, by decide +kernel⟩
theorem hX6_merge : gNH yX6_merge 3 := ⟨by decide +kernel, by decide +kernel, by decide +kernel⟩
theorem iX6_merge : Cond.instanceMethod yX6_merge ∈ lw_tbl := tb_at 947 (by decide +kernel)
theorem sX6_merge : Cond.selects yX6_merge.cls yX6_merge yX6_merge ∈ lw_tbl := tb_at 948 (by decide +kernel)
theorem nX6_merge : Cond.initialized yX6_merge.cls ∈ lw_tbl := tb_at 57 (by decide +kernel)
theorem kX6_merge : (vwCl[6]?).map (fun q => q.1) = some yX6_merge.cls := rfl
theorem MX6_misfit : gMth yX6_misfit cX6_misfit 6 (some .int) := ⟨tb_at 1053 (by decide +kernel), by decide, by decide +kernel, by decide +kernel⟩
theorem hX6_misfit : gNH yX6_misfit 4 := ⟨by decide +kernel, by decide +kernel, by decide +kernel⟩
theorem iX6_misfit : Cond.instanceMethod yX6_misfit ∈ lw_tbl := tb_at 1052 (by decide +kernel)
theorem sX6_misfit : Cond.selects yX6_misfit.cls yX6_misfit yX6_misfit ∈ lw_tbl := tb_at 41 (by decide +kernel)
theorem nX6_misfit : Cond.initialized yX6_misfit.cls ∈ lw_tbl := tb_at 57 (by decide +kernel)
theorem kX6_misfit : (vwCl[6]?).map (fun q => q.1) = some yX6_misfit.cls := rfl
theorem MX6_narrowed : gMth yX6_narrowed cX6_narrowed 3 (some .long) := ⟨tb_at 1119 (by decide +kernel), by decide, by decide +kernel, by decide +kernel⟩
theorem hX6_narrowed : gNH yX6_narrowed 2 := ⟨by decide +kernel, by decide +kernel, by decide +kernel⟩
theorem tX6_narrowed : Cond.static yX6_narrowed ∈ lw_tbl := tb_at 1118 (by decide +kernel)
theorem nX6_narrowed : Cond.initialized yX6_narrowed.cls ∈ lw_tbl := tb_at 57 (by decide +kernel)
theorem kX6_narrowed : (vwCl[6]?).map (fun q => q.1) = some yX6_narrowed.cls := rfl
theorem MX6_nextWord : gMth yX6_nextWord cX6_nextWord 3 (some .boolean) := ⟨tb_at 1097 (by decide +kernel), by decide, by decide +kernel, by decide +kernel⟩
theorem hX6_nextWord : gNH yX6_nextWord 1 := ⟨by decide +kernel, by decide +kernel, by decide +kernel⟩
theorem iX6_nextWord : Cond.instanceMethod yX6_nextWord ∈ lw_tbl := tb_at 1096 (by decide +kernel)
theorem sX6_nextWord : Cond.selects yX6_nextWord.cls yX6_nextWord yX6_nextWord ∈ lw_tbl := tb_at 47 (by decide +kernel)
theorem nX6_nextWord : Cond.initialized yX6_nextWord.cls ∈ lw_tbl := tb_at 57 (by decide +kernel)
theorem kX6_nextWord : (vwCl[6]?).map (fun q => q.1) = some yX6_nextWord.cls := rfl
theorem MX6_normalize : gMth yX6_normalize cX6_normalize 5 none := ⟨tb_at 893 (by decide +kernel), by decide, by decide +kernel, by decide +kernel⟩
theorem hX6_normalize : gNH yX6_normalize 1 := ⟨by decide +kernel, by decide +kernel, by decide +kernel⟩
theorem iX6_normalize : Cond.instanceMethod yX6_normalize ∈ lw_tbl := tb_at 892 (by decide +kernel)
theorem sX6_normalize : Cond.selects yX6_normalize.cls yX6_normalize yX6_normalize ∈ lw_tbl := tb_at 29 (by decide +kernel)
theorem nX6_normalize : Cond.initialized yX6_normalize.cls ∈ lw_tbl := tb_at 57 (by decide +kernel)
theorem kX6_normalize : (vwCl[6]?).map (fun q => q.1) = some yX6_normalize.cls := rfl
theorem MX6_occurrences : gMth yX6_occurrences cX6_occurrences 4 (some .int) := ⟨tb_at 923 (by decide +kernel), by decide, by decide +kernel, by decide +kernel⟩
theorem hX6_occurrences : gNH yX6_occurrences 2 := ⟨by decide +kernel, by decide +kernel, by decide +kernel⟩
theorem iX6_occurrences : Cond.instanceMethod yX6_occurrences ∈ lw_tbl := tb_at 921 (by decide +kernel)
theorem sX6_occurrences : Cond.selects yX6_occurrences.cls yX6_occurrences yX6_occurrences ∈ lw_tbl := tb_at 922 (by decide +kernel)
theorem nX6_occurrences : Cond.initialized yX6_occurrences.cls ∈ lw_tbl := tb_at 57 (by decide +kernel)
theorem kX6_occurrences : (vwCl[6]?).map (fun q => q.1) = some yX6_occurrences.cls := rfl
theorem MX6_occurs : gMth yX6_occurs cX6_occurs 3 (some .int) := ⟨tb_at 927 (by decide +kernel), by decide, by decide +kernel, by decide +kernel⟩
theorem hX6_occurs : gNH yX6_occurs 2 := ⟨by decide +kernel, by decide +kernel, by decide +kernel⟩
theorem iX6_occurs : Cond.instanceMethod yX6_occurs ∈ lw_tbl := tb_at 926 (by decide +kernel)
theorem sX6_occurs : Cond.selects yX6_occurs.cls yX6_occurs yX6_occurs ∈ lw_tbl := tb_at 31 (by decide +kernel)
theorem nX6_occurs : Cond.initialized yX6_occurs.cls ∈ lw_tbl := tb_at 57 (by decide +kernel)
theorem kX6_occurs : (vwCl[6]?).map (fun q => q.1) = some yX6_occurs.cls := rfl
theorem MX6_produces : gMth yX6_produces cX6_produces 6 (some .boolean) := ⟨tb_at 995 (by decide +kernel), by decide, by decide +kernel, by decide +kernel⟩
theorem hX6_produces : gNH yX6_produces 0 := ⟨by decide +kernel, by decide +kernel, by decide +kernel⟩
theorem iX6_produces : Cond.instanceMethod yX6_produces ∈ lw_tbl := tb_at 994 (by decide +kernel)
theorem sX6_produces : Cond.selects yX6_produces.cls yX6_produces yX6_produces ∈ lw_tbl := tb_at 38 (by decide +kernel)
theorem nX6_produces : Cond.initialized yX6_produces.cls ∈ lw_tbl := tb_at 57 (by decide +kernel)
theorem kX6_produces : (vwCl[6]?).map (fun q => q.1) = some yX6_produces.cls := rfl
theorem MX6_putElement : gMth yX6_putElement cX6_putElement 5 (some .int) := ⟨tb_at 1116 (by decide +kernel), by decide, by decide +kernel, by decide +kernel⟩
theorem hX6_putElement : gNH yX6_putElement 3 := ⟨by decide +kernel, by decide +kernel, by decide +kernel⟩
theorem iX6_putElement : Cond.instanceMethod yX6_putElement ∈ lw_tbl := tb_at 1114 (by decide +kernel)
theorem sX6_putElement : Cond.selects yX6_putElement.cls yX6_putElement yX6_putElement ∈ lw_tbl := tb_at 1115 (by decide +kernel)
theorem nX6_putElement : Cond.initialized yX6_putElement.cls ∈ lw_tbl := tb_at 57 (by decide +kernel)
theorem kX6_putElement : (vwCl[6]?).map (fun q => q.1) = some yX6_putElement.cls := rfl
theorem MX6_release : gMth yX6_release cX6_release 3 (some .int) := ⟨tb_at 1112 (by decide +kernel), by decide, by decide +kernel, by decide +kernel⟩
theorem hX6_release : gNH yX6_release 1 := ⟨by decide +kernel, by decide +kernel, by decide +kernel⟩
theorem iX6_release : Cond.instanceMethod yX6_release ∈ lw_tbl := tb_at 1110 (by decide +kernel)
theorem sX6_release : Cond.selects yX6_release.cls yX6_release yX6_release ∈ lw_tbl := tb_at 1111 (by decide +kernel)
theorem nX6_release : Cond.initialized yX6_release.cls ∈ lw_tbl := tb_at 57 (by decide +kernel)
theorem kX6_release : (vwCl[6]?).map (fun q => q.1) = some yX6_release.cls := rfl
theorem MX6_removeWord : gMth yX6_removeWord cX6_removeWord 3 (some .int) := ⟨tb_at 1028 (by decide +kernel), by decide, by decide +kernel, by decide +kernel⟩
theorem hX6_removeWord : gNH yX6_removeWord 1 := ⟨by decide +kernel, by decide +kernel, by decide +kernel⟩
theorem iX6_removeWord : Cond.instanceMethod yX6_removeWord ∈ lw_tbl := tb_at 1026 (by decide +kernel)
theorem sX6_removeWord : Cond.selects yX6_removeWord.cls yX6_removeWord yX6_removeWord ∈ lw_tbl := tb_at 1027 (by decide +kernel)
theorem nX6_removeWord : Cond.initialized yX6_removeWord.cls ∈ lw_tbl := tb_at 57 (by decide +kernel)
theorem kX6_removeWord : (vwCl[6]?).map (fun q => q.1) = some yX6_removeWord.cls := rfl
theorem MX6_replace : gMth yX6_replace cX6_replace 4 (some .int) := ⟨tb_at 941 (by decide +kernel), by decide, by decide +kernel, by decide +kernel⟩
theorem hX6_replace : gNH yX6_replace 3 := ⟨by decide +kernel, by decide +kernel, by decide +kernel⟩
theorem iX6_replace : Cond.instanceMethod yX6_replace ∈ lw_tbl := tb_at 939 (by decide +kernel)
theorem sX6_replace : Cond.selects yX6_replace.cls yX6_replace yX6_replace ∈ lw_tbl := tb_at 940 (by decide +kernel)
theorem nX6_replace : Cond.initialized yX6_replace.cls ∈ lw_tbl := tb_at 57 (by decide +kernel)
theorem kX6_replace : (vwCl[6]?).map (fun q => q.1) = some yX6_replace.cls := rfl
theorem MX6_reset : gMth yX6_reset cX6_reset 3 (some .int) := ⟨tb_at 854 (by decide +kernel), by decide, by decide +kernel, by decide +kernel⟩
theorem hX6_reset : gNH yX6_reset 1 := ⟨by decide +kernel, by decide +kernel, by decide +kernel⟩
theorem iX6_reset : Cond.instanceMethod yX6_reset ∈ lw_tbl := tb_at 852 (by decide +kernel)
theorem sX6_reset : Cond.selects yX6_reset.cls yX6_reset yX6_reset ∈ lw_tbl := tb_at 853 (by decide +kernel)
theorem nX6_reset : Cond.initialized yX6_reset.cls ∈ lw_tbl := tb_at 57 (by decide +kernel)
theorem kX6_reset : (vwCl[6]?).map (fun q => q.1) = some yX6_reset.cls := rfl
theorem MX6_restore : gMth yX6_restore cX6_restore 1 (some .int) := ⟨tb_at 1146 (by decide +kernel), by decide, by decide +kernel, by decide +kernel⟩
theorem hX6_restore : gNH yX6_restore 0 := ⟨by decide +kernel, by decide +kernel, by decide +kernel⟩
theorem iX6_restore : Cond.instanceMethod yX6_restore ∈ lw_tbl := tb_at 1144 (by decide +kernel)
theorem sX6_restore : Cond.selects yX6_restore.cls yX6_restore yX6_restore ∈ lw_tbl := tb_at 1145 (by decide +kernel)
theorem nX6_restore : Cond.initialized yX6_restore.cls ∈ lw_tbl := tb_at 57 (by decide +kernel)
theorem kX6_restore : (vwCl[6]?).map (fun q => q.1) = some yX6_restore.cls := rfl
theorem MX6_sampleCode : gMth yX6_sampleCode cX6_sampleCode 2 (some .long) := ⟨tb_at 1040 (by decide +kernel), by decide, by decide +kernel, by decide +kernel⟩
theorem hX6_sampleCode : gNH yX6_sampleCode 1 := ⟨by decide +kernel, by decide +kernel, by decide +kernel⟩
theorem iX6_sampleCode : Cond.instanceMethod yX6_sampleCode ∈ lw_tbl := tb_at 1038 (by decide +kernel)
theorem sX6_sampleCode : Cond.selects yX6_sampleCode.cls yX6_sampleCode yX6_sampleCode ∈ lw_tbl := tb_at 1039 (by decide +kernel)
theorem nX6_sampleCode : Cond.initialized yX6_sampleCode.cls ∈ lw_tbl := tb_at 57 (by decide +kernel)
theorem kX6_sampleCode : (vwCl[6]?).map (fun q => q.1) = some yX6_sampleCode.cls := rfl
theorem MX6_sampleSize : gMth yX6_sampleSize cX6_sampleSize 1 (some .int) := ⟨tb_at 1036 (by decide +kernel), by decide, by decide +kernel, by decide +kernel⟩
theorem hX6_sampleSize : gNH yX6_sampleSize 0 := ⟨by decide +kernel, by decide +kernel, by decide +kernel⟩
theorem iX6_sampleSize : Cond.instanceMethod yX6_sampleSize ∈ lw_tbl := tb_at 1034 (by decide +kernel)
theorem sX6_sampleSize : Cond.selects yX6_sampleSize.cls yX6_sampleSize yX6_sampleSize ∈ lw_tbl := tb_at 1035 (by decide +kernel)
theorem nX6_sampleSize : Cond.initialized yX6_sampleSize.cls ∈ lw_tbl := tb_at 57 (by decide +kernel)
theorem kX6_sampleSize : (vwCl[6]?).map (fun q => q.1) = some yX6_sampleSize.cls := rfl
theorem MX6_search : gMth yX6_search cX6_search 7 none := ⟨tb_at 1073 (by decide +kernel), by decide, by decide +kernel, by decide +kernel⟩
theorem hX6_search : gNH yX6_search 5 := ⟨by decide +kernel, by decide +kernel, by decide +kernel⟩
theorem iX6_search : Cond.instanceMethod yX6_search ∈ lw_tbl := tb_at 1072 (by decide +kernel)
theorem sX6_search : Cond.selects yX6_search.cls yX6_search yX6_search ∈ lw_tbl := tb_at 43 (by decide +kernel)
theorem nX6_search : Cond.initialized yX6_search.cls ∈ lw_tbl := tb_at 57 (by decide +kernel)
theorem kX6_search : (vwCl[6]?).map (fun q => q.1) = some yX6_search.cls := rfl
theorem MX6_setImage : gMth yX6_setImage cX6_setImage 3 (some .int) := ⟨tb_at 1008 (by decide +kernel), by decide, by decide +kernel, by decide +kernel⟩
theorem hX6_setImage : gNH yX6_setImage 1 := ⟨by decide +kernel, by decide +kernel, by decide +kernel⟩
theorem iX6_setImage : Cond.instanceMethod yX6_setImage ∈ lw_tbl := tb_at 1006 (by decide +kernel)
theorem sX6_setImage : Cond.selects yX6_setImage.cls yX6_setImage yX6_setImage ∈ lw_tbl := tb_at 1007 (by decide +kernel)
theorem nX6_setImage : Cond.initialized yX6_setImage.cls ∈ lw_tbl := tb_at 57 (by decide +kernel)
theorem kX6_setImage : (vwCl[6]?).map (fun q => q.1) = some yX6_setImage.cls := rfl
theorem MX6_setPattern : gMth yX6_setPattern cX6_setPattern 3 (some .int) := ⟨tb_at 873 (by decide +kernel), by decide, by decide +kernel, by decide +kernel⟩
theorem hX6_setPattern : gNH yX6_setPattern 1 := ⟨by decide +kernel, by decide +kernel, by decide +kernel⟩
theorem iX6_setPattern : Cond.instanceMethod yX6_setPattern ∈ lw_tbl := tb_at 871 (by decide +kernel)
theorem sX6_setPattern : Cond.selects yX6_setPattern.cls yX6_setPattern yX6_setPattern ∈ lw_tbl := tb_at 872 (by decide +kernel)
theorem nX6_setPattern : Cond.initialized yX6_setPattern.cls ∈ lw_tbl := tb_at 57 (by decide +kernel)
theorem kX6_setPattern : (vwCl[6]?).map (fun q => q.1) = some yX6_setPattern.cls := rfl
theorem MX6_snapshot : gMth yX6_snapshot cX6_snapshot 1 (some .int) := ⟨tb_at 1135 (by decide +kernel), by decide, by decide +kernel, by decide +kernel⟩
theorem hX6_snapshot : gNH yX6_snapshot 0 := ⟨by decide +kernel, by decide +kernel, by decide +kernel⟩
theorem iX6_snapshot : Cond.instanceMethod yX6_snapshot ∈ lw_tbl := tb_at 1133 (by decide +kernel)
theorem sX6_snapshot : Cond.selects yX6_snapshot.cls yX6_snapshot yX6_snapshot ∈ lw_tbl := tb_at 1134 (by decide +kernel)
theorem nX6_snapshot : Cond.initialized yX6_snapshot.cls ∈ lw_tbl := tb_at 57 (by decide +kernel)
theorem kX6_snapshot : (vwCl[6]?).map (fun q => q.1) = some yX6_snapshot.cls := rfl
theorem MX6_split : gMth yX6_split cX6_split 6 (some .int) := ⟨tb_at 953 (by decide +kernel), by decide, by decide +kernel, by decide +kernel⟩
theorem hX6_split : gNH yX6_split 2 := ⟨by decide +kernel, by decide +kernel, by decide +kernel⟩
theorem iX6_split : Cond.instanceMethod yX6_split ∈ lw_tbl := tb_at 951 (by decide +kernel)
theorem sX6_split : Cond.selects yX6_split.cls yX6_split yX6_split ∈ lw_tbl := tb_at 952 (by decide +kernel)
theorem nX6_split : Cond.initialized yX6_split.cls ∈ lw_tbl := tb_at 57 (by decide +kernel)
theorem kX6_split : (vwCl[6]?).map (fun q => q.1) = some yX6_split.cls := rfl
theorem MX6_store : gMth yX6_store cX6_store 2 (some .int) := ⟨tb_at 888 (by decide +kernel), by decide, by decide +kernel, by decide +kernel⟩
theorem hX6_store : gNH yX6_store 1 := ⟨by decide +kernel, by decide +kernel, by decide +kernel⟩
theorem iX6_store : Cond.instanceMethod yX6_store ∈ lw_tbl := tb_at 887 (by decide +kernel)
theorem sX6_store : Cond.selects yX6_store.cls yX6_store yX6_store ∈ lw_tbl := tb_at 28 (by decide +kernel)
theorem nX6_store : Cond.initialized yX6_store.cls ∈ lw_tbl := tb_at 57 (by decide +kernel)
theorem kX6_store : (vwCl[6]?).map (fun q => q.1) = some yX6_store.cls := rfl
theorem MX6_storeBest : gMth yX6_storeBest cX6_storeBest 3 none := ⟨tb_at 1077 (by decide +kernel), by decide, by decide +kernel, by decide +kernel⟩
theorem hX6_storeBest : gNH yX6_storeBest 2 := ⟨by decide +kernel, by decide +kernel, by decide +kernel⟩
theorem iX6_storeBest : Cond.instanceMethod yX6_storeBest ∈ lw_tbl := tb_at 1076 (by decide +kernel)
theorem sX6_storeBest : Cond.selects yX6_storeBest.cls yX6_storeBest yX6_storeBest ∈ lw_tbl := tb_at 44 (by decide +kernel)
theorem nX6_storeBest : Cond.initialized yX6_storeBest.cls ∈ lw_tbl := tb_at 57 (by decide +kernel)
theorem kX6_storeBest : (vwCl[6]?).map (fun q => q.1) = some yX6_storeBest.cls := rfl
theorem MX6_symbol : gMth yX6_symbol cX6_symbol 3 (some .int) := ⟨tb_at 905 (by decide +kernel), by decide, by decide +kernel, by decide +kernel⟩
theorem hX6_symbol : gNH yX6_symbol 2 := ⟨by decide +kernel, by decide +kernel, by decide +kernel⟩
theorem iX6_symbol : Cond.instanceMethod yX6_symbol ∈ lw_tbl := tb_at 903 (by decide +kernel)
theorem sX6_symbol : Cond.selects yX6_symbol.cls yX6_symbol yX6_symbol ∈ lw_tbl := tb_at 904 (by decide +kernel)
theorem nX6_symbol : Cond.initialized yX6_symbol.cls ∈ lw_tbl := tb_at 57 (by decide +kernel)
theorem kX6_symbol : (vwCl[6]?).map (fun q => q.1) = some yX6_symbol.cls := rfl
theorem MX6_takeInput : gMth yX6_takeInput cX6_takeInput 4 (some .boolean) := ⟨tb_at 877 (by decide +kernel), by decide, by decide +kernel, by decide +kernel⟩
theorem hX6_takeInput : gNH yX6_takeInput 1 := ⟨by decide +kernel, by decide +kernel, by decide +kernel⟩
theorem iX6_takeInput : Cond.instanceMethod yX6_takeInput ∈ lw_tbl := tb_at 876 (by decide +kernel)
theorem sX6_takeInput : Cond.selects yX6_takeInput.cls yX6_takeInput yX6_takeInput ∈ lw_tbl := tb_at 26 (by decide +kernel)
theorem nX6_takeInput : Cond.initialized yX6_takeInput.cls ∈ lw_tbl := tb_at 57 (by decide +kernel)
theorem kX6_takeInput : (vwCl[6]?).map (fun q => q.1) = some yX6_takeInput.cls := rfl
theorem MX6_takeWord : gMth yX6_takeWord cX6_takeWord 4 (some .int) := ⟨tb_at 976 (by decide +kernel), by decide, by decide +kernel, by decide +kernel⟩
theorem hX6_takeWord : gNH yX6_takeWord 2 := ⟨by decide +kernel, by decide +kernel, by decide +kernel⟩
theorem iX6_takeWord : Cond.instanceMethod yX6_takeWord ∈ lw_tbl := tb_at 975 (by decide +kernel)
theorem sX6_takeWord : Cond.selects yX6_takeWord.cls yX6_takeWord yX6_takeWord ∈ lw_tbl := tb_at 34 (by decide +kernel)
theorem nX6_takeWord : Cond.initialized yX6_takeWord.cls ∈ lw_tbl := tb_at 57 (by decide +kernel)
theorem kX6_takeWord : (vwCl[6]?).map (fun q => q.1) = some yX6_takeWord.cls := rfl
theorem MX6_transform : gMth yX6_transform cX6_transform 7 (some .int) := ⟨tb_at 957 (by decide +kernel), by decide, by decide +kernel, by decide +kernel⟩
theorem hX6_transform : gNH yX6_transform 1 := ⟨by decide +kernel, by decide +kernel, by decide +kernel⟩
theorem iX6_transform : Cond.instanceMethod yX6_transform ∈ lw_tbl := tb_at 955 (by decide +kernel)
theorem sX6_transform : Cond.selects yX6_transform.cls yX6_transform yX6_transform ∈ lw_tbl := tb_at 956 (by decide +kernel)
theorem nX6_transform : Cond.initialized yX6_transform.cls ∈ lw_tbl := tb_at 57 (by decide +kernel)
theorem kX6_transform : (vwCl[6]?).map (fun q => q.1) = some yX6_transform.cls := rfl
theorem MX6_variableCount : gMth yX6_variableCount cX6_variableCount 2 (some .int) := ⟨tb_at 909 (by decide +kernel), by decide, by decide +kernel, by decide +kernel⟩
theorem hX6_variableCount : gNH yX6_variableCount 1 := ⟨by decide +kernel, by decide +kernel, by decide +kernel⟩
theorem iX6_variableCount : Cond.instanceMethod yX6_variableCount ∈ lw_tbl := tb_at 907 (by decide +kernel)
theorem sX6_variableCount : Cond.selects yX6_variableCount.cls yX6_variableCount yX6_variableCount ∈ lw_tbl := tb_at 908 (by decide +kernel)
theorem nX6_variableCount : Cond.initialized yX6_variableCount.cls ∈ lw_tbl := tb_at 57 (by decide +kernel)
theorem kX6_variableCount : (vwCl[6]?).map (fun q => q.1) = some yX6_variableCount.cls := rfl
theorem MX6_variables : gMth yX6_variables cX6_variables 2 (some .int) := ⟨tb_at 913 (by decide +kernel), by decide, by decide +kernel, by decide +kernel⟩
theorem hX6_variables : gNH yX6_variables 1 := ⟨by decide +kernel, by decide +kernel, by decide +kernel⟩
theorem iX6_variables : Cond.instanceMethod yX6_variables ∈ lw_tbl := tb_at 912 (by decide +kernel)
theorem sX6_variables : Cond.selects yX6_variables.cls yX6_variables yX6_variables ∈ lw_tbl := tb_at 30 (by decide +kernel)
theorem nX6_variables : Cond.initialized yX6_variables.cls ∈ lw_tbl := tb_at 57 (by decide +kernel)
theorem kX6_variables : (vwCl[6]?).map (fun q => q.1) = some yX6_variables.cls := rfl
theorem MX6_variablesIn : gMth yX6_variablesIn cX6_variablesIn 5 (some .int) := ⟨tb_at 916 (by decide +kernel), by decide, by decide +kernel, by decide +kernel⟩
theorem hX6_variablesIn : gNH yX6_variablesIn 3 := ⟨by decide +kernel, by decide +kernel, by decide +kernel⟩
theorem tX6_variablesIn : Cond.static yX6_variablesIn ∈ lw_tbl := tb_at 915 (by decide +kernel)
theorem nX6_variablesIn : Cond.initialized yX6_variablesIn.cls ∈ lw_tbl := tb_at 57 (by decide +kernel)
theorem kX6_variablesIn : (vwCl[6]?).map (fun q => q.1) = some yX6_variablesIn.cls := rfl
theorem mL_9 : gMI RL 9 yX5_init 0 := ⟨tb_at 66 (by decide +kernel), iX5_init, nX5_init, rfl, by decide +kernel, hX5_init⟩
theorem mX5_3 : Cond.methodLink RX5 3 objectInit ∈ lw_tbl := tb_at 69 (by decide +kernel)
theorem mX5_11 : gMI RX5 11 yX0_init 0 := ⟨tb_at 74 (by decide +kernel), iX0_init, nX0_init, rfl, by decide +kernel, hX0_init⟩
theorem mX0_3 : Cond.methodLink RX0 3 objectInit ∈ lw_tbl := tb_at 77 (by decide +kernel)
theorem mX0_23 : gMS RX0 23 yX0_makeRows 1 := ⟨tb_at 80 (by decide +kernel), tX0_makeRows, nX0_makeRows, hX0_makeRows⟩
theorem mX0_31 : gMI RX0 31 yX2_init 1 := ⟨tb_at 84 (by decide +kernel), iX2_init, nX2_init, rfl, by decide +kernel, hX2_init⟩
theorem mX2_3 : Cond.methodLink RX2 3 objectInit ∈ lw_tbl := tb_at 87 (by decide +kernel)
theorem mX2_15 : Cond.methodLink RX2 15 Lib.Math.max.name ∈ lw_tbl := tb_at 88 (by decide +kernel)
theorem mX0_27 : gMV RX0 27 yX0_begin 1 := ⟨tb_at 103 (by decide +kernel), iX0_begin, sX0_begin, nX0_begin, hX0_begin⟩
theorem mX0_37 : gMV RX0 37 yX2_fillWith 2 := ⟨tb_at 107 (by decide +kernel), iX2_fillWith, sX2_fillWith, nX2_fillWith, hX2_fillWith⟩
theorem mX2_39 : gMV RX2 39 yX2_clear 0 := ⟨tb_at 111 (by decide +kernel), iX2_clear, sX2_clear, nX2_clear, hX2_clear⟩
theorem mX2_33 : gMV RX2 33 yX2_add 1 := ⟨tb_at 115 (by decide +kernel), iX2_add, sX2_add, nX2_add, hX2_add⟩
theorem mX5_27 : gMI RX5 27 yX2_init 1 := ⟨tb_at 144 (by decide +kernel), iX2_init, nX2_init, rfl, by decide +kernel, hX2_init⟩
theorem mX5_42 : gMIN RX5 42 yX1_init 0 := ⟨by decide +kernel, iX1_init, nX1_init, rfl, by decide +kernel, hX1_init⟩
theorem mX1_3 : Cond.methodLink RX1 3 objectInit ∈ lw_tbl := tb_at 152 (by decide +kernel)
theorem mX5_49 : gMI RX5 49 yX3_init 2 := ⟨tb_at 174 (by decide +kernel), iX3_init, nX3_init, rfl, by decide +kernel, hX3_init⟩
theorem mX3_3 : Cond.methodLink RX3 3 objectInit ∈ lw_tbl := tb_at 177 (by decide +kernel)
theorem mX3_11 : gMI RX3 11 yX2_init 1 := ⟨tb_at 179 (by decide +kernel), iX2_init, nX2_init, rfl, by decide +kernel, hX2_init⟩
theorem mX5_62 : gMIN RX5 62 yX4_init 0 := ⟨by decide +kernel, iX4_init, nX4_init, rfl, by decide +kernel, hX4_init⟩
theorem mX4_3 : Cond.methodLink RX4 3 objectInit ∈ lw_tbl := tb_at 204 (by decide +kernel)
theorem mX4_17 : gMI RX4 17 yX2_init 1 := ⟨tb_at 206 (by decide +kernel), iX2_init, nX2_init, rfl, by decide +kernel, hX2_init⟩
theorem mL_13 : gMV RL 13 yX5_reset 1 := ⟨tb_at 244 (by decide +kernel), iX5_reset, sX5_reset, nX5_reset, hX5_reset⟩
theorem mX5_67 : gMV RX5 67 yX0_begin 1 := ⟨tb_at 248 (by decide +kernel), iX0_begin, sX0_begin, nX0_begin, hX0_begin⟩
theorem mL_18 : gMV RL 18 yX5_letters 0 := ⟨tb_at 249 (by decide +kernel), iX5_letters, sX5_letters, nX5_letters, hX5_letters⟩
theorem mL_23 : gMV RL 23 yX5_append 2 := ⟨tb_at 253 (by decide +kernel), iX5_append, sX5_append, nX5_append, hX5_append⟩
theorem mX5_73 : gMV RX5 73 yX2_add 1 := ⟨tb_at 257 (by decide +kernel), iX2_add, sX2_add, nX2_add, hX2_add⟩
theorem mL_28 : gMV RL 28 yX5_clearInput 0 := ⟨tb_at 258 (by decide +kernel), iX5_clearInput, sX5_clearInput, nX5_clearInput, hX5_clearInput⟩
theorem mX5_77 : gMV RX5 77 yX2_clear 0 := ⟨tb_at 262 (by decide +kernel), iX2_clear, sX2_clear, nX2_clear, hX2_clear⟩
theorem mL_32 : gMV RL 32 yX5_setPattern 1 := ⟨tb_at 263 (by decide +kernel), iX5_setPattern, sX5_setPattern, nX5_setPattern, hX5_setPattern⟩
theorem mX5_110 : gMV RX5 110 yX5_takePattern 0 := ⟨tb_at 267 (by decide +kernel), iX5_takePattern, sX5_takePattern, nX5_takePattern, hX5_takePattern⟩
theorem mX5_80 : gMV RX5 80 yX5_readPattern 1 := ⟨tb_at 271 (by decide +kernel), iX5_readPattern, sX5_readPattern, nX5_readPattern, hX5_readPattern⟩
theorem mX5_84 : gMV RX5 84 yX5_readSymbols 1 := ⟨tb_at 275 (by decide +kernel), iX5_readSymbols, sX5_readSymbols, nX5_readSymbols, hX5_readSymbols⟩
theorem mX5_94 : gMV RX5 94 yX2_at 1 := ⟨tb_at 279 (by decide +kernel), iX2_at, sX2_at, nX2_at, hX2_at⟩
theorem mX5_98 : gMV RX5 98 yX5_codeOf 1 := ⟨tb_at 283 (by decide +kernel), iX5_codeOf, sX5_codeOf, nX5_codeOf, hX5_codeOf⟩
theorem mX5_91 : gMV RX5 91 yX2_makeCanonical 0 := ⟨tb_at 287 (by decide +kernel), iX2_makeCanonical, sX2_makeCanonical, nX2_makeCanonical, hX2_makeCanonical⟩
theorem mX2_29 : gMV RX2 29 yX2_at 1 := ⟨tb_at 291 (by decide +kernel), iX2_at, sX2_at, nX2_at, hX2_at⟩
theorem mX2_46 : gMV RX2 46 yX2_exchange 2 := ⟨tb_at 292 (by decide +kernel), iX2_exchange, sX2_exchange, nX2_exchange, hX2_exchange⟩
theorem mX2_42 : gMV RX2 42 yX2_put 2 := ⟨tb_at 296 (by decide +kernel), iX2_put, sX2_put, nX2_put, hX2_put⟩
theorem mX2_25 : gMV RX2 25 yX2_hasIndex 1 := ⟨tb_at 300 (by decide +kernel), iX2_hasIndex, sX2_hasIndex, nX2_hasIndex, hX2_hasIndex⟩
theorem mX5_114 : gMS RX5 114 yX5_isRegister 1 := ⟨tb_at 304 (by decide +kernel), tX5_isRegister, nX5_isRegister, hX5_isRegister⟩
theorem mX5_117 : gMV RX5 117 yX5_store 2 := ⟨tb_at 307 (by decide +kernel), iX5_store, sX5_store, nX5_store, hX5_store⟩
theorem mX5_145 : gMV RX5 145 yX2_setTo 1 := ⟨tb_at 311 (by decide +kernel), iX2_setTo, sX2_setTo, nX2_setTo, hX2_setTo⟩
theorem mX2_36 : Cond.methodLink RX2 36 Lib.Math.min.name ∈ lw_tbl := tb_at 315 (by decide +kernel)
theorem mL_36 : gMV RL 36 yX5_copy 2 := ⟨tb_at 318 (by decide +kernel), iX5_copy, sX5_copy, nX5_copy, hX5_copy⟩
theorem mL_40 : gMV RL 40 yX5_length 1 := ⟨tb_at 322 (by decide +kernel), iX5_length, sX5_length, nX5_length, hX5_length⟩
theorem mL_44 : gMV RL 44 yX5_symbol 2 := ⟨tb_at 326 (by decide +kernel), iX5_symbol, sX5_symbol, nX5_symbol, hX5_symbol⟩
theorem mL_48 : gMV RL 48 yX5_variableCount 1 := ⟨tb_at 330 (by decide +kernel), iX5_variableCount, sX5_variableCount, nX5_variableCount, hX5_variableCount⟩
theorem mX5_125 : gMV RX5 125 yX2_variablesIn 0 := ⟨tb_at 334 (by decide +kernel), iX2_variablesIn, sX2_variablesIn, nX2_variablesIn, hX2_variablesIn⟩
theorem mL_52 : gMV RL 52 yX5_occurrences 2 := ⟨tb_at 338 (by decide +kernel), iX5_occurrences, sX5_occurrences, nX5_occurrences, hX5_occurrences⟩
theorem mX5_128 : gMV RX5 128 yX5_hasVariable 2 := ⟨tb_at 342 (by decide +kernel), iX5_hasVariable, sX5_hasVariable, nX5_hasVariable, hX5_hasVariable⟩
theorem mX5_149 : gMS RX5 149 yX5_isVariable 1 := ⟨tb_at 346 (by decide +kernel), tX5_isVariable, nX5_isVariable, hX5_isVariable⟩
theorem mX5_132 : gMV RX5 132 yX2_countOf 1 := ⟨tb_at 349 (by decide +kernel), iX2_countOf, sX2_countOf, nX2_countOf, hX2_countOf⟩
theorem mL_56 : gMV RL 56 yX5_compareQuality 2 := ⟨tb_at 353 (by decide +kernel), iX5_compareQuality, sX5_compareQuality, nX5_compareQuality, hX5_compareQuality⟩
theorem mX5_135 : gMS RX5 135 yX5_advantage 2 := ⟨tb_at 357 (by decide +kernel), tX5_advantage, nX5_advantage, hX5_advantage⟩
theorem mX5_87 : gMV RX5 87 yX2_letterCount 0 := ⟨tb_at 360 (by decide +kernel), iX2_letterCount, sX2_letterCount, nX2_letterCount, hX2_letterCount⟩
theorem mX5_139 : gMS RX5 139 yJ6_compare_7cf53 2 := ⟨tb_at 364 (by decide +kernel), tJ6_compare_7cf53, nJ6_compare_7cf53, hJ6_compare_7cf53⟩
theorem mL_60 : gMV RL 60 yX5_replace 3 := ⟨tb_at 367 (by decide +kernel), iX5_replace, sX5_replace, nX5_replace, hX5_replace⟩
theorem mX5_152 : gMV RX5 152 yX5_putForVariable 3 := ⟨tb_at 371 (by decide +kernel), iX5_putForVariable, sX5_putForVariable, nX5_putForVariable, hX5_putForVariable⟩
theorem mX5_156 : gMV RX5 156 yX2_putForCodes 3 := ⟨tb_at 375 (by decide +kernel), iX2_putForCodes, sX2_putForCodes, nX2_putForCodes, hX2_putForCodes⟩
theorem mL_65 : gMV RL 65 yX5_merge 3 := ⟨tb_at 379 (by decide +kernel), iX5_merge, sX5_merge, nX5_merge, hX5_merge⟩
theorem mL_69 : gMV RL 69 yX5_split 2 := ⟨tb_at 383 (by decide +kernel), iX5_split, sX5_split, nX5_split, hX5_split⟩
theorem mL_73 : gMV RL 73 yX5_transform 1 := ⟨tb_at 387 (by decide +kernel), iX5_transform, sX5_transform, nX5_transform, hX5_transform⟩
theorem mX5_160 : gMV RX5 160 yX5_changeAsTold 1 := ⟨tb_at 391 (by decide +kernel), iX5_changeAsTold, sX5_changeAsTold, nX5_changeAsTold, hX5_changeAsTold⟩
theorem mX5_165 : gMV RX5 165 yX5_inputIs 1 := ⟨tb_at 396 (by decide +kernel), iX5_inputIs, sX5_inputIs, nX5_inputIs, hX5_inputIs⟩
theorem mX5_101 : gMV RX5 101 yJ0_length_8abf5 0 := ⟨tb_at 400 (by decide +kernel), iJ0_length_8abf5, sJ0_length_8abf5, nJ0_length_8abf5, hJ0_length_8abf5⟩
theorem mJ0_335 : gMV RJ0 335 yJ0_coder_7d493 0 := ⟨tb_at 404 (by decide +kernel), iJ0_coder_7d493, sJ0_coder_7d493, nJ0_coder_7d493, hJ0_coder_7d493⟩
theorem mX5_106 : gMV RX5 106 yJ0_charAt_5068e 1 := ⟨tb_at 410 (by decide +kernel), iJ0_charAt_5068e, sJ0_charAt_5068e, nJ0_charAt_5068e, hJ0_charAt_5068e⟩
theorem mJ0_492 : gMV RJ0 492 yJ0_isLatin1_aae02 0 := ⟨tb_at 414 (by decide +kernel), iJ0_isLatin1_aae02, sJ0_isLatin1_aae02, nJ0_isLatin1_aae02, hJ0_isLatin1_aae02⟩
theorem mJ0_495 : gMS RJ0 495 yJ1_charAt_3b067 2 := ⟨tb_at 418 (by decide +kernel), tJ1_charAt_3b067, nJ1_charAt_3b067, hJ1_charAt_3b067⟩
theorem mJ1_9 : gMS RJ1 9 yJ0_checkIndex_df160 2 := ⟨tb_at 421 (by decide +kernel), tJ0_checkIndex_df160, nJ0_checkIndex_df160, hJ0_checkIndex_df160⟩
theorem mJ0_1059 : gMS RJ0 1059 yJ3_checkIndex_8e157 3 := ⟨tb_at 426 (by decide +kernel), tJ3_checkIndex_8e157, nJ3_checkIndex_8e157, hJ3_checkIndex_8e157⟩
theorem mX5_169 : gMV RX5 169 yX2_turnAround 0 := ⟨tb_at 448 (by decide +kernel), iX2_turnAround, sX2_turnAround, nX2_turnAround, hX2_turnAround⟩
theorem mX5_174 : gMV RX5 174 yX5_swapLetters 1 := ⟨tb_at 453 (by decide +kernel), iX5_swapLetters, sX5_swapLetters, nX5_swapLetters, hX5_swapLetters⟩
theorem mX5_186 : gMV RX5 186 yX2_exchange 2 := ⟨tb_at 457 (by decide +kernel), iX2_exchange, sX2_exchange, nX2_exchange, hX2_exchange⟩
theorem mX5_179 : gMS RX5 179 yX5_dropLast 1 := ⟨tb_at 459 (by decide +kernel), tX5_dropLast, nX5_dropLast, hX5_dropLast⟩
theorem mX5_190 : gMV RX5 190 yX2_removeLast 0 := ⟨tb_at 462 (by decide +kernel), iX2_removeLast, sX2_removeLast, nX2_removeLast, hX2_removeLast⟩
theorem mL_77 : gMV RL 77 yX5_matches 2 := ⟨tb_at 469 (by decide +kernel), iX5_matches, sX5_matches, nX5_matches, hX5_matches⟩
theorem mX5_193 : gMV RX5 193 yX5_takeWord 0 := ⟨tb_at 473 (by decide +kernel), iX5_takeWord, sX5_takeWord, nX5_takeWord, hX5_takeWord⟩
theorem mX5_196 : gMS RX5 196 yX5_refusalOfMatching 3 := ⟨tb_at 477 (by decide +kernel), tX5_refusalOfMatching, nX5_refusalOfMatching, hX5_refusalOfMatching⟩
theorem mX5_220 : gMS RX5 220 yX5_isMode 1 := ⟨tb_at 480 (by decide +kernel), tX5_isMode, nX5_isMode, hX5_isMode⟩
theorem mX5_200 : gMV RX5 200 yX1_isMatch 3 := ⟨tb_at 483 (by decide +kernel), iX1_isMatch, sX1_isMatch, nX1_isMatch, hX1_isMatch⟩
theorem mX1_21 : gMV RX1 21 yX1_isMatchBefore 5 := ⟨tb_at 487 (by decide +kernel), iX1_isMatchBefore, sX1_isMatchBefore, nX1_isMatchBefore, hX1_isMatchBefore⟩
theorem mX1_31 : gMV RX1 31 yX1_prepare 2 := ⟨tb_at 491 (by decide +kernel), iX1_prepare, sX1_prepare, nX1_prepare, hX1_prepare⟩
theorem mX1_55 : gMV RX1 55 yX2_at 1 := ⟨tb_at 495 (by decide +kernel), iX2_at, sX2_at, nX2_at, hX2_at⟩
theorem mX1_52 : gMSN RX1 52 yX5_isVariable 1 := ⟨by decide +kernel, tX5_isVariable, nX5_isVariable, hX5_isVariable⟩
theorem mX1_68 : Cond.methodLink RX1 68 Lib.Math.max.name ∈ lw_tbl := tb_at 497 (by decide +kernel)
theorem mX1_38 : gMV RX1 38 yX1_canComeOut 1 := ⟨tb_at 498 (by decide +kernel), iX1_canComeOut, sX1_canComeOut, nX1_canComeOut, hX1_canComeOut⟩
theorem mX1_42 : gMV RX1 42 yX1_count 6 := ⟨tb_at 502 (by decide +kernel), iX1_count, sX1_count, nX1_count, hX1_count⟩
theorem mX1_74 : gMV RX1 74 yX1_countBindings 6 := ⟨tb_at 506 (by decide +kernel), iX1_countBindings, sX1_countBindings, nX1_countBindings, hX1_countBindings⟩
theorem mX1_77 : gMS RX1 77 yX1_isSame 4 := ⟨tb_at 510 (by decide +kernel), tX1_isSame, nX1_isSame, hX1_isSame⟩
theorem mL_81 : gMV RL 81 yX5_matchCount 2 := ⟨tb_at 513 (by decide +kernel), iX5_matchCount, sX5_matchCount, nX5_matchCount, hX5_matchCount⟩
theorem mX5_204 : gMV RX5 204 yX1_countAll 3 := ⟨tb_at 517 (by decide +kernel), iX1_countAll, sX1_countAll, nX1_countAll, hX1_countAll⟩
theorem qX1_48 : Cond.constant RX1 48 (2147483647) ∈ lw_tbl := tb_at 521 (by decide +kernel)
theorem mL_85 : gMV RL 85 yX5_match 2 := ⟨tb_at 522 (by decide +kernel), iX5_match, sX5_match, nX5_match, hX5_match⟩
theorem mX5_208 : Cond.methodLink RX5 208 Lib.Math.min.name ∈ lw_tbl := tb_at 526 (by decide +kernel)
theorem mX5_216 : gMV RX5 216 yX1_writeImage 3 := ⟨tb_at 527 (by decide +kernel), iX1_writeImage, sX1_writeImage, nX1_writeImage, hX1_writeImage⟩
theorem mX1_49 : gMV RX1 49 yX2_clear 0 := ⟨tb_at 531 (by decide +kernel), iX2_clear, sX2_clear, nX2_clear, hX2_clear⟩
theorem mX1_59 : gMV RX1 59 yX2_add 1 := ⟨tb_at 532 (by decide +kernel), iX2_add, sX2_add, nX2_add, hX2_add⟩
theorem mL_89 : gMV RL 89 yX5_setImage 1 := ⟨tb_at 533 (by decide +kernel), iX5_setImage, sX5_setImage, nX5_setImage, hX5_setImage⟩
theorem mL_93 : gMV RL 93 yX5_imageLetter 2 := ⟨tb_at 537 (by decide +kernel), iX5_imageLetter, sX5_imageLetter, nX5_imageLetter, hX5_imageLetter⟩
theorem mL_97 : gMV RL 97 yX5_addProduced 1 := ⟨tb_at 541 (by decide +kernel), iX5_addProduced, sX5_addProduced, nX5_addProduced, hX5_addProduced⟩
theorem mX5_223 : gMV RX5 223 yX5_produce 1 := ⟨tb_at 545 (by decide +kernel), iX5_produce, sX5_produce, nX5_produce, hX5_produce⟩
theorem mX5_229 : gMV RX5 229 yX2_addAll 1 := ⟨tb_at 549 (by decide +kernel), iX2_addAll, sX2_addAll, nX2_addAll, hX2_addAll⟩
theorem mX5_226 : gMV RX5 226 yX5_addToSample 0 := ⟨tb_at 553 (by decide +kernel), iX5_addToSample, sX5_addToSample, nX5_addToSample, hX5_addToSample⟩
theorem mL_101 : gMV RL 101 yX5_addWord 0 := ⟨tb_at 557 (by decide +kernel), iX5_addWord, sX5_addWord, nX5_addWord, hX5_addWord⟩
theorem mL_105 : gMV RL 105 yX5_removeWord 1 := ⟨tb_at 561 (by decide +kernel), iX5_removeWord, sX5_removeWord, nX5_removeWord, hX5_removeWord⟩
theorem mX5_238 : gMV RX5 238 yX5_isSampleIndex 1 := ⟨tb_at 565 (by decide +kernel), iX5_isSampleIndex, sX5_isSampleIndex, nX5_isSampleIndex, hX5_isSampleIndex⟩
theorem mL_109 : gMV RL 109 yX5_sampleSize 0 := ⟨tb_at 569 (by decide +kernel), iX5_sampleSize, sX5_sampleSize, nX5_sampleSize, hX5_sampleSize⟩
theorem mL_113 : gMV RL 113 yX5_sampleCode 1 := ⟨tb_at 573 (by decide +kernel), iX5_sampleCode, sX5_sampleCode, nX5_sampleCode, hX5_sampleCode⟩
theorem mX5_241 : gMV RX5 241 yX2_wordCode 0 := ⟨tb_at 577 (by decide +kernel), iX2_wordCode, sX2_wordCode, nX2_wordCode, hX2_wordCode⟩
theorem qX2_49 : Cond.constantLong RX2 49 (4) ∈ lw_tbl := tb_at 581 (by decide +kernel)
theorem qX5_245 : Cond.constantLong RX5 245 (-9223372036854775808) ∈ lw_tbl := tb_at 582 (by decide +kernel)
theorem mL_118 : gMV RL 118 yX5_firstMisfit 2 := ⟨tb_at 583 (by decide +kernel), iX5_firstMisfit, sX5_firstMisfit, nX5_firstMisfit, hX5_firstMisfit⟩
theorem mL_122 : gMV RL 122 yX5_isMoreGeneral 3 := ⟨tb_at 587 (by decide +kernel), iX5_isMoreGeneral, sX5_isMoreGeneral, nX5_isMoreGeneral, hX5_isMoreGeneral⟩
theorem mX5_247 : gMV RX5 247 yX5_isAsGeneral 3 := ⟨tb_at 591 (by decide +kernel), iX5_isAsGeneral, sX5_isAsGeneral, nX5_isAsGeneral, hX5_isAsGeneral⟩
theorem mL_126 : gMV RL 126 yX5_chainBreak 3 := ⟨tb_at 595 (by decide +kernel), iX5_chainBreak, sX5_chainBreak, nX5_chainBreak, hX5_chainBreak⟩
theorem mL_130 : gMV RL 130 yX5_findPattern 3 := ⟨tb_at 599 (by decide +kernel), iX5_findPattern, sX5_findPattern, nX5_findPattern, hX5_findPattern⟩
theorem mX5_251 : gMV RX5 251 yX3_findBest 2 := ⟨tb_at 603 (by decide +kernel), iX3_findBest, sX3_findBest, nX3_findBest, hX3_findBest⟩
theorem mX3_35 : gMV RX3 35 yX2_clear 0 := ⟨tb_at 607 (by decide +kernel), iX2_clear, sX2_clear, nX2_clear, hX2_clear⟩
theorem mX3_38 : Cond.methodLink RX3 38 Lib.Math.min.name ∈ lw_tbl := tb_at 608 (by decide +kernel)
theorem mX3_47 : gMV RX3 47 yX3_complete 3 := ⟨tb_at 609 (by decide +kernel), iX3_complete, sX3_complete, nX3_complete, hX3_complete⟩
theorem mX3_67 : gMV RX3 67 yX3_canBegin 2 := ⟨tb_at 613 (by decide +kernel), iX3_canBegin, sX3_canBegin, nX3_canBegin, hX3_canBegin⟩
theorem mX3_86 : gMV RX3 86 yX1_isMatchBefore 5 := ⟨tb_at 617 (by decide +kernel), iX1_isMatchBefore, sX1_isMatchBefore, nX1_isMatchBefore, hX1_isMatchBefore⟩
theorem mX3_73 : gMV RX3 73 yX2_add 1 := ⟨tb_at 618 (by decide +kernel), iX2_add, sX2_add, nX2_add, hX2_add⟩
theorem mX3_77 : gMV RX3 77 yX2_removeLast 0 := ⟨tb_at 619 (by decide +kernel), iX2_removeLast, sX2_removeLast, nX2_removeLast, hX2_removeLast⟩
theorem mX3_80 : gMV RX3 80 yX3_completeWithVariable 3 := ⟨tb_at 620 (by decide +kernel), iX3_completeWithVariable, sX3_completeWithVariable, nX3_completeWithVariable, hX3_completeWithVariable⟩
theorem mX3_83 : Cond.methodLink RX3 83 Lib.Math.max.name ∈ lw_tbl := tb_at 624 (by decide +kernel)
theorem mL_134 : gMV RL 134 yX5_findOneVariable 1 := ⟨tb_at 625 (by decide +kernel), iX5_findOneVariable, sX5_findOneVariable, nX5_findOneVariable, hX5_findOneVariable⟩
theorem mX5_257 : gMV RX5 257 yX3_findLongestOfX 0 := ⟨tb_at 629 (by decide +kernel), iX3_findLongestOfX, sX3_findLongestOfX, nX3_findLongestOfX, hX3_findLongestOfX⟩
theorem mX3_51 : gMV RX3 51 yX3_canStretch 2 := ⟨tb_at 633 (by decide +kernel), iX3_canStretch, sX3_canStretch, nX3_canStretch, hX3_canStretch⟩
theorem mL_138 : gMV RL 138 yX5_countWords 3 := ⟨tb_at 637 (by decide +kernel), iX5_countWords, sX5_countWords, nX5_countWords, hX5_countWords⟩
theorem mX5_260 : gMV RX5 260 yX5_wordsOfLength 1 := ⟨tb_at 641 (by decide +kernel), iX5_wordsOfLength, sX5_wordsOfLength, nX5_wordsOfLength, hX5_wordsOfLength⟩
theorem mX5_263 : gMV RX5 263 yX2_fillWith 2 := ⟨tb_at 645 (by decide +kernel), iX2_fillWith, sX2_fillWith, nX2_fillWith, hX2_fillWith⟩
theorem mX5_266 : gMV RX5 266 yX2_advance 1 := ⟨tb_at 646 (by decide +kernel), iX2_advance, sX2_advance, nX2_advance, hX2_advance⟩
theorem mL_142 : gMV RL 142 yX5_difference 4 := ⟨tb_at 650 (by decide +kernel), iX5_difference, sX5_difference, nX5_difference, hX5_difference⟩
theorem mX5_269 : gMV RX5 269 yX5_findDifference 4 := ⟨tb_at 654 (by decide +kernel), iX5_findDifference, sX5_findDifference, nX5_findDifference, hX5_findDifference⟩
theorem mL_147 : gMV RL 147 yX5_allocate 3 := ⟨tb_at 658 (by decide +kernel), iX5_allocate, sX5_allocate, nX5_allocate, hX5_allocate⟩
theorem mX5_273 : gMS RX5 273 yX5_isSlot 1 := ⟨tb_at 662 (by decide +kernel), tX5_isSlot, nX5_isSlot, hX5_isSlot⟩
theorem mL_151 : gMV RL 151 yX5_release 1 := ⟨tb_at 665 (by decide +kernel), iX5_release, sX5_release, nX5_release, hX5_release⟩
theorem mL_157 : gMV RL 157 yX5_putElement 3 := ⟨tb_at 669 (by decide +kernel), iX5_putElement, sX5_putElement, nX5_putElement, hX5_putElement⟩
theorem mX5_282 : gMV RX5 282 yX2_hasIndex 1 := ⟨tb_at 673 (by decide +kernel), iX2_hasIndex, sX2_hasIndex, nX2_hasIndex, hX2_hasIndex⟩
theorem mX5_285 : gMS RX5 285 yX5_narrowed 2 := ⟨tb_at 674 (by decide +kernel), tX5_narrowed, nX5_narrowed, hX5_narrowed⟩
theorem mX5_289 : gMV RX5 289 yX2_put 2 := ⟨tb_at 677 (by decide +kernel), iX2_put, sX2_put, nX2_put, hX2_put⟩
theorem mL_162 : gMV RL 162 yX5_element 2 := ⟨tb_at 678 (by decide +kernel), iX5_element, sX5_element, nX5_element, hX5_element⟩
theorem mL_167 : gMV RL 167 yX5_copyElements 5 := ⟨tb_at 682 (by decide +kernel), iX5_copyElements, sX5_copyElements, nX5_copyElements, hX5_copyElements⟩
theorem mX5_292 : gMV RX5 292 yX2_hasRange 2 := ⟨tb_at 686 (by decide +kernel), iX2_hasRange, sX2_hasRange, nX2_hasRange, hX2_hasRange⟩
theorem mX5_299 : Cond.methodLink RX5 299 arraycopyName ∈ lw_tbl := tb_at 690 (by decide +kernel)
theorem mL_172 : gMV RL 172 yX5_loadPattern 2 := ⟨tb_at 693 (by decide +kernel), iX5_loadPattern, sX5_loadPattern, nX5_loadPattern, hX5_loadPattern⟩
theorem mL_176 : gMV RL 176 yX5_snapshot 0 := ⟨tb_at 697 (by decide +kernel), iX5_snapshot, sX5_snapshot, nX5_snapshot, hX5_snapshot⟩
theorem mX5_305 : gMV RX5 305 yX0_setTo 1 := ⟨tb_at 701 (by decide +kernel), iX0_setTo, sX0_setTo, nX0_setTo, hX0_setTo⟩
theorem mX0_44 : gMS RX0 44 yX0_copyRows 2 := ⟨tb_at 705 (by decide +kernel), tX0_copyRows, nX0_copyRows, hX0_copyRows⟩
theorem mX0_48 : gMV RX0 48 yX2_setTo 1 := ⟨tb_at 708 (by decide +kernel), iX2_setTo, sX2_setTo, nX2_setTo, hX2_setTo⟩
theorem mL_180 : gMV RL 180 yX5_restore 0 := ⟨tb_at 709 (by decide +kernel), iX5_restore, sX5_restore, nX5_restore, hX5_restore⟩
theorem mL_12 : gMI RL 12 yX6_init 0 := ⟨tb_at 715 (by decide +kernel), iX6_init, nX6_init, rfl, by decide +kernel, hX6_init⟩
theorem mX6_3 : Cond.methodLink RX6 3 objectInit ∈ lw_tbl := tb_at 718 (by decide +kernel)
theorem mX6_95 : gMV RX6 95 yX6_clear 0 := ⟨tb_at 719 (by decide +kernel), iX6_clear, sX6_clear, nX6_clear, hX6_clear⟩
theorem mL_17 : gMV RL 17 yX6_reset 1 := ⟨tb_at 851 (by decide +kernel), iX6_reset, sX6_reset, nX6_reset, hX6_reset⟩
theorem mX6_101 : gMS RX6 101 yX6_in 3 := ⟨tb_at 855 (by decide +kernel), tX6_in, nX6_in, hX6_in⟩
theorem mL_22 : gMV RL 22 yX6_letters 0 := ⟨tb_at 858 (by decide +kernel), iX6_letters, sX6_letters, nX6_letters, hX6_letters⟩
theorem mL_27 : gMV RL 27 yX6_append 2 := ⟨tb_at 862 (by decide +kernel), iX6_append, sX6_append, nX6_append, hX6_append⟩
theorem mL_31 : gMV RL 31 yX6_clearInput 0 := ⟨tb_at 866 (by decide +kernel), iX6_clearInput, sX6_clearInput, nX6_clearInput, hX6_clearInput⟩
theorem mL_35 : gMV RL 35 yX6_setPattern 1 := ⟨tb_at 870 (by decide +kernel), iX6_setPattern, sX6_setPattern, nX6_setPattern, hX6_setPattern⟩
theorem mX6_135 : gMV RX6 135 yX6_takeInput 1 := ⟨tb_at 874 (by decide +kernel), iX6_takeInput, sX6_takeInput, nX6_takeInput, hX6_takeInput⟩
theorem mX6_108 : gMV RX6 108 yX6_codeOf 1 := ⟨tb_at 878 (by decide +kernel), iX6_codeOf, sX6_codeOf, nX6_codeOf, hX6_codeOf⟩
theorem mX6_139 : gMS RX6 139 yX6_isRegister 1 := ⟨tb_at 882 (by decide +kernel), tX6_isRegister, nX6_isRegister, hX6_isRegister⟩
theorem mX6_143 : gMV RX6 143 yX6_store 1 := ⟨tb_at 885 (by decide +kernel), iX6_store, sX6_store, nX6_store, hX6_store⟩
theorem mX6_125 : Cond.methodLink RX6 125 arraycopyName ∈ lw_tbl := tb_at 889 (by decide +kernel)
theorem mX6_131 : gMV RX6 131 yX6_normalize 1 := ⟨tb_at 890 (by decide +kernel), iX6_normalize, sX6_normalize, nX6_normalize, hX6_normalize⟩
theorem mL_39 : gMV RL 39 yX6_copy 2 := ⟨tb_at 894 (by decide +kernel), iX6_copy, sX6_copy, nX6_copy, hX6_copy⟩
theorem mL_43 : gMV RL 43 yX6_length 1 := ⟨tb_at 898 (by decide +kernel), iX6_length, sX6_length, nX6_length, hX6_length⟩
theorem mL_47 : gMV RL 47 yX6_symbol 2 := ⟨tb_at 902 (by decide +kernel), iX6_symbol, sX6_symbol, nX6_symbol, hX6_symbol⟩
theorem mL_51 : gMV RL 51 yX6_variableCount 1 := ⟨tb_at 906 (by decide +kernel), iX6_variableCount, sX6_variableCount, nX6_variableCount, hX6_variableCount⟩
theorem mX6_154 : gMV RX6 154 yX6_variables 1 := ⟨tb_at 910 (by decide +kernel), iX6_variables, sX6_variables, nX6_variables, hX6_variables⟩
theorem mX6_150 : gMS RX6 150 yX6_variablesIn 3 := ⟨tb_at 914 (by decide +kernel), tX6_variablesIn, nX6_variablesIn, hX6_variablesIn⟩
theorem mX6_146 : gMS RX6 146 yX6_countOf 4 := ⟨tb_at 917 (by decide +kernel), tX6_countOf, nX6_countOf, hX6_countOf⟩
theorem mL_55 : gMV RL 55 yX6_occurrences 2 := ⟨tb_at 920 (by decide +kernel), iX6_occurrences, sX6_occurrences, nX6_occurrences, hX6_occurrences⟩
theorem mX6_157 : gMV RX6 157 yX6_occurs 2 := ⟨tb_at 924 (by decide +kernel), iX6_occurs, sX6_occurs, nX6_occurs, hX6_occurs⟩
theorem mL_59 : gMV RL 59 yX6_compareQuality 2 := ⟨tb_at 928 (by decide +kernel), iX6_compareQuality, sX6_compareQuality, nX6_compareQuality, hX6_compareQuality⟩
theorem mX6_163 : gMS RX6 163 yX6_better 5 := ⟨tb_at 932 (by decide +kernel), tX6_better, nX6_better, hX6_better⟩
theorem mX6_160 : gMS RX6 160 yX6_lettersIn 3 := ⟨tb_at 935 (by decide +kernel), tX6_lettersIn, nX6_lettersIn, hX6_lettersIn⟩
theorem mL_64 : gMV RL 64 yX6_replace 3 := ⟨tb_at 938 (by decide +kernel), iX6_replace, sX6_replace, nX6_replace, hX6_replace⟩
theorem mX6_167 : gMV RX6 167 yX6_exchange 3 := ⟨tb_at 942 (by decide +kernel), iX6_exchange, sX6_exchange, nX6_exchange, hX6_exchange⟩
theorem mL_68 : gMV RL 68 yX6_merge 3 := ⟨tb_at 946 (by decide +kernel), iX6_merge, sX6_merge, nX6_merge, hX6_merge⟩
theorem mL_72 : gMV RL 72 yX6_split 2 := ⟨tb_at 950 (by decide +kernel), iX6_split, sX6_split, nX6_split, hX6_split⟩
theorem mL_76 : gMV RL 76 yX6_transform 1 := ⟨tb_at 954 (by decide +kernel), iX6_transform, sX6_transform, nX6_transform, hX6_transform⟩
theorem mX6_173 : gMV RX6 173 yX6_inputIs 1 := ⟨tb_at 959 (by decide +kernel), iX6_inputIs, sX6_inputIs, nX6_inputIs, hX6_inputIs⟩
theorem mX6_115 : gMV RX6 115 yJ0_length_8abf5 0 := ⟨tb_at 963 (by decide +kernel), iJ0_length_8abf5, sJ0_length_8abf5, nJ0_length_8abf5, hJ0_length_8abf5⟩
theorem mX6_121 : gMV RX6 121 yJ0_charAt_5068e 1 := ⟨tb_at 964 (by decide +kernel), iJ0_charAt_5068e, sJ0_charAt_5068e, nJ0_charAt_5068e, hJ0_charAt_5068e⟩
theorem mL_80 : gMV RL 80 yX6_matches 2 := ⟨tb_at 969 (by decide +kernel), iX6_matches, sX6_matches, nX6_matches, hX6_matches⟩
theorem mX6_224 : gMV RX6 224 yX6_takeWord 2 := ⟨tb_at 973 (by decide +kernel), iX6_takeWord, sX6_takeWord, nX6_takeWord, hX6_takeWord⟩
theorem mX6_221 : gMS RX6 221 yX6_isMode 1 := ⟨tb_at 977 (by decide +kernel), tX6_isMode, nX6_isMode, hX6_isMode⟩
theorem mX6_227 : gMV RX6 227 yX6_matchesOf 3 := ⟨tb_at 980 (by decide +kernel), iX6_matchesOf, sX6_matchesOf, nX6_matchesOf, hX6_matchesOf⟩
theorem mX6_217 : gMV RX6 217 yX6_match 8 := ⟨tb_at 984 (by decide +kernel), iX6_match, sX6_match, nX6_match, hX6_match⟩
theorem mX6_209 : gMV RX6 209 yX6_choose 2 := ⟨tb_at 988 (by decide +kernel), iX6_choose, sX6_choose, nX6_choose, hX6_choose⟩
theorem mX6_213 : gMV RX6 213 yX6_produces 0 := ⟨tb_at 992 (by decide +kernel), iX6_produces, sX6_produces, nX6_produces, hX6_produces⟩
theorem mL_84 : gMV RL 84 yX6_matchCount 2 := ⟨tb_at 996 (by decide +kernel), iX6_matchCount, sX6_matchCount, nX6_matchCount, hX6_matchCount⟩
theorem qX6_232 : Cond.constant RX6 232 (2147483647) ∈ lw_tbl := tb_at 1000 (by decide +kernel)
theorem mL_88 : gMV RL 88 yX6_match_ 2 := ⟨tb_at 1001 (by decide +kernel), iX6_match_, sX6_match_, nX6_match_, hX6_match_⟩
theorem mL_92 : gMV RL 92 yX6_setImage 1 := ⟨tb_at 1005 (by decide +kernel), iX6_setImage, sX6_setImage, nX6_setImage, hX6_setImage⟩
theorem mL_96 : gMV RL 96 yX6_imageLetter 2 := ⟨tb_at 1009 (by decide +kernel), iX6_imageLetter, sX6_imageLetter, nX6_imageLetter, hX6_imageLetter⟩
theorem mL_100 : gMV RL 100 yX6_addProduced 1 := ⟨tb_at 1013 (by decide +kernel), iX6_addProduced, sX6_addProduced, nX6_addProduced, hX6_addProduced⟩
theorem mX6_233 : gMV RX6 233 yX6_addToSample 0 := ⟨tb_at 1017 (by decide +kernel), iX6_addToSample, sX6_addToSample, nX6_addToSample, hX6_addToSample⟩
theorem mL_104 : gMV RL 104 yX6_addWord 0 := ⟨tb_at 1021 (by decide +kernel), iX6_addWord, sX6_addWord, nX6_addWord, hX6_addWord⟩
theorem mL_108 : gMV RL 108 yX6_removeWord 1 := ⟨tb_at 1025 (by decide +kernel), iX6_removeWord, sX6_removeWord, nX6_removeWord, hX6_removeWord⟩
theorem mX6_236 : gMV RX6 236 yX6_isInSample 1 := ⟨tb_at 1029 (by decide +kernel), iX6_isInSample, sX6_isInSample, nX6_isInSample, hX6_isInSample⟩
theorem mL_112 : gMV RL 112 yX6_sampleSize 0 := ⟨tb_at 1033 (by decide +kernel), iX6_sampleSize, sX6_sampleSize, nX6_sampleSize, hX6_sampleSize⟩
theorem mL_117 : gMV RL 117 yX6_sampleCode 1 := ⟨tb_at 1037 (by decide +kernel), iX6_sampleCode, sX6_sampleCode, nX6_sampleCode, hX6_sampleCode⟩
theorem mX6_241 : gMS RX6 241 yX6_codeOf_ 3 := ⟨tb_at 1041 (by decide +kernel), tX6_codeOf_, nX6_codeOf_, hX6_codeOf_⟩
theorem qX6_239 : Cond.constantLong RX6 239 (4) ∈ lw_tbl := tb_at 1044 (by decide +kernel)
theorem qX6_244 : Cond.constantLong RX6 244 (-9223372036854775808) ∈ lw_tbl := tb_at 1045 (by decide +kernel)
theorem mL_121 : gMV RL 121 yX6_firstMisfit 2 := ⟨tb_at 1046 (by decide +kernel), iX6_firstMisfit, sX6_firstMisfit, nX6_firstMisfit, hX6_firstMisfit⟩
theorem mX6_246 : gMV RX6 246 yX6_misfit 4 := ⟨tb_at 1050 (by decide +kernel), iX6_misfit, sX6_misfit, nX6_misfit, hX6_misfit⟩
theorem mL_125 : gMV RL 125 yX6_isMoreGeneral 3 := ⟨tb_at 1054 (by decide +kernel), iX6_isMoreGeneral, sX6_isMoreGeneral, nX6_isMoreGeneral, hX6_isMoreGeneral⟩
theorem mX6_250 : gMV RX6 250 yX6_covers 3 := ⟨tb_at 1058 (by decide +kernel), iX6_covers, sX6_covers, nX6_covers, hX6_covers⟩
theorem mL_129 : gMV RL 129 yX6_chainBreak 3 := ⟨tb_at 1062 (by decide +kernel), iX6_chainBreak, sX6_chainBreak, nX6_chainBreak, hX6_chainBreak⟩
theorem mL_133 : gMV RL 133 yX6_findPattern 3 := ⟨tb_at 1066 (by decide +kernel), iX6_findPattern, sX6_findPattern, nX6_findPattern, hX6_findPattern⟩
theorem mX6_257 : gMV RX6 257 yX6_search 5 := ⟨tb_at 1070 (by decide +kernel), iX6_search, sX6_search, nX6_search, hX6_search⟩
theorem mX6_261 : gMV RX6 261 yX6_storeBest 2 := ⟨tb_at 1074 (by decide +kernel), iX6_storeBest, sX6_storeBest, nX6_storeBest, hX6_storeBest⟩
theorem mL_137 : gMV RL 137 yX6_findOneVariable 1 := ⟨tb_at 1078 (by decide +kernel), iX6_findOneVariable, sX6_findOneVariable, nX6_findOneVariable, hX6_findOneVariable⟩
theorem mL_141 : gMV RL 141 yX6_countWords 3 := ⟨tb_at 1082 (by decide +kernel), iX6_countWords, sX6_countWords, nX6_countWords, hX6_countWords⟩
theorem mX6_264 : gMV RX6 264 yX6_firstWord 0 := ⟨tb_at 1086 (by decide +kernel), iX6_firstWord, sX6_firstWord, nX6_firstWord, hX6_firstWord⟩
theorem mX6_267 : gMV RX6 267 yX6_generates 3 := ⟨tb_at 1090 (by decide +kernel), iX6_generates, sX6_generates, nX6_generates, hX6_generates⟩
theorem mX6_270 : gMV RX6 270 yX6_nextWord 1 := ⟨tb_at 1094 (by decide +kernel), iX6_nextWord, sX6_nextWord, nX6_nextWord, hX6_nextWord⟩
theorem mL_146 : gMV RL 146 yX6_difference 4 := ⟨tb_at 1098 (by decide +kernel), iX6_difference, sX6_difference, nX6_difference, hX6_difference⟩
theorem mL_150 : gMV RL 150 yX6_allocate 3 := ⟨tb_at 1102 (by decide +kernel), iX6_allocate, sX6_allocate, nX6_allocate, hX6_allocate⟩
theorem mX6_273 : gMS RX6 273 yX6_isSlot 1 := ⟨tb_at 1106 (by decide +kernel), tX6_isSlot, nX6_isSlot, hX6_isSlot⟩
theorem mL_154 : gMV RL 154 yX6_release 1 := ⟨tb_at 1109 (by decide +kernel), iX6_release, sX6_release, nX6_release, hX6_release⟩
theorem mL_161 : gMV RL 161 yX6_putElement 3 := ⟨tb_at 1113 (by decide +kernel), iX6_putElement, sX6_putElement, nX6_putElement, hX6_putElement⟩
theorem mX6_276 : gMS RX6 276 yX6_narrowed 2 := ⟨tb_at 1117 (by decide +kernel), tX6_narrowed, nX6_narrowed, hX6_narrowed⟩
theorem mL_166 : gMV RL 166 yX6_element 2 := ⟨tb_at 1120 (by decide +kernel), iX6_element, sX6_element, nX6_element, hX6_element⟩
theorem mL_171 : gMV RL 171 yX6_copyElements 5 := ⟨tb_at 1124 (by decide +kernel), iX6_copyElements, sX6_copyElements, nX6_copyElements, hX6_copyElements⟩
theorem mL_175 : gMV RL 175 yX6_loadPattern 2 := ⟨tb_at 1128 (by decide +kernel), iX6_loadPattern, sX6_loadPattern, nX6_loadPattern, hX6_loadPattern⟩
theorem mL_179 : gMV RL 179 yX6_snapshot 0 := ⟨tb_at 1132 (by decide +kernel), iX6_snapshot, sX6_snapshot, nX6_snapshot, hX6_snapshot⟩
theorem mX6_284 : gMV RX6 284 yX6_carryAll 1 := ⟨tb_at 1136 (by decide +kernel), iX6_carryAll, sX6_carryAll, nX6_carryAll, hX6_carryAll⟩
theorem mX6_280 : gMS RX6 280 yX6_carry 3 := ⟨tb_at 1140 (by decide +kernel), tX6_carry, nX6_carry, hX6_carry⟩
theorem mL_183 : gMV RL 183 yX6_restore 0 := ⟨tb_at 1143 (by decide +kernel), iX6_restore, sX6_restore, nX6_restore, hX6_restore⟩
theorem qL_155 : Cond.constantLong RL 155 (4294967295) ∈ lw_tbl := tb_at 1147 (by decide +kernel)
theorem gk_bipush_m14 : gics (.bipush (-14)) = some (-14) := by decide +kernel
theorem gk_bipush_m13 : gics (.bipush (-13)) = some (-13) := by decide +kernel
theorem gk_bipush_m12 : gics (.bipush (-12)) = some (-12) := by decide +kernel
theorem gk_bipush_m11 : gics (.bipush (-11)) = some (-11) := by decide +kernel
theorem gk_bipush_m6 : gics (.bipush (-6)) = some (-6) := by decide +kernel
theorem gk_bipush_m5 : gics (.bipush (-5)) = some (-5) := by decide +kernel
theorem gk_bipush_m4 : gics (.bipush (-4)) = some (-4) := by decide +kernel
theorem gk_bipush_m3 : gics (.bipush (-3)) = some (-3) := by decide +kernel
theorem gk_bipush_m2 : gics (.bipush (-2)) = some (-2) := by decide +kernel
theorem gk_bipush_6 : gics (.bipush (6)) = some (6) := by decide +kernel
theorem gk_bipush_7 : gics (.bipush (7)) = some (7) := by decide +kernel
theorem gk_bipush_8 : gics (.bipush (8)) = some (8) := by decide +kernel
theorem gk_bipush_9 : gics (.bipush (9)) = some (9) := by decide +kernel
theorem gk_bipush_10 : gics (.bipush (10)) = some (10) := by decide +kernel
theorem gk_bipush_11 : gics (.bipush (11)) = some (11) := by decide +kernel
theorem gk_bipush_12 : gics (.bipush (12)) = some (12) := by decide +kernel
theorem gk_bipush_13 : gics (.bipush (13)) = some (13) := by decide +kernel
theorem gk_bipush_14 : gics (.bipush (14)) = some (14) := by decide +kernel
theorem gk_bipush_20 : gics (.bipush (20)) = some (20) := by decide +kernel
theorem gk_bipush_32 : gics (.bipush (32)) = some (32) := by decide +kernel
theorem gk_bipush_40 : gics (.bipush (40)) = some (40) := by decide +kernel
theorem gk_bipush_48 : gics (.bipush (48)) = some (48) := by decide +kernel
theorem gk_bipush_63 : gics (.bipush (63)) = some (63) := by decide +kernel
theorem gk_bipush_87 : gics (.bipush (87)) = some (87) := by decide +kernel
theorem gk_bipush_88 : gics (.bipush (88)) = some (88) := by decide +kernel
theorem gk_bipush_89 : gics (.bipush (89)) = some (89) := by decide +kernel
theorem gk_bipush_90 : gics (.bipush (90)) = some (90) := by decide +kernel
theorem gk_bipush_97 : gics (.bipush (97)) = some (97) := by decide +kernel
theorem gk_bipush_127 : gics (.bipush (127)) = some (127) := by decide +kernel
theorem gk_iconst_m1 : gics (.iconst (-1)) = some (-1) := by decide +kernel
theorem gk_iconst_0 : gics (.iconst (0)) = some (0) := by decide +kernel
theorem gk_iconst_1 : gics (.iconst (1)) = some (1) := by decide +kernel
theorem gk_iconst_2 : gics (.iconst (2)) = some (2) := by decide +kernel
theorem gk_iconst_3 : gics (.iconst (3)) = some (3) := by decide +kernel
theorem gk_iconst_4 : gics (.iconst (4)) = some (4) := by decide +kernel
theorem gk_iconst_5 : gics (.iconst (5)) = some (5) := by decide +kernel
theorem gk_sipush_160 : gics (.sipush (160)) = some (160) := by decide +kernel
theorem gk_sipush_255 : gics (.sipush (255)) = some (255) := by decide +kernel
end
section
/-! ===== numbers; a row of the class ===== -/
theorem gnle {a b : Nat} (ha : a < 2 ^ 31) (hb : b < 2 ^ 31) : nI a ≤ nI b ↔ a ≤ b := by
  rw [Int32.le_iff_toInt_le, nI_toInt ha, nI_toInt hb]; omega
theorem gnlt {a b : Nat} (ha : a < 2 ^ 31) (hb : b < 2 ^ 31) : nI a < nI b ↔ a < b := by
  rw [Int32.lt_iff_toInt_lt, nI_toInt ha, nI_toInt hb]; omega
theorem gneq {a b : Nat} (ha : a < 2 ^ 31) (hb : b < 2 ^ 31) : nI a = nI b ↔ a = b := by
  rw [← Int32.toInt_inj, nI_toInt ha, nI_toInt hb]; omega
theorem gi1 (k : Nat) : nI k + Int32.ofInt 1 = nI (k + 1) := (nI_succ k).symm
theorem gadd (a b : Nat) : nI a + nI b = nI (a + b) := by
  unfold nI
  exact (Int32.ofNat_add a b).symm
theorem gsub {a b : Nat} (h : b ≤ a) : nI a - nI b = nI (a - b) := by
  have h1 := gadd (a - b) b
  rw [Nat.sub_add_cancel h] at h1
  rw [← h1, Int32.add_sub_cancel]
theorem gmul (a b : Nat) : nI a * nI b = nI (a * b) := by
  unfold nI
  exact (Int32.ofNat_mul a b).symm
theorem gcz0 {x : Int32} : x < 0 ↔ x.toInt < 0 := by rw [Int32.lt_iff_toInt_lt, Int32.toInt_zero]
/-- an int that is not negative is a small number -/
theorem gnat {x : Int32} (h : 0 ≤ x.toInt) : x = nI x.toInt.toNat := by
  have hb := x.toInt_lt
  have h1 : x.toInt.toNat < 2 ^ 31 := by
    simp at hb
    omega
  rw [← Int32.toInt_inj, nI_toInt h1]
  omega
theorem gnat_lt {x : Int32} : x.toInt.toNat < 2 ^ 31 := by
  have hb := x.toInt_lt
  simp at hb
  omega
def gat (l : List Int32) (i : Int32) : Int32 := if 0 ≤ i.toInt then l.getD i.toInt.toNat (-1) else -1
def gix (l : List Int32) (i : Int32) : Bool := decide (0 ≤ i.toInt ∧ i.toInt < (l.length : Int))
theorem gat_nI {l : List Int32} {k : Nat} (hk : k < 2 ^ 31) : gat l (nI k) = l.getD k (-1) := by
  unfold gat
  rw [nI_toInt hk, if_pos (by omega), Int.toNat_natCast]
def gRow (h : GH) (r q cap : Nat) (l : List Int32) : Prop := r ≠ q ∧ l.length ≤ cap ∧ cap ≤ 1000 ∧ h r = some (gob 2 [.ref q, .int (nI l.length)]) ∧ ∃ f : Nat → Int32, h q = some (gia cap f) ∧ ∀ (i : Nat) (v : Int32), l[i]? = some v → f i = v
/-- two heaps are alike but for two cells -/
def gFr (r q : Nat) (h h' : GH) : Prop := ∀ a, a ≠ r → a ≠ q → h' a = h a
theorem gFr.rf {r q : Nat} {h : GH} : gFr r q h h := fun _ _ _ => rfl
theorem gFr.tr {r q : Nat} {h h1 h2 : GH} (a : gFr r q h h1) (b : gFr r q h1 h2) : gFr r q h h2 := fun x p1 p2 => (b x p1 p2).trans (a x p1 p2)
theorem gRow.fr {h h' : GH} {r q r2 q2 cap : Nat} {l : List Int32} (hR : gRow h r q cap l) (hF : gFr r2 q2 h h') (h1 : r ≠ r2) (h2 : r ≠ q2) (h3 : q ≠ r2) (h4 : q ≠ q2) : gRow h' r q cap l := by
  obtain ⟨a1, a2, a3, a4, f, a5, a6⟩ := hR
  exact ⟨a1, a2, a3, by rw [hF r h1 h2]; exact a4, f, by rw [hF q h3 h4]; exact a5, a6⟩
theorem gix_t {l : List Int32} {i : Int32} (hl : l.length < 2 ^ 31) (h1 : ¬ i < 0) (h2 : ¬ nI l.length ≤ i) : gix l i = true := by
  rw [gcz0] at h1
  rw [Int32.le_iff_toInt_le, nI_toInt hl] at h2
  exact decide_eq_true ⟨by omega, by omega⟩
theorem gix_f1 {l : List Int32} {i : Int32} (h1 : i < 0) : gix l i = false := by
  rw [gcz0] at h1
  exact decide_eq_false (fun q => by omega)
theorem gix_f2 {l : List Int32} {i : Int32} {c : Nat} (hc : c < 2 ^ 31) (hl : l.length ≤ c) (h2 : nI c ≤ i) : gix l i = false := by
  rw [Int32.le_iff_toInt_le, nI_toInt hc] at h2
  exact decide_eq_false (fun q => by omega)
theorem gat_f {l : List Int32} {i : Int32} (h : gix l i = false) : gat l i = -1 := by
  unfold gat
  split
  · next h0 =>
    have h1 := of_decide_eq_false h
    rw [List.getD_eq_getElem?_getD, List.getElem?_eq_none (by omega)]
    rfl
  · rfl
theorem gix_spec {l : List Int32} {i : Int32} (h : gix l i = true) : ∃ k : Nat, i = nI k ∧ k < l.length ∧ gat l i = l.getD k (-1) := by
  have h1 := of_decide_eq_true h
  refine ⟨i.toInt.toNat, gnat h1.1, by omega, ?_⟩
  unfold gat
  rw [if_pos h1.1]
theorem grow_get {l : List Int32} {f : Nat → Int32} (hf : ∀ (i : Nat) (v : Int32), l[i]? = some v → f i = v) {k : Nat} (hk : k < l.length) (x : Int32) : f k = l.getD k x := by
  have h1 : l[k]? = some l[k] := List.getElem?_eq_getElem hk
  rw [hf k _ h1, List.getD_eq_getElem?_getD, h1]
  rfl
/-- a row whose items were written at k -/
theorem gRow.set {h : GH} {r q cap k : Nat} {l : List Int32} {f : Nat → Int32} (hrq : r ≠ q) (hl : l.length ≤ cap) (hc : cap ≤ 1000) (hr : h r = some (gob 2 [.ref q, .int (nI l.length)])) (hf : ∀ (i : Nat) (v : Int32), l[i]? = some v → f i = v) (x : Int32) :
    gRow (gup h q (gia cap (upd f k x))) r q cap (l.set k x) := by
  refine ⟨hrq, by rw [List.length_set]; exact hl, hc, ?_, upd f k x, gup_same _ _ _, fun i v hv => ?_⟩
  · rw [gup_ne _ _ hrq, List.length_set]; exact hr
  · unfold upd
    by_cases hik : i = k
    · subst hik
      rw [if_pos rfl]
      have hlt : i < l.length := by
        have := (List.getElem?_eq_some_iff.mp hv).1
        rwa [List.length_set] at this
      rw [List.getElem?_set_self hlt] at hv
      exact Option.some.inj hv
    · rw [if_neg hik]
      rw [List.getElem?_set_ne (fun q => hik q.symm)] at hv
      exact hf i v hv
theorem gup_fr (h : GH) (r q : Nat) (c : GC) : gFr r q h (gup h q c) := fun a _ h2 => gup_ne h c h2
theorem gup_fr' (h : GH) (r q : Nat) (c : GC) : gFr r q h (gup h r c) := fun a h1 _ => gup_ne h c h1
end
