section
-- ===== PART A: goes FIRST, ahead of the names: the tables' words, and 'selects' of the private methods out of them =====
/-- a private method of a class that the tables say can be made, by its rows of tables_1 -/
def lw_okq (q : MethodName × Nat) : Prop := (q.1.cls ≠ "java/lang/invoke/MethodHandle" ∧ q.1.cls ≠ "java/lang/invoke/VarHandle") ∧ Cond.instantiable q.1.cls q.2 ∈ tables_1 ∧ Cond.privateMethod q.1 ∈ tables_1 ∧ Cond.instanceMethod q.1 ∈ tables_1
theorem lw_p0 : lw_okq (⟨"ConditionDesk$Text", "append", "(C)Z"⟩, 2) := ⟨⟨by decide +kernel, by decide +kernel⟩, List.mem_of_getElem? (i := 31) (by decide +kernel), List.mem_of_getElem? (i := 249) (by decide +kernel), List.mem_of_getElem? (i := 250) (by decide +kernel)⟩
theorem lw_p1 : lw_okq (⟨"ConditionDesk$Condition", "answer", "()I"⟩, 7) := ⟨⟨by decide +kernel, by decide +kernel⟩, List.mem_of_getElem? (i := 165) (by decide +kernel), List.mem_of_getElem? (i := 261) (by decide +kernel), List.mem_of_getElem? (i := 262) (by decide +kernel)⟩
theorem lw_p2 : lw_okq (⟨"ConditionDesk$Worker", "workAll", "()J"⟩, 7) := ⟨⟨by decide +kernel, by decide +kernel⟩, List.mem_of_getElem? (i := 171) (by decide +kernel), List.mem_of_getElem? (i := 265) (by decide +kernel), List.mem_of_getElem? (i := 266) (by decide +kernel)⟩
theorem lw_p3 : lw_okq (⟨"ConditionDesk$Worker", "work", "(II)J"⟩, 7) := ⟨⟨by decide +kernel, by decide +kernel⟩, List.mem_of_getElem? (i := 171) (by decide +kernel), List.mem_of_getElem? (i := 269) (by decide +kernel), List.mem_of_getElem? (i := 270) (by decide +kernel)⟩
theorem lw_p4 : lw_okq (⟨"ConditionDesk$Program", "has", "(I)Z"⟩, 6) := ⟨⟨by decide +kernel, by decide +kernel⟩, List.mem_of_getElem? (i := 73) (by decide +kernel), List.mem_of_getElem? (i := 273) (by decide +kernel), List.mem_of_getElem? (i := 274) (by decide +kernel)⟩
theorem lw_p5 : lw_okq (⟨"ConditionDesk$Program", "kindAt", "(I)I"⟩, 6) := ⟨⟨by decide +kernel, by decide +kernel⟩, List.mem_of_getElem? (i := 73) (by decide +kernel), List.mem_of_getElem? (i := 277) (by decide +kernel), List.mem_of_getElem? (i := 278) (by decide +kernel)⟩
theorem lw_p6 : lw_okq (⟨"ConditionDesk$Program", "valueAt", "(I)J"⟩, 6) := ⟨⟨by decide +kernel, by decide +kernel⟩, List.mem_of_getElem? (i := 73) (by decide +kernel), List.mem_of_getElem? (i := 281) (by decide +kernel), List.mem_of_getElem? (i := 282) (by decide +kernel)⟩
theorem lw_p7 : lw_okq (⟨"ConditionDesk$Machine", "registerAt", "(J)I"⟩, 3) := ⟨⟨by decide +kernel, by decide +kernel⟩, List.mem_of_getElem? (i := 48) (by decide +kernel), List.mem_of_getElem? (i := 285) (by decide +kernel), List.mem_of_getElem? (i := 286) (by decide +kernel)⟩
theorem lw_p8 : lw_okq (⟨"ConditionDesk$Worker", "rememberedAt", "(I)J"⟩, 7) := ⟨⟨by decide +kernel, by decide +kernel⟩, List.mem_of_getElem? (i := 171) (by decide +kernel), List.mem_of_getElem? (i := 289) (by decide +kernel), List.mem_of_getElem? (i := 290) (by decide +kernel)⟩
theorem lw_p9 : lw_okq (⟨"ConditionDesk$Program", "leftOf", "(I)I"⟩, 6) := ⟨⟨by decide +kernel, by decide +kernel⟩, List.mem_of_getElem? (i := 73) (by decide +kernel), List.mem_of_getElem? (i := 293) (by decide +kernel), List.mem_of_getElem? (i := 294) (by decide +kernel)⟩
theorem lw_p10 : lw_okq (⟨"ConditionDesk$Worker", "workChanged", "(II)J"⟩, 7) := ⟨⟨by decide +kernel, by decide +kernel⟩, List.mem_of_getElem? (i := 171) (by decide +kernel), List.mem_of_getElem? (i := 297) (by decide +kernel), List.mem_of_getElem? (i := 298) (by decide +kernel)⟩
theorem lw_p11 : lw_okq (⟨"ConditionDesk$Worker", "access", "(IJ)J"⟩, 7) := ⟨⟨by decide +kernel, by decide +kernel⟩, List.mem_of_getElem? (i := 171) (by decide +kernel), List.mem_of_getElem? (i := 304) (by decide +kernel), List.mem_of_getElem? (i := 305) (by decide +kernel)⟩
theorem lw_p12 : lw_okq (⟨"ConditionDesk$Machine", "byteAt", "(I)J"⟩, 3) := ⟨⟨by decide +kernel, by decide +kernel⟩, List.mem_of_getElem? (i := 48) (by decide +kernel), List.mem_of_getElem? (i := 309) (by decide +kernel), List.mem_of_getElem? (i := 310) (by decide +kernel)⟩
theorem lw_p13 : lw_okq (⟨"ConditionDesk$Machine", "halfAt", "(I)J"⟩, 3) := ⟨⟨by decide +kernel, by decide +kernel⟩, List.mem_of_getElem? (i := 48) (by decide +kernel), List.mem_of_getElem? (i := 313) (by decide +kernel), List.mem_of_getElem? (i := 314) (by decide +kernel)⟩
theorem lw_p14 : lw_okq (⟨"ConditionDesk$Machine", "wordAt", "(I)J"⟩, 3) := ⟨⟨by decide +kernel, by decide +kernel⟩, List.mem_of_getElem? (i := 48) (by decide +kernel), List.mem_of_getElem? (i := 318) (by decide +kernel), List.mem_of_getElem? (i := 319) (by decide +kernel)⟩
theorem lw_p15 : lw_okq (⟨"ConditionDesk$Worker", "workTruth", "(II)J"⟩, 7) := ⟨⟨by decide +kernel, by decide +kernel⟩, List.mem_of_getElem? (i := 171) (by decide +kernel), List.mem_of_getElem? (i := 326) (by decide +kernel), List.mem_of_getElem? (i := 327) (by decide +kernel)⟩
def lw_privs_1 : List (MethodName × Nat) := [(⟨"ConditionDesk$Text", "append", "(C)Z"⟩, 2), (⟨"ConditionDesk$Condition", "answer", "()I"⟩, 7), (⟨"ConditionDesk$Worker", "workAll", "()J"⟩, 7), (⟨"ConditionDesk$Worker", "work", "(II)J"⟩, 7), (⟨"ConditionDesk$Program", "has", "(I)Z"⟩, 6), (⟨"ConditionDesk$Program", "kindAt", "(I)I"⟩, 6), (⟨"ConditionDesk$Program", "valueAt", "(I)J"⟩, 6), (⟨"ConditionDesk$Machine", "registerAt", "(J)I"⟩, 3), (⟨"ConditionDesk$Worker", "rememberedAt", "(I)J"⟩, 7), (⟨"ConditionDesk$Program", "leftOf", "(I)I"⟩, 6), (⟨"ConditionDesk$Worker", "workChanged", "(II)J"⟩, 7), (⟨"ConditionDesk$Worker", "access", "(IJ)J"⟩, 7), (⟨"ConditionDesk$Machine", "byteAt", "(I)J"⟩, 3), (⟨"ConditionDesk$Machine", "halfAt", "(I)J"⟩, 3), (⟨"ConditionDesk$Machine", "wordAt", "(I)J"⟩, 3), (⟨"ConditionDesk$Worker", "workTruth", "(II)J"⟩, 7)]
theorem lw_r1 : ∀ q ∈ lw_privs_1, lw_okq q := List.forall_mem_cons.mpr ⟨lw_p0, List.forall_mem_cons.mpr ⟨lw_p1, List.forall_mem_cons.mpr ⟨lw_p2, List.forall_mem_cons.mpr ⟨lw_p3, List.forall_mem_cons.mpr ⟨lw_p4, List.forall_mem_cons.mpr ⟨lw_p5, List.forall_mem_cons.mpr ⟨lw_p6, List.forall_mem_cons.mpr ⟨lw_p7, List.forall_mem_cons.mpr ⟨lw_p8, List.forall_mem_cons.mpr ⟨lw_p9, List.forall_mem_cons.mpr ⟨lw_p10, List.forall_mem_cons.mpr ⟨lw_p11, List.forall_mem_cons.mpr ⟨lw_p12, List.forall_mem_cons.mpr ⟨lw_p13, List.forall_mem_cons.mpr ⟨lw_p14, List.forall_mem_cons.mpr ⟨lw_p15, fun _ h => absurd h List.not_mem_nil⟩⟩⟩⟩⟩⟩⟩⟩⟩⟩⟩⟩⟩⟩⟩⟩
theorem lw_p16 : lw_okq (⟨"ConditionDesk$Program", "rightOf", "(I)I"⟩, 6) := ⟨⟨by decide +kernel, by decide +kernel⟩, List.mem_of_getElem? (i := 73) (by decide +kernel), List.mem_of_getElem? (i := 330) (by decide +kernel), List.mem_of_getElem? (i := 331) (by decide +kernel)⟩
theorem lw_p17 : lw_okq (⟨"ConditionDesk$Worker", "workBetween", "(II)J"⟩, 7) := ⟨⟨by decide +kernel, by decide +kernel⟩, List.mem_of_getElem? (i := 171) (by decide +kernel), List.mem_of_getElem? (i := 334) (by decide +kernel), List.mem_of_getElem? (i := 335) (by decide +kernel)⟩
theorem lw_p18 : lw_okq (⟨"ConditionDesk$Worker", "divide", "(IJJ)J"⟩, 7) := ⟨⟨by decide +kernel, by decide +kernel⟩, List.mem_of_getElem? (i := 171) (by decide +kernel), List.mem_of_getElem? (i := 338) (by decide +kernel), List.mem_of_getElem? (i := 339) (by decide +kernel)⟩
theorem lw_p19 : lw_okq (⟨"ConditionDesk$Worker", "remember", "()V"⟩, 7) := ⟨⟨by decide +kernel, by decide +kernel⟩, List.mem_of_getElem? (i := 171) (by decide +kernel), List.mem_of_getElem? (i := 352) (by decide +kernel), List.mem_of_getElem? (i := 353) (by decide +kernel)⟩
theorem lw_p20 : lw_okq (⟨"ConditionDesk", "conditionsThere", "()I"⟩, 5) := ⟨⟨by decide +kernel, by decide +kernel⟩, List.mem_of_getElem? (i := 23) (by decide +kernel), List.mem_of_getElem? (i := 363) (by decide +kernel), List.mem_of_getElem? (i := 364) (by decide +kernel)⟩
theorem lw_p21 : lw_okq (⟨"ConditionDesk", "conditionAt", "(I)LConditionDesk$Condition;"⟩, 5) := ⟨⟨by decide +kernel, by decide +kernel⟩, List.mem_of_getElem? (i := 23) (by decide +kernel), List.mem_of_getElem? (i := 376) (by decide +kernel), List.mem_of_getElem? (i := 377) (by decide +kernel)⟩
theorem lw_p22 : lw_okq (⟨"java/lang/Throwable", "fillInStackTrace", "(I)Ljava/lang/Throwable;"⟩, 6) := ⟨⟨by decide +kernel, by decide +kernel⟩, List.mem_of_getElem? (i := 417) (by decide +kernel), List.mem_of_getElem? (i := 415) (by decide +kernel), List.mem_of_getElem? (i := 416) (by decide +kernel)⟩
theorem lw_p23 : lw_okq (⟨"ConditionDesk$Builder", "build", "()I"⟩, 7) := ⟨⟨by decide +kernel, by decide +kernel⟩, List.mem_of_getElem? (i := 67) (by decide +kernel), List.mem_of_getElem? (i := 447) (by decide +kernel), List.mem_of_getElem? (i := 448) (by decide +kernel)⟩
theorem lw_p24 : lw_okq (⟨"ConditionDesk$Builder", "restart", "()V"⟩, 7) := ⟨⟨by decide +kernel, by decide +kernel⟩, List.mem_of_getElem? (i := 67) (by decide +kernel), List.mem_of_getElem? (i := 451) (by decide +kernel), List.mem_of_getElem? (i := 452) (by decide +kernel)⟩
theorem lw_p25 : lw_okq (⟨"ConditionDesk$Tokens", "restart", "()V"⟩, 5) := ⟨⟨by decide +kernel, by decide +kernel⟩, List.mem_of_getElem? (i := 116) (by decide +kernel), List.mem_of_getElem? (i := 455) (by decide +kernel), List.mem_of_getElem? (i := 456) (by decide +kernel)⟩
theorem lw_p26 : lw_okq (⟨"ConditionDesk$Program", "clear", "()V"⟩, 6) := ⟨⟨by decide +kernel, by decide +kernel⟩, List.mem_of_getElem? (i := 73) (by decide +kernel), List.mem_of_getElem? (i := 459) (by decide +kernel), List.mem_of_getElem? (i := 460) (by decide +kernel)⟩
theorem lw_p27 : lw_okq (⟨"ConditionDesk$Pile", "clear", "()V"⟩, 2) := ⟨⟨by decide +kernel, by decide +kernel⟩, List.mem_of_getElem? (i := 102) (by decide +kernel), List.mem_of_getElem? (i := 463) (by decide +kernel), List.mem_of_getElem? (i := 464) (by decide +kernel)⟩
theorem lw_p28 : lw_okq (⟨"ConditionDesk$Tokens", "next", "()V"⟩, 5) := ⟨⟨by decide +kernel, by decide +kernel⟩, List.mem_of_getElem? (i := 116) (by decide +kernel), List.mem_of_getElem? (i := 467) (by decide +kernel), List.mem_of_getElem? (i := 468) (by decide +kernel)⟩
theorem lw_p29 : lw_okq (⟨"ConditionDesk$Tokens", "skipBlanks", "()V"⟩, 5) := ⟨⟨by decide +kernel, by decide +kernel⟩, List.mem_of_getElem? (i := 116) (by decide +kernel), List.mem_of_getElem? (i := 471) (by decide +kernel), List.mem_of_getElem? (i := 472) (by decide +kernel)⟩
theorem lw_p30 : lw_okq (⟨"ConditionDesk$Text", "letterAt", "(I)C"⟩, 2) := ⟨⟨by decide +kernel, by decide +kernel⟩, List.mem_of_getElem? (i := 31) (by decide +kernel), List.mem_of_getElem? (i := 475) (by decide +kernel), List.mem_of_getElem? (i := 476) (by decide +kernel)⟩
theorem lw_p31 : lw_okq (⟨"ConditionDesk$Tokens", "readNumber", "()V"⟩, 5) := ⟨⟨by decide +kernel, by decide +kernel⟩, List.mem_of_getElem? (i := 116) (by decide +kernel), List.mem_of_getElem? (i := 482) (by decide +kernel), List.mem_of_getElem? (i := 483) (by decide +kernel)⟩
def lw_privs_2 : List (MethodName × Nat) := [(⟨"ConditionDesk$Program", "rightOf", "(I)I"⟩, 6), (⟨"ConditionDesk$Worker", "workBetween", "(II)J"⟩, 7), (⟨"ConditionDesk$Worker", "divide", "(IJJ)J"⟩, 7), (⟨"ConditionDesk$Worker", "remember", "()V"⟩, 7), (⟨"ConditionDesk", "conditionsThere", "()I"⟩, 5), (⟨"ConditionDesk", "conditionAt", "(I)LConditionDesk$Condition;"⟩, 5), (⟨"java/lang/Throwable", "fillInStackTrace", "(I)Ljava/lang/Throwable;"⟩, 6), (⟨"ConditionDesk$Builder", "build", "()I"⟩, 7), (⟨"ConditionDesk$Builder", "restart", "()V"⟩, 7), (⟨"ConditionDesk$Tokens", "restart", "()V"⟩, 5), (⟨"ConditionDesk$Program", "clear", "()V"⟩, 6), (⟨"ConditionDesk$Pile", "clear", "()V"⟩, 2), (⟨"ConditionDesk$Tokens", "next", "()V"⟩, 5), (⟨"ConditionDesk$Tokens", "skipBlanks", "()V"⟩, 5), (⟨"ConditionDesk$Text", "letterAt", "(I)C"⟩, 2), (⟨"ConditionDesk$Tokens", "readNumber", "()V"⟩, 5)]
theorem lw_r2 : ∀ q ∈ lw_privs_2, lw_okq q := List.forall_mem_cons.mpr ⟨lw_p16, List.forall_mem_cons.mpr ⟨lw_p17, List.forall_mem_cons.mpr ⟨lw_p18, List.forall_mem_cons.mpr ⟨lw_p19, List.forall_mem_cons.mpr ⟨lw_p20, List.forall_mem_cons.mpr ⟨lw_p21, List.forall_mem_cons.mpr ⟨lw_p22, List.forall_mem_cons.mpr ⟨lw_p23, List.forall_mem_cons.mpr ⟨lw_p24, List.forall_mem_cons.mpr ⟨lw_p25, List.forall_mem_cons.mpr ⟨lw_p26, List.forall_mem_cons.mpr ⟨lw_p27, List.forall_mem_cons.mpr ⟨lw_p28, List.forall_mem_cons.mpr ⟨lw_p29, List.forall_mem_cons.mpr ⟨lw_p30, List.forall_mem_cons.mpr ⟨lw_p31, fun _ h => absurd h List.not_mem_nil⟩⟩⟩⟩⟩⟩⟩⟩⟩⟩⟩⟩⟩⟩⟩⟩
theorem lw_p32 : lw_okq (⟨"ConditionDesk$Tokens", "readWord", "()V"⟩, 5) := ⟨⟨by decide +kernel, by decide +kernel⟩, List.mem_of_getElem? (i := 116) (by decide +kernel), List.mem_of_getElem? (i := 499) (by decide +kernel), List.mem_of_getElem? (i := 500) (by decide +kernel)⟩
theorem lw_p33 : lw_okq (⟨"ConditionDesk$Tokens", "registerOfWord", "()I"⟩, 5) := ⟨⟨by decide +kernel, by decide +kernel⟩, List.mem_of_getElem? (i := 116) (by decide +kernel), List.mem_of_getElem? (i := 503) (by decide +kernel), List.mem_of_getElem? (i := 504) (by decide +kernel)⟩
theorem lw_p34 : lw_okq (⟨"ConditionDesk$Tokens", "isWord", "(Ljava/lang/String;)Z"⟩, 5) := ⟨⟨by decide +kernel, by decide +kernel⟩, List.mem_of_getElem? (i := 116) (by decide +kernel), List.mem_of_getElem? (i := 508) (by decide +kernel), List.mem_of_getElem? (i := 509) (by decide +kernel)⟩
theorem lw_p35 : lw_okq (⟨"ConditionDesk$Tokens", "kindOfWord", "()I"⟩, 5) := ⟨⟨by decide +kernel, by decide +kernel⟩, List.mem_of_getElem? (i := 116) (by decide +kernel), List.mem_of_getElem? (i := 561) (by decide +kernel), List.mem_of_getElem? (i := 562) (by decide +kernel)⟩
theorem lw_p36 : lw_okq (⟨"ConditionDesk$Tokens", "readSign", "()V"⟩, 5) := ⟨⟨by decide +kernel, by decide +kernel⟩, List.mem_of_getElem? (i := 116) (by decide +kernel), List.mem_of_getElem? (i := 570) (by decide +kernel), List.mem_of_getElem? (i := 571) (by decide +kernel)⟩
theorem lw_p37 : lw_okq (⟨"ConditionDesk$Builder", "faultOf", "(I)I"⟩, 7) := ⟨⟨by decide +kernel, by decide +kernel⟩, List.mem_of_getElem? (i := 67) (by decide +kernel), List.mem_of_getElem? (i := 583) (by decide +kernel), List.mem_of_getElem? (i := 584) (by decide +kernel)⟩
theorem lw_p38 : lw_okq (⟨"ConditionDesk$Builder", "fits", "(I)Z"⟩, 7) := ⟨⟨by decide +kernel, by decide +kernel⟩, List.mem_of_getElem? (i := 67) (by decide +kernel), List.mem_of_getElem? (i := 587) (by decide +kernel), List.mem_of_getElem? (i := 588) (by decide +kernel)⟩
theorem lw_p39 : lw_okq (⟨"ConditionDesk$Builder", "followsOperand", "(I)Z"⟩, 7) := ⟨⟨by decide +kernel, by decide +kernel⟩, List.mem_of_getElem? (i := 67) (by decide +kernel), List.mem_of_getElem? (i := 594) (by decide +kernel), List.mem_of_getElem? (i := 595) (by decide +kernel)⟩
theorem lw_p40 : lw_okq (⟨"ConditionDesk$Pile", "top", "()I"⟩, 2) := ⟨⟨by decide +kernel, by decide +kernel⟩, List.mem_of_getElem? (i := 102) (by decide +kernel), List.mem_of_getElem? (i := 598) (by decide +kernel), List.mem_of_getElem? (i := 599) (by decide +kernel)⟩
theorem lw_p41 : lw_okq (⟨"ConditionDesk$Builder", "settle", "(I)V"⟩, 7) := ⟨⟨by decide +kernel, by decide +kernel⟩, List.mem_of_getElem? (i := 67) (by decide +kernel), List.mem_of_getElem? (i := 611) (by decide +kernel), List.mem_of_getElem? (i := 612) (by decide +kernel)⟩
theorem lw_p42 : lw_okq (⟨"ConditionDesk$Builder", "settleOne", "()V"⟩, 7) := ⟨⟨by decide +kernel, by decide +kernel⟩, List.mem_of_getElem? (i := 67) (by decide +kernel), List.mem_of_getElem? (i := 618) (by decide +kernel), List.mem_of_getElem? (i := 619) (by decide +kernel)⟩
theorem lw_p43 : lw_okq (⟨"ConditionDesk$Pile", "pop", "()I"⟩, 2) := ⟨⟨by decide +kernel, by decide +kernel⟩, List.mem_of_getElem? (i := 102) (by decide +kernel), List.mem_of_getElem? (i := 622) (by decide +kernel), List.mem_of_getElem? (i := 623) (by decide +kernel)⟩
theorem lw_p44 : lw_okq (⟨"ConditionDesk$Program", "add", "(IIIJ)I"⟩, 6) := ⟨⟨by decide +kernel, by decide +kernel⟩, List.mem_of_getElem? (i := 73) (by decide +kernel), List.mem_of_getElem? (i := 626) (by decide +kernel), List.mem_of_getElem? (i := 627) (by decide +kernel)⟩
theorem lw_p45 : lw_okq (⟨"ConditionDesk$Pile", "push", "(I)V"⟩, 2) := ⟨⟨by decide +kernel, by decide +kernel⟩, List.mem_of_getElem? (i := 102) (by decide +kernel), List.mem_of_getElem? (i := 630) (by decide +kernel), List.mem_of_getElem? (i := 631) (by decide +kernel)⟩
theorem lw_p46 : lw_okq (⟨"ConditionDesk$Builder", "take", "(I)V"⟩, 7) := ⟨⟨by decide +kernel, by decide +kernel⟩, List.mem_of_getElem? (i := 67) (by decide +kernel), List.mem_of_getElem? (i := 634) (by decide +kernel), List.mem_of_getElem? (i := 635) (by decide +kernel)⟩
theorem lw_p47 : lw_okq (⟨"ConditionDesk$Builder", "takeOpening", "(I)V"⟩, 7) := ⟨⟨by decide +kernel, by decide +kernel⟩, List.mem_of_getElem? (i := 67) (by decide +kernel), List.mem_of_getElem? (i := 638) (by decide +kernel), List.mem_of_getElem? (i := 639) (by decide +kernel)⟩
def lw_privs_3 : List (MethodName × Nat) := [(⟨"ConditionDesk$Tokens", "readWord", "()V"⟩, 5), (⟨"ConditionDesk$Tokens", "registerOfWord", "()I"⟩, 5), (⟨"ConditionDesk$Tokens", "isWord", "(Ljava/lang/String;)Z"⟩, 5), (⟨"ConditionDesk$Tokens", "kindOfWord", "()I"⟩, 5), (⟨"ConditionDesk$Tokens", "readSign", "()V"⟩, 5), (⟨"ConditionDesk$Builder", "faultOf", "(I)I"⟩, 7), (⟨"ConditionDesk$Builder", "fits", "(I)Z"⟩, 7), (⟨"ConditionDesk$Builder", "followsOperand", "(I)Z"⟩, 7), (⟨"ConditionDesk$Pile", "top", "()I"⟩, 2), (⟨"ConditionDesk$Builder", "settle", "(I)V"⟩, 7), (⟨"ConditionDesk$Builder", "settleOne", "()V"⟩, 7), (⟨"ConditionDesk$Pile", "pop", "()I"⟩, 2), (⟨"ConditionDesk$Program", "add", "(IIIJ)I"⟩, 6), (⟨"ConditionDesk$Pile", "push", "(I)V"⟩, 2), (⟨"ConditionDesk$Builder", "take", "(I)V"⟩, 7), (⟨"ConditionDesk$Builder", "takeOpening", "(I)V"⟩, 7)]
theorem lw_r3 : ∀ q ∈ lw_privs_3, lw_okq q := List.forall_mem_cons.mpr ⟨lw_p32, List.forall_mem_cons.mpr ⟨lw_p33, List.forall_mem_cons.mpr ⟨lw_p34, List.forall_mem_cons.mpr ⟨lw_p35, List.forall_mem_cons.mpr ⟨lw_p36, List.forall_mem_cons.mpr ⟨lw_p37, List.forall_mem_cons.mpr ⟨lw_p38, List.forall_mem_cons.mpr ⟨lw_p39, List.forall_mem_cons.mpr ⟨lw_p40, List.forall_mem_cons.mpr ⟨lw_p41, List.forall_mem_cons.mpr ⟨lw_p42, List.forall_mem_cons.mpr ⟨lw_p43, List.forall_mem_cons.mpr ⟨lw_p44, List.forall_mem_cons.mpr ⟨lw_p45, List.forall_mem_cons.mpr ⟨lw_p46, List.forall_mem_cons.mpr ⟨lw_p47, fun _ h => absurd h List.not_mem_nil⟩⟩⟩⟩⟩⟩⟩⟩⟩⟩⟩⟩⟩⟩⟩⟩
theorem lw_p48 : lw_okq (⟨"ConditionDesk$Builder", "takeBehindOperand", "(I)V"⟩, 7) := ⟨⟨by decide +kernel, by decide +kernel⟩, List.mem_of_getElem? (i := 67) (by decide +kernel), List.mem_of_getElem? (i := 642) (by decide +kernel), List.mem_of_getElem? (i := 643) (by decide +kernel)⟩
theorem lw_p49 : lw_okq (⟨"ConditionDesk$Builder", "takeBeforeOperand", "(I)V"⟩, 7) := ⟨⟨by decide +kernel, by decide +kernel⟩, List.mem_of_getElem? (i := 67) (by decide +kernel), List.mem_of_getElem? (i := 649) (by decide +kernel), List.mem_of_getElem? (i := 650) (by decide +kernel)⟩
theorem lw_p50 : lw_okq (⟨"ConditionDesk$Text", "clear", "()V"⟩, 2) := ⟨⟨by decide +kernel, by decide +kernel⟩, List.mem_of_getElem? (i := 31) (by decide +kernel), List.mem_of_getElem? (i := 653) (by decide +kernel), List.mem_of_getElem? (i := 654) (by decide +kernel)⟩
theorem lw_p51 : lw_okq (⟨"ConditionDesk$Condition", "begin", "(LConditionDesk$Program;)V"⟩, 7) := ⟨⟨by decide +kernel, by decide +kernel⟩, List.mem_of_getElem? (i := 165) (by decide +kernel), List.mem_of_getElem? (i := 657) (by decide +kernel), List.mem_of_getElem? (i := 658) (by decide +kernel)⟩
theorem lw_p52 : lw_okq (⟨"ConditionDesk$Worker", "begin", "(LConditionDesk$Program;)V"⟩, 7) := ⟨⟨by decide +kernel, by decide +kernel⟩, List.mem_of_getElem? (i := 171) (by decide +kernel), List.mem_of_getElem? (i := 661) (by decide +kernel), List.mem_of_getElem? (i := 662) (by decide +kernel)⟩
theorem lw_p53 : lw_okq (⟨"ConditionDesk$Program", "copyFrom", "(LConditionDesk$Program;)V"⟩, 6) := ⟨⟨by decide +kernel, by decide +kernel⟩, List.mem_of_getElem? (i := 73) (by decide +kernel), List.mem_of_getElem? (i := 665) (by decide +kernel), List.mem_of_getElem? (i := 666) (by decide +kernel)⟩
theorem lw_p54 : lw_okq (⟨"ConditionDesk$Machine", "putRegister", "(II)V"⟩, 3) := ⟨⟨by decide +kernel, by decide +kernel⟩, List.mem_of_getElem? (i := 48) (by decide +kernel), List.mem_of_getElem? (i := 685) (by decide +kernel), List.mem_of_getElem? (i := 686) (by decide +kernel)⟩
theorem lw_p55 : lw_okq (⟨"ConditionDesk$Machine", "putCell", "(II)V"⟩, 3) := ⟨⟨by decide +kernel, by decide +kernel⟩, List.mem_of_getElem? (i := 48) (by decide +kernel), List.mem_of_getElem? (i := 697) (by decide +kernel), List.mem_of_getElem? (i := 698) (by decide +kernel)⟩
theorem lw_p56 : lw_okq (⟨"ConditionDesk$Condition", "tell", "(I)J"⟩, 7) := ⟨⟨by decide +kernel, by decide +kernel⟩, List.mem_of_getElem? (i := 165) (by decide +kernel), List.mem_of_getElem? (i := 741) (by decide +kernel), List.mem_of_getElem? (i := 742) (by decide +kernel)⟩
theorem lw_p57 : lw_okq (⟨"ConditionDeskModel", "refuses", "(ZZ)Z"⟩, 41) := ⟨⟨by decide +kernel, by decide +kernel⟩, List.mem_of_getElem? (i := 745) (by decide +kernel), List.mem_of_getElem? (i := 892) (by decide +kernel), List.mem_of_getElem? (i := 893) (by decide +kernel)⟩
theorem lw_p58 : lw_okq (⟨"ConditionDeskModel", "read", "()I"⟩, 41) := ⟨⟨by decide +kernel, by decide +kernel⟩, List.mem_of_getElem? (i := 745) (by decide +kernel), List.mem_of_getElem? (i := 896) (by decide +kernel), List.mem_of_getElem? (i := 897) (by decide +kernel)⟩
theorem lw_p59 : lw_okq (⟨"ConditionDeskModel", "charAt", "(I)I"⟩, 41) := ⟨⟨by decide +kernel, by decide +kernel⟩, List.mem_of_getElem? (i := 745) (by decide +kernel), List.mem_of_getElem? (i := 900) (by decide +kernel), List.mem_of_getElem? (i := 901) (by decide +kernel)⟩
theorem lw_p60 : lw_okq (⟨"ConditionDeskModel", "scan", "()V"⟩, 41) := ⟨⟨by decide +kernel, by decide +kernel⟩, List.mem_of_getElem? (i := 745) (by decide +kernel), List.mem_of_getElem? (i := 904) (by decide +kernel), List.mem_of_getElem? (i := 905) (by decide +kernel)⟩
theorem lw_p61 : lw_okq (⟨"ConditionDeskModel", "scanNumber", "()V"⟩, 41) := ⟨⟨by decide +kernel, by decide +kernel⟩, List.mem_of_getElem? (i := 745) (by decide +kernel), List.mem_of_getElem? (i := 914) (by decide +kernel), List.mem_of_getElem? (i := 915) (by decide +kernel)⟩
theorem lw_p62 : lw_okq (⟨"ConditionDeskModel", "scanWord", "()V"⟩, 41) := ⟨⟨by decide +kernel, by decide +kernel⟩, List.mem_of_getElem? (i := 745) (by decide +kernel), List.mem_of_getElem? (i := 921) (by decide +kernel), List.mem_of_getElem? (i := 922) (by decide +kernel)⟩
theorem lw_p63 : lw_okq (⟨"ConditionDeskModel", "is", "(IIJ)Z"⟩, 41) := ⟨⟨by decide +kernel, by decide +kernel⟩, List.mem_of_getElem? (i := 745) (by decide +kernel), List.mem_of_getElem? (i := 927) (by decide +kernel), List.mem_of_getElem? (i := 928) (by decide +kernel)⟩
def lw_privs_4 : List (MethodName × Nat) := [(⟨"ConditionDesk$Builder", "takeBehindOperand", "(I)V"⟩, 7), (⟨"ConditionDesk$Builder", "takeBeforeOperand", "(I)V"⟩, 7), (⟨"ConditionDesk$Text", "clear", "()V"⟩, 2), (⟨"ConditionDesk$Condition", "begin", "(LConditionDesk$Program;)V"⟩, 7), (⟨"ConditionDesk$Worker", "begin", "(LConditionDesk$Program;)V"⟩, 7), (⟨"ConditionDesk$Program", "copyFrom", "(LConditionDesk$Program;)V"⟩, 6), (⟨"ConditionDesk$Machine", "putRegister", "(II)V"⟩, 3), (⟨"ConditionDesk$Machine", "putCell", "(II)V"⟩, 3), (⟨"ConditionDesk$Condition", "tell", "(I)J"⟩, 7), (⟨"ConditionDeskModel", "refuses", "(ZZ)Z"⟩, 41), (⟨"ConditionDeskModel", "read", "()I"⟩, 41), (⟨"ConditionDeskModel", "charAt", "(I)I"⟩, 41), (⟨"ConditionDeskModel", "scan", "()V"⟩, 41), (⟨"ConditionDeskModel", "scanNumber", "()V"⟩, 41), (⟨"ConditionDeskModel", "scanWord", "()V"⟩, 41), (⟨"ConditionDeskModel", "is", "(IIJ)Z"⟩, 41)]
theorem lw_r4 : ∀ q ∈ lw_privs_4, lw_okq q := List.forall_mem_cons.mpr ⟨lw_p48, List.forall_mem_cons.mpr ⟨lw_p49, List.forall_mem_cons.mpr ⟨lw_p50, List.forall_mem_cons.mpr ⟨lw_p51, List.forall_mem_cons.mpr ⟨lw_p52, List.forall_mem_cons.mpr ⟨lw_p53, List.forall_mem_cons.mpr ⟨lw_p54, List.forall_mem_cons.mpr ⟨lw_p55, List.forall_mem_cons.mpr ⟨lw_p56, List.forall_mem_cons.mpr ⟨lw_p57, List.forall_mem_cons.mpr ⟨lw_p58, List.forall_mem_cons.mpr ⟨lw_p59, List.forall_mem_cons.mpr ⟨lw_p60, List.forall_mem_cons.mpr ⟨lw_p61, List.forall_mem_cons.mpr ⟨lw_p62, List.forall_mem_cons.mpr ⟨lw_p63, fun _ h => absurd h List.not_mem_nil⟩⟩⟩⟩⟩⟩⟩⟩⟩⟩⟩⟩⟩⟩⟩⟩
theorem lw_p64 : lw_okq (⟨"ConditionDeskModel", "meet", "(II)V"⟩, 41) := ⟨⟨by decide +kernel, by decide +kernel⟩, List.mem_of_getElem? (i := 745) (by decide +kernel), List.mem_of_getElem? (i := 943) (by decide +kernel), List.mem_of_getElem? (i := 944) (by decide +kernel)⟩
theorem lw_p65 : lw_okq (⟨"ConditionDeskModel", "shut", "()V"⟩, 41) := ⟨⟨by decide +kernel, by decide +kernel⟩, List.mem_of_getElem? (i := 745) (by decide +kernel), List.mem_of_getElem? (i := 947) (by decide +kernel), List.mem_of_getElem? (i := 948) (by decide +kernel)⟩
theorem lw_p66 : lw_okq (⟨"ConditionDeskModel", "take", "()V"⟩, 41) := ⟨⟨by decide +kernel, by decide +kernel⟩, List.mem_of_getElem? (i := 745) (by decide +kernel), List.mem_of_getElem? (i := 951) (by decide +kernel), List.mem_of_getElem? (i := 952) (by decide +kernel)⟩
theorem lw_p67 : lw_okq (⟨"ConditionDeskModel", "asking", "(I)I"⟩, 41) := ⟨⟨by decide +kernel, by decide +kernel⟩, List.mem_of_getElem? (i := 745) (by decide +kernel), List.mem_of_getElem? (i := 982) (by decide +kernel), List.mem_of_getElem? (i := 983) (by decide +kernel)⟩
theorem lw_p68 : lw_okq (⟨"ConditionDeskModel", "work", "(III)J"⟩, 41) := ⟨⟨by decide +kernel, by decide +kernel⟩, List.mem_of_getElem? (i := 745) (by decide +kernel), List.mem_of_getElem? (i := 986) (by decide +kernel), List.mem_of_getElem? (i := 987) (by decide +kernel)⟩
theorem lw_p69 : lw_okq (⟨"ConditionDeskModel", "begin", "(II)V"⟩, 41) := ⟨⟨by decide +kernel, by decide +kernel⟩, List.mem_of_getElem? (i := 745) (by decide +kernel), List.mem_of_getElem? (i := 990) (by decide +kernel), List.mem_of_getElem? (i := 991) (by decide +kernel)⟩
theorem lw_p70 : lw_okq (⟨"ConditionDeskModel", "enter", "(II)V"⟩, 41) := ⟨⟨by decide +kernel, by decide +kernel⟩, List.mem_of_getElem? (i := 745) (by decide +kernel), List.mem_of_getElem? (i := 994) (by decide +kernel), List.mem_of_getElem? (i := 995) (by decide +kernel)⟩
theorem lw_p71 : lw_okq (⟨"ConditionDeskModel", "least", "(II)I"⟩, 41) := ⟨⟨by decide +kernel, by decide +kernel⟩, List.mem_of_getElem? (i := 745) (by decide +kernel), List.mem_of_getElem? (i := 998) (by decide +kernel), List.mem_of_getElem? (i := 999) (by decide +kernel)⟩
theorem lw_p72 : lw_okq (⟨"ConditionDeskModel", "give", "(J)V"⟩, 41) := ⟨⟨by decide +kernel, by decide +kernel⟩, List.mem_of_getElem? (i := 745) (by decide +kernel), List.mem_of_getElem? (i := 1005) (by decide +kernel), List.mem_of_getElem? (i := 1006) (by decide +kernel)⟩
theorem lw_p73 : lw_okq (⟨"ConditionDeskModel", "half", "(I)V"⟩, 41) := ⟨⟨by decide +kernel, by decide +kernel⟩, List.mem_of_getElem? (i := 745) (by decide +kernel), List.mem_of_getElem? (i := 1009) (by decide +kernel), List.mem_of_getElem? (i := 1010) (by decide +kernel)⟩
theorem lw_p74 : lw_okq (⟨"ConditionDeskModel", "join", "(II)V"⟩, 41) := ⟨⟨by decide +kernel, by decide +kernel⟩, List.mem_of_getElem? (i := 745) (by decide +kernel), List.mem_of_getElem? (i := 1013) (by decide +kernel), List.mem_of_getElem? (i := 1014) (by decide +kernel)⟩
theorem lw_p75 : lw_okq (⟨"ConditionDeskModel", "access", "(IJ)V"⟩, 41) := ⟨⟨by decide +kernel, by decide +kernel⟩, List.mem_of_getElem? (i := 745) (by decide +kernel), List.mem_of_getElem? (i := 1021) (by decide +kernel), List.mem_of_getElem? (i := 1022) (by decide +kernel)⟩
theorem lw_p76 : lw_okq (⟨"ConditionDeskModel", "fail", "(I)V"⟩, 41) := ⟨⟨by decide +kernel, by decide +kernel⟩, List.mem_of_getElem? (i := 745) (by decide +kernel), List.mem_of_getElem? (i := 1025) (by decide +kernel), List.mem_of_getElem? (i := 1026) (by decide +kernel)⟩
theorem lw_p77 : lw_okq (⟨"ConditionDeskModel", "remember", "(I)V"⟩, 41) := ⟨⟨by decide +kernel, by decide +kernel⟩, List.mem_of_getElem? (i := 745) (by decide +kernel), List.mem_of_getElem? (i := 1033) (by decide +kernel), List.mem_of_getElem? (i := 1034) (by decide +kernel)⟩
def lw_privs_5 : List (MethodName × Nat) := [(⟨"ConditionDeskModel", "meet", "(II)V"⟩, 41), (⟨"ConditionDeskModel", "shut", "()V"⟩, 41), (⟨"ConditionDeskModel", "take", "()V"⟩, 41), (⟨"ConditionDeskModel", "asking", "(I)I"⟩, 41), (⟨"ConditionDeskModel", "work", "(III)J"⟩, 41), (⟨"ConditionDeskModel", "begin", "(II)V"⟩, 41), (⟨"ConditionDeskModel", "enter", "(II)V"⟩, 41), (⟨"ConditionDeskModel", "least", "(II)I"⟩, 41), (⟨"ConditionDeskModel", "give", "(J)V"⟩, 41), (⟨"ConditionDeskModel", "half", "(I)V"⟩, 41), (⟨"ConditionDeskModel", "join", "(II)V"⟩, 41), (⟨"ConditionDeskModel", "access", "(IJ)V"⟩, 41), (⟨"ConditionDeskModel", "fail", "(I)V"⟩, 41), (⟨"ConditionDeskModel", "remember", "(I)V"⟩, 41)]
theorem lw_r5 : ∀ q ∈ lw_privs_5, lw_okq q := List.forall_mem_cons.mpr ⟨lw_p64, List.forall_mem_cons.mpr ⟨lw_p65, List.forall_mem_cons.mpr ⟨lw_p66, List.forall_mem_cons.mpr ⟨lw_p67, List.forall_mem_cons.mpr ⟨lw_p68, List.forall_mem_cons.mpr ⟨lw_p69, List.forall_mem_cons.mpr ⟨lw_p70, List.forall_mem_cons.mpr ⟨lw_p71, List.forall_mem_cons.mpr ⟨lw_p72, List.forall_mem_cons.mpr ⟨lw_p73, List.forall_mem_cons.mpr ⟨lw_p74, List.forall_mem_cons.mpr ⟨lw_p75, List.forall_mem_cons.mpr ⟨lw_p76, List.forall_mem_cons.mpr ⟨lw_p77, fun _ h => absurd h List.not_mem_nil⟩⟩⟩⟩⟩⟩⟩⟩⟩⟩⟩⟩⟩⟩
def lw_privs : List (MethodName × Nat) := lw_privs_1 ++ (lw_privs_2 ++ (lw_privs_3 ++ (lw_privs_4 ++ (lw_privs_5))))
def lw_tbl : List Cond := k2_sels lw_privs ++ tables_1
theorem lw_privs_ok : ∀ q ∈ lw_privs, lw_okq q := by
  show ∀ q ∈ lw_privs_1 ++ (lw_privs_2 ++ (lw_privs_3 ++ (lw_privs_4 ++ (lw_privs_5)))), lw_okq q
  exact List.forall_mem_append.mpr ⟨lw_r1, List.forall_mem_append.mpr ⟨lw_r2, List.forall_mem_append.mpr ⟨lw_r3, List.forall_mem_append.mpr ⟨lw_r4, lw_r5⟩⟩⟩⟩
end
section
/-! AN ABSTRACT MACHINE over the kit's rows: a frame's locals and stack, and the heap, are lists; what it computes, the machine does. Part 1: locals, stack, branches. -/
abbrev xm_L : Type := List (Nat × Value)
/-- a reference of the abstract machine is a place in its heap; r gives the address -/
def xm_v (r : Nat → Nat) : Value → Value
  | .ref i => .ref (r i)
  | v => v
theorem xm_v_cat (r : Nat → Nat) (v : Value) : (xm_v r v).category = v.category := by cases v <;> rfl
def xm_lm (r : Nat → Nat) (ls : xm_L) : xm_L := ls.map (fun q => (q.1, xm_v r q.2))
def xm_ld (ls : xm_L) (i : Nat) : Option Value := (ls.find? (fun q => q.1 == i)).map (fun q => q.2)
theorem xm_ld_mem {ls : xm_L} {i : Nat} {v : Value} (h : xm_ld ls i = some v) : (i, v) ∈ ls := by
  unfold xm_ld at h
  cases hf : ls.find? (fun q => q.1 == i) with
  | none => rw [hf] at h; cases h
  | some q =>
    rw [hf] at h
    have hq : q.1 = i := by simpa using List.find?_some hf
    have hm := List.mem_of_find?_eq_some hf
    have hv : q.2 = v := Option.some.inj h
    have e : q = (i, v) := by rw [← hq, ← hv]
    rw [← e]
    exact hm
theorem xm_ld_has {lsR : Array Slot} {nL : Nat} {r : Nat → Nat} {ls : xm_L} {i : Nat} {v : Value} (h : lv_has lsR nL (xm_lm r ls)) (hl : xm_ld ls i = some v) : lsR[i]? = some (.val (xm_v r v)) :=
  h.2.2 (i, xm_v r v) (List.mem_map.mpr ⟨(i, v), xm_ld_mem hl, rfl⟩)
def xm_s1 (ls : xm_L) (i : Nat) (v : Value) : xm_L := (i, v) :: ls.filter (fun q => !(q.1 == i) && !(q.1 + 1 == i && q.2.category == 2))
def xm_s2 (ls : xm_L) (i : Nat) (v : Value) : xm_L := (i, v) :: ls.filter (fun q => !(q.1 == i) && (!(q.1 == i + 1) && !(q.1 + 1 == i && q.2.category == 2)))
theorem xm_s1_m (r : Nat → Nat) (ls : xm_L) (i : Nat) (v : Value) : (i, xm_v r v) :: (xm_lm r ls).filter (fun q => !(q.1 == i) && !(q.1 + 1 == i && q.2.category == 2)) = xm_lm r (xm_s1 ls i v) := by
  simp only [xm_lm, xm_s1, List.map_cons, List.filter_map, Function.comp_def, xm_v_cat]
theorem xm_s2_m (r : Nat → Nat) (ls : xm_L) (i : Nat) (v : Value) : (i, xm_v r v) :: (xm_lm r ls).filter (fun q => !(q.1 == i) && (!(q.1 == i + 1) && !(q.1 + 1 == i && q.2.category == 2))) = xm_lm r (xm_s2 ls i v) := by
  simp only [xm_lm, xm_s2, List.map_cons, List.filter_map, Function.comp_def, xm_v_cat]
abbrev xm_O : Type := Option (xm_L × List Value)
theorem xm_if {α : Type} {c : Prop} [Decidable c] {o : Option α} {x : α} (h : (if c then o else none) = some x) : c ∧ o = some x := by
  split at h
  · exact ⟨by assumption, h⟩
  · cases h
def xm_li (ls : xm_L) (i : Nat) (st : List Value) : xm_O := match xm_ld ls i with
  | some (.int x) => some (ls, .int x :: st)
  | _ => none
theorem xm_li_s {ls ls' : xm_L} {i : Nat} {st st' : List Value} (h : xm_li ls i st = some (ls', st')) : ∃ x, xm_ld ls i = some (.int x) ∧ ls = ls' ∧ .int x :: st = st' := by
  unfold xm_li at h
  split at h
  · simp only [Option.some.injEq, Prod.mk.injEq] at h
    exact ⟨_, by assumption, h.1, h.2⟩
  · cases h
def xm_ll (ls : xm_L) (i : Nat) (st : List Value) : xm_O := match xm_ld ls i with
  | some (.long x) => some (ls, .long x :: st)
  | _ => none
theorem xm_ll_s {ls ls' : xm_L} {i : Nat} {st st' : List Value} (h : xm_ll ls i st = some (ls', st')) : ∃ x, xm_ld ls i = some (.long x) ∧ ls = ls' ∧ .long x :: st = st' := by
  unfold xm_ll at h
  split at h
  · simp only [Option.some.injEq, Prod.mk.injEq] at h
    exact ⟨_, by assumption, h.1, h.2⟩
  · cases h
def xm_la (ls : xm_L) (i : Nat) (st : List Value) : xm_O := match xm_ld ls i with
  | some (.ref x) => some (ls, .ref x :: st)
  | some .null => some (ls, .null :: st)
  | _ => none
theorem xm_la_s {ls ls' : xm_L} {i : Nat} {st st' : List Value} (h : xm_la ls i st = some (ls', st')) : ls = ls' ∧ ((∃ x, xm_ld ls i = some (.ref x) ∧ .ref x :: st = st') ∨ (xm_ld ls i = some .null ∧ .null :: st = st')) := by
  unfold xm_la at h
  split at h
  · simp only [Option.some.injEq, Prod.mk.injEq] at h
    exact ⟨h.1, Or.inl ⟨_, by assumption, h.2⟩⟩
  · simp only [Option.some.injEq, Prod.mk.injEq] at h
    exact ⟨h.1, Or.inr ⟨by assumption, h.2⟩⟩
  · cases h
def xm_si (nL : Nat) (ls : xm_L) (i : Nat) : List Value → xm_O
  | .int x :: st => if i < nL then some (xm_s1 ls i (.int x), st) else none
  | _ => none
theorem xm_si_s {nL : Nat} {ls ls' : xm_L} {i : Nat} {st st' : List Value} (h : xm_si nL ls i st = some (ls', st')) : ∃ x, st = .int x :: st' ∧ i < nL ∧ xm_s1 ls i (.int x) = ls' := by
  unfold xm_si at h
  split at h
  · obtain ⟨h1, h2⟩ := xm_if h
    simp only [Option.some.injEq, Prod.mk.injEq] at h2
    exact ⟨_, by rw [h2.2], h1, h2.1⟩
  · cases h
def xm_sl (nL : Nat) (ls : xm_L) (i : Nat) : List Value → xm_O
  | .long x :: st => if i + 1 < nL then some (xm_s2 ls i (.long x), st) else none
  | _ => none
theorem xm_sl_s {nL : Nat} {ls ls' : xm_L} {i : Nat} {st st' : List Value} (h : xm_sl nL ls i st = some (ls', st')) : ∃ x, st = .long x :: st' ∧ i + 1 < nL ∧ xm_s2 ls i (.long x) = ls' := by
  unfold xm_sl at h
  split at h
  · obtain ⟨h1, h2⟩ := xm_if h
    simp only [Option.some.injEq, Prod.mk.injEq] at h2
    exact ⟨_, by rw [h2.2], h1, h2.1⟩
  · cases h
def xm_sa (nL : Nat) (ls : xm_L) (i : Nat) : List Value → xm_O
  | .ref x :: st => if i < nL then some (xm_s1 ls i (.ref x), st) else none
  | .null :: st => if i < nL then some (xm_s1 ls i .null, st) else none
  | _ => none
theorem xm_sa_s {nL : Nat} {ls ls' : xm_L} {i : Nat} {st st' : List Value} (h : xm_sa nL ls i st = some (ls', st')) : i < nL ∧ ((∃ x, st = .ref x :: st' ∧ xm_s1 ls i (.ref x) = ls') ∨ (st = .null :: st' ∧ xm_s1 ls i .null = ls')) := by
  unfold xm_sa at h
  split at h
  · obtain ⟨h1, h2⟩ := xm_if h
    simp only [Option.some.injEq, Prod.mk.injEq] at h2
    exact ⟨h1, Or.inl ⟨_, by rw [h2.2], h2.1⟩⟩
  · obtain ⟨h1, h2⟩ := xm_if h
    simp only [Option.some.injEq, Prod.mk.injEq] at h2
    exact ⟨h1, Or.inr ⟨by rw [h2.2], h2.1⟩⟩
  · cases h
def xm_ii (f : Int32 → Int32 → Int32) (ls : xm_L) : List Value → xm_O
  | .int y :: .int x :: st => some (ls, .int (f x y) :: st)
  | _ => none
theorem xm_ii_s {f : Int32 → Int32 → Int32} {ls ls' : xm_L} {st st' : List Value} (h : xm_ii f ls st = some (ls', st')) : ∃ x y t, st = .int y :: .int x :: t ∧ ls = ls' ∧ .int (f x y) :: t = st' := by
  unfold xm_ii at h
  split at h
  · simp only [Option.some.injEq, Prod.mk.injEq] at h
    exact ⟨_, _, _, rfl, h.1, h.2⟩
  · cases h
def xm_jj (f : Int64 → Int64 → Int64) (ls : xm_L) : List Value → xm_O
  | .long y :: .long x :: st => some (ls, .long (f x y) :: st)
  | _ => none
theorem xm_jj_s {f : Int64 → Int64 → Int64} {ls ls' : xm_L} {st st' : List Value} (h : xm_jj f ls st = some (ls', st')) : ∃ x y t, st = .long y :: .long x :: t ∧ ls = ls' ∧ .long (f x y) :: t = st' := by
  unfold xm_jj at h
  split at h
  · simp only [Option.some.injEq, Prod.mk.injEq] at h
    exact ⟨_, _, _, rfl, h.1, h.2⟩
  · cases h
def xm_id (f : Int32 → Int32 → Int32) (ls : xm_L) : List Value → xm_O
  | .int y :: .int x :: st => if ¬ y = 0 then some (ls, .int (f x y) :: st) else none
  | _ => none
theorem xm_id_s {f : Int32 → Int32 → Int32} {ls ls' : xm_L} {st st' : List Value} (h : xm_id f ls st = some (ls', st')) : ∃ x y t, st = .int y :: .int x :: t ∧ ¬ y = 0 ∧ ls = ls' ∧ .int (f x y) :: t = st' := by
  unfold xm_id at h
  split at h
  · obtain ⟨h1, h2⟩ := xm_if h
    simp only [Option.some.injEq, Prod.mk.injEq] at h2
    exact ⟨_, _, _, rfl, h1, h2.1, h2.2⟩
  · cases h
def xm_jd (f : Int64 → Int64 → Int64) (ls : xm_L) : List Value → xm_O
  | .long y :: .long x :: st => if ¬ y = 0 then some (ls, .long (f x y) :: st) else none
  | _ => none
theorem xm_jd_s {f : Int64 → Int64 → Int64} {ls ls' : xm_L} {st st' : List Value} (h : xm_jd f ls st = some (ls', st')) : ∃ x y t, st = .long y :: .long x :: t ∧ ¬ y = 0 ∧ ls = ls' ∧ .long (f x y) :: t = st' := by
  unfold xm_jd at h
  split at h
  · obtain ⟨h1, h2⟩ := xm_if h
    simp only [Option.some.injEq, Prod.mk.injEq] at h2
    exact ⟨_, _, _, rfl, h1, h2.1, h2.2⟩
  · cases h
def xm_ji (f : Int64 → Int32 → Int64) (ls : xm_L) : List Value → xm_O
  | .int y :: .long x :: st => some (ls, .long (f x y) :: st)
  | _ => none
theorem xm_ji_s {f : Int64 → Int32 → Int64} {ls ls' : xm_L} {st st' : List Value} (h : xm_ji f ls st = some (ls', st')) : ∃ x y t, st = .int y :: .long x :: t ∧ ls = ls' ∧ .long (f x y) :: t = st' := by
  unfold xm_ji at h
  split at h
  · simp only [Option.some.injEq, Prod.mk.injEq] at h
    exact ⟨_, _, _, rfl, h.1, h.2⟩
  · cases h
def xm_jc (f : Int64 → Int64 → Int32) (ls : xm_L) : List Value → xm_O
  | .long y :: .long x :: st => some (ls, .int (f x y) :: st)
  | _ => none
theorem xm_jc_s {f : Int64 → Int64 → Int32} {ls ls' : xm_L} {st st' : List Value} (h : xm_jc f ls st = some (ls', st')) : ∃ x y t, st = .long y :: .long x :: t ∧ ls = ls' ∧ .int (f x y) :: t = st' := by
  unfold xm_jc at h
  split at h
  · simp only [Option.some.injEq, Prod.mk.injEq] at h
    exact ⟨_, _, _, rfl, h.1, h.2⟩
  · cases h
def xm_i1 (f : Int32 → Value) (ls : xm_L) : List Value → xm_O
  | .int x :: st => some (ls, f x :: st)
  | _ => none
theorem xm_i1_s {f : Int32 → Value} {ls ls' : xm_L} {st st' : List Value} (h : xm_i1 f ls st = some (ls', st')) : ∃ x t, st = .int x :: t ∧ ls = ls' ∧ f x :: t = st' := by
  unfold xm_i1 at h
  split at h
  · simp only [Option.some.injEq, Prod.mk.injEq] at h
    exact ⟨_, _, rfl, h.1, h.2⟩
  · cases h
def xm_j1 (f : Int64 → Value) (ls : xm_L) : List Value → xm_O
  | .long x :: st => some (ls, f x :: st)
  | _ => none
theorem xm_j1_s {f : Int64 → Value} {ls ls' : xm_L} {st st' : List Value} (h : xm_j1 f ls st = some (ls', st')) : ∃ x t, st = .long x :: t ∧ ls = ls' ∧ f x :: t = st' := by
  unfold xm_j1 at h
  split at h
  · simp only [Option.some.injEq, Prod.mk.injEq] at h
    exact ⟨_, _, rfl, h.1, h.2⟩
  · cases h
/-- instructions of locals and stack alone -/
def xm_pu (nL : Nat) (i : Jvm.ClassFile.Instr) (n : Nat) (ls : xm_L) (st : List Value) : xm_O :=
  match i with
  | .iconst k => if n = 1 then some (ls, .int (Int32.ofInt k) :: st) else none
  | .bipush k => if n = 2 then some (ls, .int (Int8.ofInt k).toInt32 :: st) else none
  | .sipush k => if n = 3 then some (ls, .int (Int16.ofInt k).toInt32 :: st) else none
  | .lconst k => if n = 1 then some (ls, .long (Int64.ofNat (k : Nat)) :: st) else none
  | .aconst_null => if n = 1 then some (ls, .null :: st) else none
  | .iload j => if n = 2 then xm_li ls j st else none
  | .iload_n j => if n = 1 then xm_li ls j st else none
  | .lload j => if n = 2 then xm_ll ls j st else none
  | .lload_n j => if n = 1 then xm_ll ls j st else none
  | .aload j => if n = 2 then xm_la ls j st else none
  | .aload_n j => if n = 1 then xm_la ls j st else none
  | .istore j => if n = 2 then xm_si nL ls j st else none
  | .istore_n j => if n = 1 then xm_si nL ls j st else none
  | .lstore j => if n = 2 then xm_sl nL ls j st else none
  | .lstore_n j => if n = 1 then xm_sl nL ls j st else none
  | .astore j => if n = 2 then xm_sa nL ls j st else none
  | .astore_n j => if n = 1 then xm_sa nL ls j st else none
  | .iinc j k => if n = 3 then (match xm_ld ls j with
    | some (.int x) => if j < nL then some (xm_s1 ls j (.int (x + Int32.ofInt k)), st) else none
    | _ => none) else none
  | .iadd => if n = 1 then xm_ii (fun x y => x + y) ls st else none
  | .isub => if n = 1 then xm_ii (fun x y => x - y) ls st else none
  | .imul => if n = 1 then xm_ii (fun x y => x * y) ls st else none
  | .iand => if n = 1 then xm_ii (fun x y => x &&& y) ls st else none
  | .ior => if n = 1 then xm_ii (fun x y => x ||| y) ls st else none
  | .ixor => if n = 1 then xm_ii (fun x y => x ^^^ y) ls st else none
  | .ishl => if n = 1 then xm_ii (fun x y => x <<< (y &&& 31)) ls st else none
  | .ishr => if n = 1 then xm_ii (fun x y => x >>> (y &&& 31)) ls st else none
  | .iushr => if n = 1 then xm_ii (fun x y => (x.toUInt32 >>> (y.toUInt32 &&& Int32.toUInt32 31)).toInt32) ls st else none
  | .idiv => if n = 1 then xm_id (fun x y => x / y) ls st else none
  | .irem => if n = 1 then xm_id (fun x y => x - x / y * y) ls st else none
  | .ineg => if n = 1 then xm_i1 (fun x => .int (-x)) ls st else none
  | .i2l => if n = 1 then xm_i1 (fun x => .long x.toInt64) ls st else none
  | .i2b => if n = 1 then xm_i1 (fun x => .int x.toInt8.toInt32) ls st else none
  | .i2s => if n = 1 then xm_i1 (fun x => .int x.toInt16.toInt32) ls st else none
  | .i2c => if n = 1 then xm_i1 (fun x => .int (x.toUInt32 % 65536).toInt32) ls st else none
  | .l2i => if n = 1 then xm_j1 (fun x => .int x.toInt32) ls st else none
  | .lneg => if n = 1 then xm_j1 (fun x => .long (-x)) ls st else none
  | .ladd => if n = 1 then xm_jj (fun x y => x + y) ls st else none
  | .lsub => if n = 1 then xm_jj (fun x y => x - y) ls st else none
  | .lmul => if n = 1 then xm_jj (fun x y => x * y) ls st else none
  | .land => if n = 1 then xm_jj (fun x y => x &&& y) ls st else none
  | .lor => if n = 1 then xm_jj (fun x y => x ||| y) ls st else none
  | .lxor => if n = 1 then xm_jj (fun x y => x ^^^ y) ls st else none
  | .ldiv => if n = 1 then xm_jd (fun x y => x / y) ls st else none
  | .lrem => if n = 1 then xm_jd (fun x y => x - x / y * y) ls st else none
  | .lshl => if n = 1 then xm_ji (fun x y => x <<< (y.toInt64 &&& 63)) ls st else none
  | .lshr => if n = 1 then xm_ji (fun x y => x >>> (y.toInt64 &&& 63)) ls st else none
  | .lushr => if n = 1 then xm_ji (fun x y => (x.toUInt64 >>> (y.toInt64.toUInt64 &&& Int64.toUInt64 63)).toInt64) ls st else none
  | .lcmp => if n = 1 then xm_jc lg_cmp ls st else none
  | .dup => if n = 1 then (match st with
    | v :: t => if v.category = 1 then some (ls, v :: v :: t) else none
    | _ => none) else none
  | .pop => if n = 1 then (match st with
    | v :: t => if v.category = 1 then some (ls, t) else none
    | _ => none) else none
  | .dup_x1 => if n = 1 then (match st with
    | v :: w :: t => if v.category = 1 ∧ w.category = 1 then some (ls, v :: w :: v :: t) else none
    | _ => none) else none
  | .dup_x2 => if n = 1 then (match st with
    | v :: w :: u :: t => if v.category = 1 ∧ w.category = 1 ∧ u.category = 1 then some (ls, v :: w :: u :: v :: t) else none
    | _ => none) else none
  | .dup2 => if n = 1 then (match st with
    | v :: t => if v.category = 2 then some (ls, v :: v :: t) else (match t with
      | w :: t => if v.category = 1 ∧ w.category = 1 then some (ls, v :: w :: v :: w :: t) else none
      | _ => none)
    | _ => none) else none
  | .dup2_x1 => if n = 1 then (match st with
    | v :: w :: t => if v.category = 2 ∧ w.category = 1 then some (ls, v :: w :: v :: t) else none
    | _ => none) else none
  | .dup2_x2 => if n = 1 then (match st with
    | v :: w :: u :: t => if v.category = 2 ∧ w.category = 1 ∧ u.category = 1 then some (ls, v :: w :: u :: v :: t) else none
    | _ => none) else none
  | .pop2 => if n = 1 then (match st with
    | v :: t => if v.category = 2 then some (ls, t) else none
    | _ => none) else none
  | _ => none
section XM1
variable {p : Program} {l : Launch} {e : Env} {R : Room} {s : State} {m : MethodId} {args : Array Value} {below : List Frame} {meth : Method} {c : Code} {H : Heap} {locs : List Loc} {cells slots : Nat} {Q : State → Prop}
variable {cc : ByteArray} {pc nL n : Nat} {lsR : Array Slot} {r : Nat → Nat} {ls ls' : xm_L} {st st' : List Value}
set_option maxHeartbeats 4000000 in
theorem xm_pu_ok {i : Jvm.ClassFile.Instr} (hx : p.tables.exec = Jvm.exec) (hb : c.code = cc) (h : xm_pu nL i n ls st = some (ls', st')) (hdg : decode cc pc = .ok (i, n)) (hl : lv_has lsR nL (xm_lm r ls))
    (k : ∀ lsR', lv_has lsR' nL (xm_lm r ls') → W p l e R s m args below meth c H locs cells slots Q (F0 m (pc + n) lsR' (st'.map (xm_v r)))) : W p l e R s m args below meth c H locs cells slots Q (F0 m pc lsR (st.map (xm_v r))) := by
  cases i
  case iconst a => obtain ⟨rfl, h0⟩ := xm_if h; replace h := h0; clear h0; cases h; exact lv_iconst hx hb hdg rfl (k _ hl)
  case bipush a => obtain ⟨rfl, h0⟩ := xm_if h; replace h := h0; clear h0; cases h; exact lv_bipush hx hb hdg rfl (k _ hl)
  case sipush a => obtain ⟨rfl, h0⟩ := xm_if h; replace h := h0; clear h0; cases h; exact lv_sipush hx hb hdg rfl (k _ hl)
  case lconst a => obtain ⟨rfl, h0⟩ := xm_if h; replace h := h0; clear h0; cases h; exact lv_lconst hx hb hdg rfl (k _ hl)
  case aconst_null => obtain ⟨rfl, h0⟩ := xm_if h; replace h := h0; clear h0; cases h; exact lv_null hx hb hdg (k _ hl)
  case iload a => obtain ⟨rfl, h0⟩ := xm_if h; replace h := h0; clear h0; obtain ⟨x, hv, rfl, rfl⟩ := xm_li_s h; exact lv_iload hx hb hdg (xm_ld_has hl hv) (k _ hl)
  case iload_n a => obtain ⟨rfl, h0⟩ := xm_if h; replace h := h0; clear h0; obtain ⟨x, hv, rfl, rfl⟩ := xm_li_s h; exact lv_iload_n hx hb hdg rfl (xm_ld_has hl hv) (k _ hl)
  case lload a => obtain ⟨rfl, h0⟩ := xm_if h; replace h := h0; clear h0; obtain ⟨x, hv, rfl, rfl⟩ := xm_ll_s h; exact lv_lload hx hb hdg (xm_ld_has hl hv) (k _ hl)
  case lload_n a => obtain ⟨rfl, h0⟩ := xm_if h; replace h := h0; clear h0; obtain ⟨x, hv, rfl, rfl⟩ := xm_ll_s h; exact lv_lload_n hx hb hdg rfl (xm_ld_has hl hv) (k _ hl)
  case aload a =>
    obtain ⟨rfl, h0⟩ := xm_if h; replace h := h0; clear h0
    obtain ⟨rfl, ⟨x, hv, rfl⟩ | ⟨hv, rfl⟩⟩ := xm_la_s h
    · exact lv_aload hx hb hdg (xm_ld_has hl hv) (k _ hl)
    · exact lv_aloadN hx hb hdg (xm_ld_has hl hv) (k _ hl)
  case aload_n a =>
    obtain ⟨rfl, h0⟩ := xm_if h; replace h := h0; clear h0
    obtain ⟨rfl, ⟨x, hv, rfl⟩ | ⟨hv, rfl⟩⟩ := xm_la_s h
    · exact lv_aload_n hx hb hdg rfl (xm_ld_has hl hv) (k _ hl)
    · exact lv_aload_nN hx hb hdg rfl (xm_ld_has hl hv) (k _ hl)
  case istore a => obtain ⟨rfl, h0⟩ := xm_if h; replace h := h0; clear h0; obtain ⟨x, rfl, hn, rfl⟩ := xm_si_s h; exact lv_istore hx hb hdg hl hn (xm_s1_m r ls _ (.int x)) (fun ls' h' => k ls' h')
  case istore_n a => obtain ⟨rfl, h0⟩ := xm_if h; replace h := h0; clear h0; obtain ⟨x, rfl, hn, rfl⟩ := xm_si_s h; exact lv_istore_n hx hb hdg rfl hl hn (xm_s1_m r ls _ (.int x)) (fun ls' h' => k ls' h')
  case lstore a => obtain ⟨rfl, h0⟩ := xm_if h; replace h := h0; clear h0; obtain ⟨x, rfl, hn, rfl⟩ := xm_sl_s h; exact lv_lstore hx hb hdg hl hn (xm_s2_m r ls _ (.long x)) (fun ls' h' => k ls' h')
  case lstore_n a => obtain ⟨rfl, h0⟩ := xm_if h; replace h := h0; clear h0; obtain ⟨x, rfl, hn, rfl⟩ := xm_sl_s h; exact lv_lstore_n hx hb hdg rfl hl hn (xm_s2_m r ls _ (.long x)) (fun ls' h' => k ls' h')
  case astore a =>
    obtain ⟨rfl, h0⟩ := xm_if h; replace h := h0; clear h0
    obtain ⟨hn, ⟨x, rfl, rfl⟩ | ⟨rfl, rfl⟩⟩ := xm_sa_s h
    · exact lv_astore hx hb hdg hl hn (xm_s1_m r ls _ (.ref x)) (fun ls' h' => k ls' h')
    · exact lv_astoreN hx hb hdg hl hn (xm_s1_m r ls _ .null) (fun ls' h' => k ls' h')
  case astore_n a =>
    obtain ⟨rfl, h0⟩ := xm_if h; replace h := h0; clear h0
    obtain ⟨hn, ⟨x, rfl, rfl⟩ | ⟨rfl, rfl⟩⟩ := xm_sa_s h
    · exact lv_astore_n hx hb hdg rfl hl hn (xm_s1_m r ls _ (.ref x)) (fun ls' h' => k ls' h')
    · exact lv_astore_nN hx hb hdg rfl hl hn (xm_s1_m r ls _ .null) (fun ls' h' => k ls' h')
  case iinc a b =>
    obtain ⟨rfl, h0⟩ := xm_if h; replace h := h0; clear h0
    split at h
    · rename_i x hv
      obtain ⟨hn, h⟩ := xm_if h
      cases h
      obtain ⟨q, hq⟩ := List.getElem?_of_mem (List.mem_map.mpr ⟨(a, Value.int x), xm_ld_mem hv, rfl⟩ : (a, Value.int x) ∈ xm_lm r ls)
      exact lv_iinc hx hb hdg hl hq rfl hn (xm_s1_m r ls _ (.int (x + Int32.ofInt b))) (fun ls' h' => k ls' h')
    · cases h
  case iadd => obtain ⟨rfl, h0⟩ := xm_if h; replace h := h0; clear h0; obtain ⟨x, y, t, rfl, rfl, rfl⟩ := xm_ii_s h; exact lv_iadd hx hb hdg (k _ hl)
  case isub => obtain ⟨rfl, h0⟩ := xm_if h; replace h := h0; clear h0; obtain ⟨x, y, t, rfl, rfl, rfl⟩ := xm_ii_s h; exact lv_isub hx hb hdg (k _ hl)
  case imul => obtain ⟨rfl, h0⟩ := xm_if h; replace h := h0; clear h0; obtain ⟨x, y, t, rfl, rfl, rfl⟩ := xm_ii_s h; exact lv_imul hx hb hdg (k _ hl)
  case iand => obtain ⟨rfl, h0⟩ := xm_if h; replace h := h0; clear h0; obtain ⟨x, y, t, rfl, rfl, rfl⟩ := xm_ii_s h; exact lv_iand hx hb hdg (k _ hl)
  case ior => obtain ⟨rfl, h0⟩ := xm_if h; replace h := h0; clear h0; obtain ⟨x, y, t, rfl, rfl, rfl⟩ := xm_ii_s h; exact lv_ior hx hb hdg (k _ hl)
  case ixor => obtain ⟨rfl, h0⟩ := xm_if h; replace h := h0; clear h0; obtain ⟨x, y, t, rfl, rfl, rfl⟩ := xm_ii_s h; exact lv_ixor hx hb hdg (k _ hl)
  case ishl => obtain ⟨rfl, h0⟩ := xm_if h; replace h := h0; clear h0; obtain ⟨x, y, t, rfl, rfl, rfl⟩ := xm_ii_s h; exact lv_ishl hx hb hdg (k _ hl)
  case ishr => obtain ⟨rfl, h0⟩ := xm_if h; replace h := h0; clear h0; obtain ⟨x, y, t, rfl, rfl, rfl⟩ := xm_ii_s h; exact lv_ishr hx hb hdg (k _ hl)
  case iushr => obtain ⟨rfl, h0⟩ := xm_if h; replace h := h0; clear h0; obtain ⟨x, y, t, rfl, rfl, rfl⟩ := xm_ii_s h; exact lv_iushr hx hb hdg rfl (k _ hl)
  case idiv => obtain ⟨rfl, h0⟩ := xm_if h; replace h := h0; clear h0; obtain ⟨x, y, t, rfl, h0, rfl, rfl⟩ := xm_id_s h; exact lv_idiv hx hb hdg h0 (k _ hl)
  case irem => obtain ⟨rfl, h0⟩ := xm_if h; replace h := h0; clear h0; obtain ⟨x, y, t, rfl, h0, rfl, rfl⟩ := xm_id_s h; exact lv_irem hx hb hdg h0 (k _ hl)
  case ineg => obtain ⟨rfl, h0⟩ := xm_if h; replace h := h0; clear h0; obtain ⟨x, t, rfl, rfl, rfl⟩ := xm_i1_s h; exact lv_ineg hx hb hdg (k _ hl)
  case i2l => obtain ⟨rfl, h0⟩ := xm_if h; replace h := h0; clear h0; obtain ⟨x, t, rfl, rfl, rfl⟩ := xm_i1_s h; exact lv_i2l hx hb hdg rfl (k _ hl)
  case i2b => obtain ⟨rfl, h0⟩ := xm_if h; replace h := h0; clear h0; obtain ⟨x, t, rfl, rfl, rfl⟩ := xm_i1_s h; exact lv_i2b hx hb hdg rfl (k _ hl)
  case i2s => obtain ⟨rfl, h0⟩ := xm_if h; replace h := h0; clear h0; obtain ⟨x, t, rfl, rfl, rfl⟩ := xm_i1_s h; exact lv_i2s hx hb hdg rfl (k _ hl)
  case i2c => obtain ⟨rfl, h0⟩ := xm_if h; replace h := h0; clear h0; obtain ⟨x, t, rfl, rfl, rfl⟩ := xm_i1_s h; exact lv_i2c hx hb hdg rfl (k _ hl)
  case l2i => obtain ⟨rfl, h0⟩ := xm_if h; replace h := h0; clear h0; obtain ⟨x, t, rfl, rfl, rfl⟩ := xm_j1_s h; exact lv_l2i hx hb hdg rfl (k _ hl)
  case lneg => obtain ⟨rfl, h0⟩ := xm_if h; replace h := h0; clear h0; obtain ⟨x, t, rfl, rfl, rfl⟩ := xm_j1_s h; exact lv_lneg hx hb hdg (k _ hl)
  case ladd => obtain ⟨rfl, h0⟩ := xm_if h; replace h := h0; clear h0; obtain ⟨x, y, t, rfl, rfl, rfl⟩ := xm_jj_s h; exact lv_ladd hx hb hdg (k _ hl)
  case lsub => obtain ⟨rfl, h0⟩ := xm_if h; replace h := h0; clear h0; obtain ⟨x, y, t, rfl, rfl, rfl⟩ := xm_jj_s h; exact lv_lsub hx hb hdg (k _ hl)
  case lmul => obtain ⟨rfl, h0⟩ := xm_if h; replace h := h0; clear h0; obtain ⟨x, y, t, rfl, rfl, rfl⟩ := xm_jj_s h; exact lv_lmul hx hb hdg (k _ hl)
  case land => obtain ⟨rfl, h0⟩ := xm_if h; replace h := h0; clear h0; obtain ⟨x, y, t, rfl, rfl, rfl⟩ := xm_jj_s h; exact lv_land hx hb hdg (k _ hl)
  case lor => obtain ⟨rfl, h0⟩ := xm_if h; replace h := h0; clear h0; obtain ⟨x, y, t, rfl, rfl, rfl⟩ := xm_jj_s h; exact lv_lor hx hb hdg (k _ hl)
  case lxor => obtain ⟨rfl, h0⟩ := xm_if h; replace h := h0; clear h0; obtain ⟨x, y, t, rfl, rfl, rfl⟩ := xm_jj_s h; exact lv_lxor hx hb hdg (k _ hl)
  case ldiv => obtain ⟨rfl, h0⟩ := xm_if h; replace h := h0; clear h0; obtain ⟨x, y, t, rfl, h0, rfl, rfl⟩ := xm_jd_s h; exact lv_ldiv hx hb hdg h0 (k _ hl)
  case lrem => obtain ⟨rfl, h0⟩ := xm_if h; replace h := h0; clear h0; obtain ⟨x, y, t, rfl, h0, rfl, rfl⟩ := xm_jd_s h; exact lv_lrem hx hb hdg h0 (k _ hl)
  case lshl => obtain ⟨rfl, h0⟩ := xm_if h; replace h := h0; clear h0; obtain ⟨x, y, t, rfl, rfl, rfl⟩ := xm_ji_s h; exact lv_lshl hx hb hdg rfl (k _ hl)
  case lshr => obtain ⟨rfl, h0⟩ := xm_if h; replace h := h0; clear h0; obtain ⟨x, y, t, rfl, rfl, rfl⟩ := xm_ji_s h; exact lv_lshr hx hb hdg rfl (k _ hl)
  case lushr => obtain ⟨rfl, h0⟩ := xm_if h; replace h := h0; clear h0; obtain ⟨x, y, t, rfl, rfl, rfl⟩ := xm_ji_s h; exact lv_lushr hx hb hdg rfl (k _ hl)
  case lcmp => obtain ⟨rfl, h0⟩ := xm_if h; replace h := h0; clear h0; obtain ⟨x, y, t, rfl, rfl, rfl⟩ := xm_jc_s h; exact W.lcmp hx hb hdg (k _ hl)
  case dup =>
    obtain ⟨rfl, h0⟩ := xm_if h; replace h := h0; clear h0
    split at h
    · obtain ⟨h1, h⟩ := xm_if h; cases h; exact lv_dup hx hb hdg ((xm_v_cat r _).trans h1) (k _ hl)
    · cases h
  case pop =>
    obtain ⟨rfl, h0⟩ := xm_if h; replace h := h0; clear h0
    split at h
    · obtain ⟨h1, h⟩ := xm_if h; cases h; exact lv_pop hx hb hdg ((xm_v_cat r _).trans h1) (k _ hl)
    · cases h
  case dup_x1 =>
    obtain ⟨rfl, h0⟩ := xm_if h; replace h := h0; clear h0
    split at h
    · obtain ⟨h1, h⟩ := xm_if h; cases h; exact lv_dup_x1 hx hb hdg ((xm_v_cat r _).trans h1.1) ((xm_v_cat r _).trans h1.2) (k _ hl)
    · cases h
  case dup_x2 =>
    obtain ⟨rfl, h0⟩ := xm_if h; replace h := h0; clear h0
    split at h
    · obtain ⟨h1, h⟩ := xm_if h; cases h; exact lv_dup_x2 hx hb hdg ((xm_v_cat r _).trans h1.1) ((xm_v_cat r _).trans h1.2.1) ((xm_v_cat r _).trans h1.2.2) (k _ hl)
    · cases h
  case dup2 =>
    obtain ⟨rfl, h0⟩ := xm_if h; replace h := h0; clear h0
    split at h
    · split at h
      · rename_i h1
        cases h
        exact lv_dup2_2 hx hb hdg ((xm_v_cat r _).trans h1) (k _ hl)
      · split at h
        · obtain ⟨h1, h⟩ := xm_if h; cases h; exact lv_dup2_11 hx hb hdg ((xm_v_cat r _).trans h1.1) ((xm_v_cat r _).trans h1.2) (k _ hl)
        · cases h
    · cases h
  case dup2_x1 =>
    obtain ⟨rfl, h0⟩ := xm_if h; replace h := h0; clear h0
    split at h
    · obtain ⟨h1, h⟩ := xm_if h; cases h; exact lv_dup2_x1_2 hx hb hdg ((xm_v_cat r _).trans h1.1) ((xm_v_cat r _).trans h1.2) (k _ hl)
    · cases h
  case dup2_x2 =>
    obtain ⟨rfl, h0⟩ := xm_if h; replace h := h0; clear h0
    split at h
    · obtain ⟨h1, h⟩ := xm_if h; cases h; exact lv_dup2_x2_2 hx hb hdg ((xm_v_cat r _).trans h1.1) ((xm_v_cat r _).trans h1.2.1) ((xm_v_cat r _).trans h1.2.2) (k _ hl)
    · cases h
  case pop2 =>
    obtain ⟨rfl, h0⟩ := xm_if h; replace h := h0; clear h0
    split at h
    · obtain ⟨h1, h⟩ := xm_if h; cases h; exact lv_pop2_2 hx hb hdg ((xm_v_cat r _).trans h1) (k _ hl)
    · cases h
  all_goals exact absurd h (by simp [xm_pu])
end XM1
/-! branches and switches: the next place -/
def xm_tg (pc : Nat) (off : Int) : Option Nat := if 0 ≤ (pc : Int) + off then some ((pc : Int) + off).toNat else none
theorem xm_tg_s {pc t : Nat} {off : Int} (h : xm_tg pc off = some t) : (pc : Int) + off = (t : Int) := by
  unfold xm_tg at h
  obtain ⟨h1, h2⟩ := xm_if h
  cases h2
  omega
def xm_cd (a : Jvm.ClassFile.Cond) (x y : Int32) : Bool := match a with
  | .eq => decide (x = y)
  | .ne => decide (¬ x = y)
  | .lt => decide (x < y)
  | .ge => decide (y ≤ x)
  | .gt => decide (y < x)
  | .le => decide (x ≤ y)
/-- taken or not, the place if taken, the stack behind it -/
def xm_br (i : Jvm.ClassFile.Instr) (n pc : Nat) (st : List Value) : Option (Bool × Nat × List Value) :=
  match i with
  | .goto off => if n = 3 then (xm_tg pc off).map (fun t => (true, t, st)) else none
  | .ifCond a off => if n = 3 then (match st with
    | .int x :: rest => (xm_tg pc off).map (fun t => (xm_cd a x 0, t, rest))
    | _ => none) else none
  | .if_icmp a off => if n = 3 then (match st with
    | .int y :: .int x :: rest => (xm_tg pc off).map (fun t => (xm_cd a x y, t, rest))
    | _ => none) else none
  | .ifnull off => if n = 3 then (match st with
    | .ref _ :: rest => (xm_tg pc off).map (fun t => (false, t, rest))
    | .null :: rest => (xm_tg pc off).map (fun t => (true, t, rest))
    | _ => none) else none
  | .ifnonnull off => if n = 3 then (match st with
    | .ref _ :: rest => (xm_tg pc off).map (fun t => (true, t, rest))
    | .null :: rest => (xm_tg pc off).map (fun t => (false, t, rest))
    | _ => none) else none
  | .tableswitch d lo hi offs => (match st with
    | .int x :: rest => if x.toInt < lo ∨ hi < x.toInt then (xm_tg pc d).map (fun t => (true, t, rest)) else (match offs[(x.toInt - lo).toNat]? with
      | some off => (xm_tg pc off).map (fun t => (true, t, rest))
      | none => none)
    | _ => none)
  | .lookupswitch d ps => (match st with
    | .int x :: rest => if (ps.toList.zip (ps.toList.drop 1)).all (fun q => q.1.1 < q.2.1) = true then (xm_tg pc (Op.lookupswitch.offset ps.toList d x.toInt)).map (fun t => (true, t, rest)) else none
    | _ => none)
  | _ => none
theorem xm_map {α β : Type} {o : Option α} {f : α → β} {b : β} (h : o.map f = some b) : ∃ a, o = some a ∧ f a = b := by
  cases o with
  | none => cases h
  | some a => exact ⟨a, rfl, Option.some.inj h⟩
section XM2
variable {p : Program} {l : Launch} {e : Env} {R : Room} {s : State} {m : MethodId} {args : Array Value} {below : List Frame} {meth : Method} {c : Code} {H : Heap} {locs : List Loc} {cells slots : Nat} {Q : State → Prop}
variable {cc : ByteArray} {pc n t : Nat} {lsR : Array Slot} {r : Nat → Nat} {st st' : List Value}
set_option maxHeartbeats 4000000 in
theorem xm_br_ok {i : Jvm.ClassFile.Instr} {b : Bool} (hx : p.tables.exec = Jvm.exec) (hb : c.code = cc) (h : xm_br i n pc st = some (b, t, st')) (hdg : decode cc pc = .ok (i, n))
    (kt : b = true → W p l e R s m args below meth c H locs cells slots Q (F0 m t lsR (st'.map (xm_v r)))) (kf : b = false → W p l e R s m args below meth c H locs cells slots Q (F0 m (pc + n) lsR (st'.map (xm_v r)))) : W p l e R s m args below meth c H locs cells slots Q (F0 m pc lsR (st.map (xm_v r))) := by
  cases i
  case goto off =>
    obtain ⟨rfl, h0⟩ := xm_if h; replace h := h0; clear h0
    obtain ⟨a, ha, h⟩ := xm_map h
    cases h
    exact lv_goto hx hb hdg (xm_tg_s ha) (kt rfl)
  case ifCond a off =>
    obtain ⟨rfl, h0⟩ := xm_if h; replace h := h0; clear h0
    split at h
    · obtain ⟨q, ha, h⟩ := xm_map h
      cases h
      cases a
      · exact lv_if_eq hx hb hdg (xm_tg_s ha) (fun z => kt (decide_eq_true z)) (fun z => kf (decide_eq_false z))
      · exact lv_if_ne hx hb hdg (xm_tg_s ha) (fun z => kt (decide_eq_true z)) (fun z => kf (decide_eq_false (fun y => y z)))
      · exact lv_if_lt hx hb hdg (xm_tg_s ha) (fun z => kt (decide_eq_true z)) (fun z => kf (decide_eq_false z))
      · exact lv_if_ge hx hb hdg (xm_tg_s ha) (fun z => kt (decide_eq_true z)) (fun z => kf (decide_eq_false z))
      · exact lv_if_gt hx hb hdg (xm_tg_s ha) (fun z => kt (decide_eq_true z)) (fun z => kf (decide_eq_false z))
      · exact lv_if_le hx hb hdg (xm_tg_s ha) (fun z => kt (decide_eq_true z)) (fun z => kf (decide_eq_false z))
    · cases h
  case if_icmp a off =>
    obtain ⟨rfl, h0⟩ := xm_if h; replace h := h0; clear h0
    split at h
    · obtain ⟨q, ha, h⟩ := xm_map h
      cases h
      cases a
      · exact lv_icmp_eq hx hb hdg (xm_tg_s ha) (fun z => kt (decide_eq_true z)) (fun z => kf (decide_eq_false z))
      · exact lv_icmp_ne hx hb hdg (xm_tg_s ha) (fun z => kt (decide_eq_true z)) (fun z => kf (decide_eq_false (fun y => y z)))
      · exact lv_icmp_lt hx hb hdg (xm_tg_s ha) (fun z => kt (decide_eq_true z)) (fun z => kf (decide_eq_false z))
      · exact lv_icmp_ge hx hb hdg (xm_tg_s ha) (fun z => kt (decide_eq_true z)) (fun z => kf (decide_eq_false z))
      · exact lv_icmp_gt hx hb hdg (xm_tg_s ha) (fun z => kt (decide_eq_true z)) (fun z => kf (decide_eq_false z))
      · exact lv_icmp_le hx hb hdg (xm_tg_s ha) (fun z => kt (decide_eq_true z)) (fun z => kf (decide_eq_false z))
    · cases h
  case ifnull off =>
    obtain ⟨rfl, h0⟩ := xm_if h; replace h := h0; clear h0
    split at h
    · obtain ⟨q, ha, h⟩ := xm_map h
      cases h
      exact lv_ifnull hx hb hdg (kf rfl)
    · obtain ⟨q, ha, h⟩ := xm_map h
      cases h
      exact lv_ifnullN hx hb hdg (xm_tg_s ha) (kt rfl)
    · cases h
  case ifnonnull off =>
    obtain ⟨rfl, h0⟩ := xm_if h; replace h := h0; clear h0
    split at h
    · obtain ⟨q, ha, h⟩ := xm_map h
      cases h
      exact lv_ifnonnull hx hb hdg (xm_tg_s ha) (kt rfl)
    · obtain ⟨q, ha, h⟩ := xm_map h
      cases h
      exact lv_ifnonnullN hx hb hdg (kf rfl)
    · cases h
  case tableswitch d lo hi offs =>
    simp only [xm_br] at h
    split at h
    · split at h
      · rename_i hc
        obtain ⟨q, ha, h⟩ := xm_map h
        cases h
        exact lv_tableOut hx hb hdg hc (xm_tg_s ha) (kt rfl)
      · rename_i hc
        split at h
        · rename_i off ho
          obtain ⟨q, ha, h⟩ := xm_map h
          cases h
          exact lv_tableIn hx hb hdg (fun z => hc (Or.inl z)) (fun z => hc (Or.inr z)) ho (xm_tg_s ha) (kt rfl)
        · cases h
    · cases h
  case lookupswitch d ps =>
    simp only [xm_br] at h
    split at h
    · obtain ⟨hp, h⟩ := xm_if h
      obtain ⟨q, ha, h⟩ := xm_map h
      cases h
      exact lv_lookup hx hb hdg hp rfl (xm_tg_s ha) (kt rfl)
    · cases h
  all_goals exact absurd h (by simp [xm_br])
end XM2
end
section
/-! The abstract machine's heap: a list of cells, as the kit's worlds have them; an array's class is a place in the list of array types, a reference a place in the heap. -/
abbrev xm_H : Type := List va_E
abbrev xm_T : Type := List (ClassId × FieldType)
def xm_ty (tys : xm_T) (t : Nat) : ClassId := (tys.getD t (0, .int)).1
def xm_e (tys : xm_T) (r : Nat → Nat) : va_E → va_E
  | .inl (t, n, .inl f) => .inl (xm_ty tys t, n, .inl f)
  | .inl (t, n, .inr (.inl f)) => .inl (xm_ty tys t, n, .inr (.inl f))
  | .inl (t, n, .inr (.inr (.inl f))) => .inl (xm_ty tys t, n, .inr (.inr (.inl f)))
  | .inl (t, n, .inr (.inr (.inr (.inl f)))) => .inl (xm_ty tys t, n, .inr (.inr (.inr (.inl f))))
  | .inl (t, n, .inr (.inr (.inr (.inr f)))) => .inl (xm_ty tys t, n, .inr (.inr (.inr (.inr (fun j => if j < n then (f j).map r else none)))))
  | .inr (ci, fs) => .inr (ci, fs.map (xm_v r))
def xm_w (tys : xm_T) (r : Nat → Nat) (A : xm_H) : va_W := A.mapIdx (fun i e => (r i, xm_e tys r e))
theorem xm_w_get {tys : xm_T} {r : Nat → Nat} {A : xm_H} {i : Nat} {e : va_E} (h : A[i]? = some e) : (xm_w tys r A)[i]? = some (r i, xm_e tys r e) := by
  simp [xm_w, List.getElem?_mapIdx, h]
theorem xm_w_set (tys : xm_T) (r : Nat → Nat) (A : xm_H) (i : Nat) (e : va_E) : (xm_w tys r A).set i (r i, xm_e tys r e) = xm_w tys r (A.set i e) := by
  apply List.ext_getElem?
  intro j
  by_cases h : i = j
  · subst h
    by_cases hl : i < A.length
    · simp [xm_w, List.getElem?_mapIdx, List.getElem?_set, hl]
    · simp [xm_w, List.getElem?_mapIdx, List.getElem?_set, hl]
  · simp [xm_w, List.getElem?_mapIdx, List.getElem?_set, h]
/-- the types of the arrays, without their classes -/
def xm_TT (tt : List FieldType) (tys : xm_T) : Prop := ∀ t ty, tt[t]? = some ty → tys[t]? = some (xm_ty tys t, ty)
def xm_ix (j : Int32) (n : Nat) : Option Nat := if ¬ (j < 0 ∨ n ≤ j.toNatClampNeg) then some j.toNatClampNeg else none
theorem xm_ix_s {j : Int32} {n k : Nat} (h : xm_ix j n = some k) : vp_in j n ∧ k = j.toNatClampNeg ∧ k < n := by
  unfold xm_ix at h
  obtain ⟨h1, h2⟩ := xm_if h
  cases h2
  exact ⟨h1, rfl, Nat.not_le.mp fun q => h1 (Or.inr q)⟩
abbrev xm_P : Type := Option (List Value × xm_H)
def xm_gf (q : Option (Nat × Nat × Bool)) (A : xm_H) : List Value → xm_P
  | .ref a :: st => (match q, A[a]? with
    | some (ci, k, _), some (.inr (cj, fs)) => if cj = ci then (match fs[k]? with
      | some v => some (v :: st, A)
      | none => none) else none
    | _, _ => none)
  | _ => none
theorem xm_gf_s {q : Option (Nat × Nat × Bool)} {A A' : xm_H} {st st' : List Value} (h : xm_gf q A st = some (st', A')) : ∃ a t ci k b fs v, st = .ref a :: t ∧ q = some (ci, k, b) ∧ A[a]? = some (.inr (ci, fs)) ∧ fs[k]? = some v ∧ v :: t = st' ∧ A = A' := by
  unfold xm_gf at h
  split at h
  · split at h
    · obtain ⟨rfl, h2⟩ := xm_if h
      split at h2
      · simp only [Option.some.injEq, Prod.mk.injEq] at h2
        exact ⟨_, _, _, _, _, _, _, rfl, rfl, by assumption, by assumption, h2.1, h2.2⟩
      · cases h2
    · cases h
  · cases h
/-- may the field be written here? a final one in its own class's constructor alone -/
def xm_fin (cl : List vw_C) (ini : Option Nat) (b : Bool) (ci k : Nat) : Bool := match cl[ci]? with
  | some q => if (q.2.1 k).2.2.2 = true then (match ini with
    | some c => !b && (c == ci && (q.2.1 k).1 == q.1)
    | none => false) else true
  | none => false
def xm_pf (cl : List vw_C) (ft : Nat → Nat → FieldType) (ini : Option Nat) (q : Option (Nat × Nat × Bool)) (A : xm_H) : List Value → xm_P
  | v :: .ref a :: st => (match q, A[a]? with
    | some (ci, k, b), some (.inr (cj, fs)) => if cj = ci ∧ k < fs.length ∧ xm_fin cl ini b ci k = true ∧ narrow (ft ci k) v = v ∧ fits (ft ci k) v = true then some (st, A.set a (.inr (ci, fs.set k v))) else none
    | _, _ => none)
  | _ => none
theorem xm_pf_s {cl : List vw_C} {ft : Nat → Nat → FieldType} {ini : Option Nat} {q : Option (Nat × Nat × Bool)} {A A' : xm_H} {st st' : List Value} (h : xm_pf cl ft ini q A st = some (st', A')) : ∃ v a ci k b fs, st = v :: .ref a :: st' ∧ q = some (ci, k, b) ∧ A[a]? = some (.inr (ci, fs)) ∧ k < fs.length ∧ xm_fin cl ini b ci k = true ∧ narrow (ft ci k) v = v ∧ fits (ft ci k) v = true ∧ A.set a (.inr (ci, fs.set k v)) = A' := by
  unfold xm_pf at h
  split at h
  · split at h
    · obtain ⟨⟨rfl, h1, h2, h3, h4⟩, h5⟩ := xm_if h
      simp only [Option.some.injEq, Prod.mk.injEq] at h5
      exact ⟨_, _, _, _, _, _, by rw [h5.1], rfl, by assumption, h1, h2, h3, h4, h5.2⟩
    · cases h
  · cases h
def xm_ai (tt : List FieldType) (ty : FieldType) (A : xm_H) : List Value → xm_P
  | .int j :: .ref a :: st => (match A[a]? with
    | some (.inl (t, n, .inl f)) => if tt[t]? = some ty then (xm_ix j n).map (fun k => (.int (f k) :: st, A)) else none
    | _ => none)
  | _ => none
theorem xm_ai_s {tt : List FieldType} {ty : FieldType} {A A' : xm_H} {st st' : List Value} (h : xm_ai tt ty A st = some (st', A')) : ∃ j a u t n f, st = .int j :: .ref a :: u ∧ A[a]? = some (.inl (t, n, .inl f)) ∧ tt[t]? = some ty ∧ vp_in j n ∧ .int (f j.toNatClampNeg) :: u = st' ∧ A = A' := by
  unfold xm_ai at h
  split at h
  · split at h
    · obtain ⟨h1, h2⟩ := xm_if h
      obtain ⟨k, hk, h3⟩ := xm_map h2
      obtain ⟨q1, rfl, -⟩ := xm_ix_s hk
      simp only [Prod.mk.injEq] at h3
      exact ⟨_, _, _, _, _, _, rfl, by assumption, h1, q1, h3.1, h3.2⟩
    · cases h
  · cases h
def xm_al (tt : List FieldType) (A : xm_H) : List Value → xm_P
  | .int j :: .ref a :: st => (match A[a]? with
    | some (.inl (t, n, .inr (.inl f))) => if tt[t]? = some .long then (xm_ix j n).map (fun k => (.long (f k) :: st, A)) else none
    | _ => none)
  | _ => none
theorem xm_al_s {tt : List FieldType} {A A' : xm_H} {st st' : List Value} (h : xm_al tt A st = some (st', A')) : ∃ j a u t n f, st = .int j :: .ref a :: u ∧ A[a]? = some (.inl (t, n, .inr (.inl f))) ∧ tt[t]? = some .long ∧ vp_in j n ∧ .long (f j.toNatClampNeg) :: u = st' ∧ A = A' := by
  unfold xm_al at h
  split at h
  · split at h
    · obtain ⟨h1, h2⟩ := xm_if h
      obtain ⟨k, hk, h3⟩ := xm_map h2
      obtain ⟨q1, rfl, -⟩ := xm_ix_s hk
      simp only [Prod.mk.injEq] at h3
      exact ⟨_, _, _, _, _, _, rfl, by assumption, h1, q1, h3.1, h3.2⟩
    · cases h
  · cases h
def xm_isO (ty : Option FieldType) : Bool := match ty with
  | some (.object _) => true
  | _ => false
def xm_aq (tt : List FieldType) (A : xm_H) : List Value → xm_P
  | .int j :: .ref a :: st => (match A[a]? with
    | some (.inl (t, n, .inr (.inr (.inr (.inr f))))) => if xm_isO tt[t]? = true then (xm_ix j n).map (fun k => (va_rf (f k) :: st, A)) else none
    | _ => none)
  | _ => none
theorem xm_aq_s {tt : List FieldType} {A A' : xm_H} {st st' : List Value} (h : xm_aq tt A st = some (st', A')) : ∃ j a u t n f C, st = .int j :: .ref a :: u ∧ A[a]? = some (.inl (t, n, .inr (.inr (.inr (.inr f))))) ∧ tt[t]? = some (.object C) ∧ vp_in j n ∧ va_rf (f j.toNatClampNeg) :: u = st' ∧ A = A' := by
  unfold xm_aq at h
  split at h
  · split at h
    · obtain ⟨h1, h2⟩ := xm_if h
      obtain ⟨k, hk, h3⟩ := xm_map h2
      obtain ⟨q1, rfl, -⟩ := xm_ix_s hk
      simp only [Prod.mk.injEq] at h3
      unfold xm_isO at h1
      split at h1
      · exact ⟨_, _, _, _, _, _, _, rfl, by assumption, by assumption, q1, h3.1, h3.2⟩
      · cases h1
    · cases h
  · cases h
/-- a store into an array of ints; nw: what is kept of the number -/
def xm_bi (tt : List FieldType) (ty : FieldType) (nw : Int32 → Int32) (A : xm_H) : List Value → xm_P
  | .int x :: .int j :: .ref a :: st => (match A[a]? with
    | some (.inl (t, n, .inl f)) => if tt[t]? = some ty then (xm_ix j n).map (fun k => (st, A.set a (.inl (t, n, .inl (upd f k (nw x)))))) else none
    | _ => none)
  | _ => none
theorem xm_bi_s {tt : List FieldType} {ty : FieldType} {nw : Int32 → Int32} {A A' : xm_H} {st st' : List Value} (h : xm_bi tt ty nw A st = some (st', A')) : ∃ x j a t n f, st = .int x :: .int j :: .ref a :: st' ∧ A[a]? = some (.inl (t, n, .inl f)) ∧ tt[t]? = some ty ∧ vp_in j n ∧ A.set a (.inl (t, n, .inl (upd f j.toNatClampNeg (nw x)))) = A' := by
  unfold xm_bi at h
  split at h
  · split at h
    · obtain ⟨h1, h2⟩ := xm_if h
      obtain ⟨k, hk, h3⟩ := xm_map h2
      obtain ⟨q1, rfl, -⟩ := xm_ix_s hk
      simp only [Prod.mk.injEq] at h3
      exact ⟨_, _, _, _, _, _, by rw [h3.1], by assumption, h1, q1, h3.2⟩
    · cases h
  · cases h
def xm_bl (tt : List FieldType) (A : xm_H) : List Value → xm_P
  | .long x :: .int j :: .ref a :: st => (match A[a]? with
    | some (.inl (t, n, .inr (.inl f))) => if tt[t]? = some .long then (xm_ix j n).map (fun k => (st, A.set a (.inl (t, n, .inr (.inl (vp_updL f k x)))))) else none
    | _ => none)
  | _ => none
theorem xm_bl_s {tt : List FieldType} {A A' : xm_H} {st st' : List Value} (h : xm_bl tt A st = some (st', A')) : ∃ x j a t n f, st = .long x :: .int j :: .ref a :: st' ∧ A[a]? = some (.inl (t, n, .inr (.inl f))) ∧ tt[t]? = some .long ∧ vp_in j n ∧ A.set a (.inl (t, n, .inr (.inl (vp_updL f j.toNatClampNeg x)))) = A' := by
  unfold xm_bl at h
  split at h
  · split at h
    · obtain ⟨h1, h2⟩ := xm_if h
      obtain ⟨k, hk, h3⟩ := xm_map h2
      obtain ⟨q1, rfl, -⟩ := xm_ix_s hk
      simp only [Prod.mk.injEq] at h3
      exact ⟨_, _, _, _, _, _, by rw [h3.1], by assumption, h1, q1, h3.2⟩
    · cases h
  · cases h
/-- a store of an object into an array of its own class -/
def xm_bq (cl : List vw_C) (tt : List FieldType) (A : xm_H) : List Value → xm_P
  | .ref v :: .int j :: .ref a :: st => (match A[a]?, A[v]? with
    | some (.inl (t, n, .inr (.inr (.inr (.inr f))))), some (.inr (ci, _)) => (match cl[ci]? with
      | some q => if tt[t]? = some (.object q.1) then (xm_ix j n).map (fun k => (st, A.set a (.inl (t, n, .inr (.inr (.inr (.inr (va_up f k (some v))))))))) else none
      | none => none)
    | _, _ => none)
  | _ => none
theorem xm_bq_s {cl : List vw_C} {tt : List FieldType} {A A' : xm_H} {st st' : List Value} (h : xm_bq cl tt A st = some (st', A')) : ∃ v j a t n f ci vs q, st = .ref v :: .int j :: .ref a :: st' ∧ A[a]? = some (.inl (t, n, .inr (.inr (.inr (.inr f))))) ∧ A[v]? = some (.inr (ci, vs)) ∧ cl[ci]? = some q ∧ tt[t]? = some (.object q.1) ∧ vp_in j n ∧ j.toNatClampNeg < n ∧ A.set a (.inl (t, n, .inr (.inr (.inr (.inr (va_up f j.toNatClampNeg (some v))))))) = A' := by
  unfold xm_bq at h
  split at h
  · split at h
    · split at h
      · obtain ⟨h1, h2⟩ := xm_if h
        obtain ⟨k, hk, h3⟩ := xm_map h2
        obtain ⟨q1, rfl, q2⟩ := xm_ix_s hk
        simp only [Prod.mk.injEq] at h3
        exact ⟨_, _, _, _, _, _, _, _, _, by rw [h3.1], by assumption, by assumption, by assumption, h1, q1, q2, h3.2⟩
      · cases h
    · cases h
  · cases h
def xm_an (tt : List FieldType) (A : xm_H) : List Value → xm_P
  | .ref a :: st => (match A[a]? with
    | some (.inl (t, x)) => if t < tt.length then some (.int (Int32.ofNat x.1) :: st, A) else none
    | _ => none)
  | _ => none
theorem xm_an_s {tt : List FieldType} {A A' : xm_H} {st st' : List Value} (h : xm_an tt A st = some (st', A')) : ∃ a u t x, st = .ref a :: u ∧ A[a]? = some (.inl (t, x)) ∧ t < tt.length ∧ .int (Int32.ofNat x.1) :: u = st' ∧ A = A' := by
  unfold xm_an at h
  split at h
  · split at h
    · obtain ⟨h1, h2⟩ := xm_if h
      simp only [Option.some.injEq, Prod.mk.injEq] at h2
      exact ⟨_, _, _, _, rfl, by assumption, h1, h2.1, h2.2⟩
    · cases h
  · cases h
/-- instructions that read and write the heap -/
def xm_hp (cl : List vw_C) (tt : List FieldType) (ft : Nat → Nat → FieldType) (fr : Nat → Option (Nat × Nat × Bool)) (ini : Option Nat) (i : Jvm.ClassFile.Instr) (n : Nat) (st : List Value) (A : xm_H) : xm_P :=
  match i with
  | .getfield x => if n = 3 then xm_gf (fr x) A st else none
  | .putfield x => if n = 3 then xm_pf cl ft ini (fr x) A st else none
  | .iaload => if n = 1 then xm_ai tt .int A st else none
  | .caload => if n = 1 then xm_ai tt .char A st else none
  | .laload => if n = 1 then xm_al tt A st else none
  | .aaload => if n = 1 then xm_aq tt A st else none
  | .iastore => if n = 1 then xm_bi tt .int (fun x => x) A st else none
  | .castore => if n = 1 then xm_bi tt .char (vp_nar .char) A st else none
  | .lastore => if n = 1 then xm_bl tt A st else none
  | .aastore => if n = 1 then xm_bq cl tt A st else none
  | .arraylength => if n = 1 then xm_an tt A st else none
  | .baload => if n = 1 then xm_ai tt .boolean A st else none
  | .bastore => if n = 1 then xm_bi tt .boolean (vp_nar .boolean) A st else none
  | _ => none
theorem xm_nar (r : Nat → Nat) {ty : FieldType} {v : Value} (h : narrow ty v = v) : narrow ty (xm_v r v) = xm_v r v := by
  cases v
  case ref i => cases ty <;> rfl
  all_goals exact h
theorem xm_fits (r : Nat → Nat) (ty : FieldType) (v : Value) : fits ty (xm_v r v) = fits ty v := by
  cases v
  case ref i => cases ty <;> rfl
  all_goals rfl
/-- the fields that the pool of the class 'own' names: links that the tables have -/
def xm_FR (cl : List vw_C) (Ts : List Cond) (own : String) (args : Array Value) (s : State) (fr : Nat → Option (Nat × Nat × Bool)) : Prop :=
  ∀ x ci k b, fr x = some (ci, k, b) → ∃ C T N, cl[ci]? = some (C, T, N) ∧ k < N ∧ (∀ w ∈ u_ws C T N, w ∈ Ts) ∧ (b = false → (Cond.fieldLink own x (T k).1 (T k).2.1 (T k).2.2.1).before args s = true) ∧ (b = true → ∃ host, (Cond.fieldLinkNest own x (T k).1 (T k).2.1 (T k).2.2.1 host).before args s = true)
def xm_CL (cl : List vw_C) (ft : Nat → Nat → FieldType) : Prop :=
  ∀ ci C T N, cl[ci]? = some (C, T, N) → (∀ k, k < N → parseFieldDescriptor (T k).2.2.1 = some (ft ci k)) ∧ ∀ a, a < N → ∀ b, b < N → a ≠ b → (T a).2.1 ≠ (T b).2.1
def xm_NI (cl : List vw_C) (own : String) (meth : Method) (ini : Option Nat) : Prop := ∀ ci, ini = some ci → meth.name = "<init>" ∧ ∀ q, cl[ci]? = some q → q.1 = own
section XM3
variable {p : Program} {l : Launch} {e : Env} {R : Room} {s : State} {m : MethodId} {args : Array Value} {below : List Frame} {meth : Method} {c : Code} {H H0 : Heap} {locs : List Loc} {cells slots : Nat} {Q : State → Prop}
variable {cc : ByteArray} {pc n : Nat} {lsR : Array Slot} {r : Nat → Nat} {st st' : List Value} {A A' : xm_H}
variable {cl : List vw_C} {tt : List FieldType} {ft : Nat → Nat → FieldType} {fr : Nat → Option (Nat × Nat × Bool)} {ini : Option Nat} {Ts : List Cond} {own : String} {D : va_G} {tys : xm_T} {Ad : Nat → Prop}
set_option maxHeartbeats 4000000 in
theorem xm_hp_ok {i : Jvm.ClassFile.Instr} (hx : p.tables.exec = Jvm.exec) (hb : c.code = cc) (h : xm_hp cl tt ft fr ini i n st A = some (st', A')) (hdg : decode cc pc = .ok (i, n)) (hts : ∀ w ∈ Ts, w.before args s = true) (hown : s.vm.findClass own = some m.cls)
    (hCL : xm_CL cl ft) (hFR : xm_FR cl Ts own args s fr) (hNI : xm_NI cl own meth ini) (hTT : xm_TT tt tys) (hK : va_K D cl tys s) (hP : va_P D cl (xm_w tys r A) H) (hD : va_D Ad (xm_w tys r A)) (hS : va_S Ad H0 H locs)
    (k : ∀ H1 locs1, va_P D cl (xm_w tys r A') H1 → va_D Ad (xm_w tys r A') → va_S Ad H0 H1 locs1 → W p l e R s m args below meth c H1 locs1 cells slots Q (F0 m (pc + n) lsR (st'.map (xm_v r)))) : W p l e R s m args below meth c H locs cells slots Q (F0 m pc lsR (st.map (xm_v r))) := by
  cases i
  case getfield x =>
    obtain ⟨rfl, h0⟩ := xm_if h; replace h := h0; clear h0
    obtain ⟨a, t, ci, kk, b, fs, v, rfl, hq, ha, hv, rfl, rfl⟩ := xm_gf_s h
    obtain ⟨C, T, N, hc, hk, hin, hl0, hl1⟩ := hFR _ _ _ _ hq
    cases b with
    | false => exact va_get (v := xm_v r v) hx hb hts hin hown hK hP a (xm_w_get ha) hc kk hk (hl0 rfl) (fun _ h9 => h9) (by rw [List.getElem?_map, hv]; rfl) hdg (k H locs hP hD hS)
    | true =>
      obtain ⟨host, hl⟩ := hl1 rfl
      exact va_getN (v := xm_v r v) hx hb hts hin hown hK hP a (xm_w_get ha) hc kk hk hl (fun _ h9 => h9) (by rw [List.getElem?_map, hv]; rfl) hdg (k H locs hP hD hS)
  case putfield x =>
    obtain ⟨rfl, h0⟩ := xm_if h; replace h := h0; clear h0
    obtain ⟨v, a, ci, kk, b, fs, rfl, hq, ha, hlen, hf, hn, hfit, rfl⟩ := xm_pf_s h
    obtain ⟨C, T, N, hc, hk, hin, hl0, hl1⟩ := hFR _ _ _ _ hq
    obtain ⟨hty, hnm⟩ := hCL ci C T N hc
    have he : (xm_w tys r A).set a (r a, .inr (ci, (fs.map (xm_v r)).set kk (xm_v r v))) = xm_w tys r (A.set a (.inr (ci, fs.set kk v))) := by
      rw [← xm_w_set]
      simp only [xm_e, List.map_set]
    simp only [xm_fin, hc] at hf
    by_cases hfin : (T kk).2.2.2 = true
    · rw [if_pos hfin] at hf
      split at hf
      · rename_i c0
        simp only [Bool.and_eq_true, Bool.not_eq_true', beq_iff_eq] at hf
        obtain ⟨rfl, rfl, hd⟩ := hf
        obtain ⟨hmn, hq1⟩ := hNI _ rfl
        exact va_putF (v := xm_v r v) hx hb hts hin (ft c0) hty hnm hown hK hP hD hS a (xm_w_get ha) hc kk hk (hl0 rfl) (fun _ h9 => h9) hfin hmn (hd.trans (hq1 _ hc)) (hty kk hk) (xm_nar r hn) ((xm_fits r _ v).trans hfit) (by rw [List.length_map]; exact hlen) hdg (fun H1 locs1 a1 a2 a3 => k H1 locs1 (he ▸ a1) (he ▸ a2) a3)
      · cases hf
    · have hfin : (T kk).2.2.2 = false := by simpa using hfin
      cases b with
      | false => exact va_put (v := xm_v r v) hx hb hts hin (ft ci) hty hnm hown hK hP hD hS a (xm_w_get ha) hc kk hk (hl0 rfl) (fun _ h9 => h9) hfin (hty kk hk) (xm_nar r hn) ((xm_fits r _ v).trans hfit) (by rw [List.length_map]; exact hlen) hdg (fun H1 locs1 a1 a2 a3 => k H1 locs1 (he ▸ a1) (he ▸ a2) a3)
      | true =>
        obtain ⟨host, hl⟩ := hl1 rfl
        exact va_putN (v := xm_v r v) hx hb hts hin (ft ci) hty hnm hown hK hP hD hS a (xm_w_get ha) hc kk hk hl (fun _ h9 => h9) hfin (hty kk hk) (xm_nar r hn) ((xm_fits r _ v).trans hfit) (by rw [List.length_map]; exact hlen) hdg (fun H1 locs1 a1 a2 a3 => k H1 locs1 (he ▸ a1) (he ▸ a2) a3)
  case iaload =>
    obtain ⟨rfl, h0⟩ := xm_if h; replace h := h0; clear h0
    obtain ⟨j, a, u, t, N, f, rfl, ha, ht, hin, rfl, rfl⟩ := xm_ai_s h
    exact va_iald hx hb hK hP a t (xm_w_get ha) (hTT t _ ht) hin hdg (k H locs hP hD hS)
  case caload =>
    obtain ⟨rfl, h0⟩ := xm_if h; replace h := h0; clear h0
    obtain ⟨j, a, u, t, N, f, rfl, ha, ht, hin, rfl, rfl⟩ := xm_ai_s h
    exact va_cald hx hb hK hP a t (xm_w_get ha) (hTT t _ ht) hin hdg (k H locs hP hD hS)
  case baload =>
    obtain ⟨rfl, h0⟩ := xm_if h; replace h := h0; clear h0
    obtain ⟨j, a, u, t, N, f, rfl, ha, ht, hin, rfl, rfl⟩ := xm_ai_s h
    exact va_zald hx hb hK hP a t (xm_w_get ha) (hTT t _ ht) hin hdg (k H locs hP hD hS)
  case laload =>
    obtain ⟨rfl, h0⟩ := xm_if h; replace h := h0; clear h0
    obtain ⟨j, a, u, t, N, f, rfl, ha, ht, hin, rfl, rfl⟩ := xm_al_s h
    exact va_lald hx hb hK hP a t (xm_w_get ha) (hTT t _ ht) hin hdg (k H locs hP hD hS)
  case aaload =>
    obtain ⟨rfl, h0⟩ := xm_if h; replace h := h0; clear h0
    obtain ⟨j, a, u, t, N, f, C, rfl, ha, ht, hin, rfl, rfl⟩ := xm_aq_s h
    have hlt : j.toNatClampNeg < N := Nat.not_le.mp fun q => hin (Or.inr q)
    refine va_aldq hx hb hK hP a t (xm_w_get ha) (hTT t _ ht) hin hdg ?_
    have k := k H locs hP hD hS
    have e9 : va_rf (if j.toNatClampNeg < N then (f j.toNatClampNeg).map r else none) = xm_v r (va_rf (f j.toNatClampNeg)) := by
      rw [if_pos hlt]
      cases f j.toNatClampNeg <;> rfl
    show W p l e R s m args below meth c H locs cells slots Q (F0 m (pc + 1) lsR (va_rf (if j.toNatClampNeg < N then (f j.toNatClampNeg).map r else none) :: u.map (xm_v r)))
    rw [e9]
    exact k
  case iastore =>
    obtain ⟨rfl, h0⟩ := xm_if h; replace h := h0; clear h0
    obtain ⟨x, j, a, t, N, f, rfl, ha, ht, hin, rfl⟩ := xm_bi_s h
    have he := xm_w_set tys r A a (.inl (t, N, .inl (upd f j.toNatClampNeg x)))
    exact va_iast hx hb hK hP hD hS a t (xm_w_get ha) (hTT t _ ht) hin hdg (fun H1 locs1 a1 a2 a3 => k H1 locs1 (he ▸ a1) (he ▸ a2) a3)
  case castore =>
    obtain ⟨rfl, h0⟩ := xm_if h; replace h := h0; clear h0
    obtain ⟨x, j, a, t, N, f, rfl, ha, ht, hin, rfl⟩ := xm_bi_s h
    have he := xm_w_set tys r A a (.inl (t, N, .inl (upd f j.toNatClampNeg (vp_nar .char x))))
    exact va_cast hx hb hK hP hD hS a t (xm_w_get ha) (hTT t _ ht) hin hdg (fun H1 locs1 a1 a2 a3 => k H1 locs1 (he ▸ a1) (he ▸ a2) a3)
  case bastore =>
    obtain ⟨rfl, h0⟩ := xm_if h; replace h := h0; clear h0
    obtain ⟨x, j, a, t, N, f, rfl, ha, ht, hin, rfl⟩ := xm_bi_s h
    have he := xm_w_set tys r A a (.inl (t, N, .inl (upd f j.toNatClampNeg (vp_nar .boolean x))))
    exact va_zast hx hb hK hP hD hS a t (xm_w_get ha) (hTT t _ ht) hin hdg (fun H1 locs1 a1 a2 a3 => k H1 locs1 (he ▸ a1) (he ▸ a2) a3)
  case lastore =>
    obtain ⟨rfl, h0⟩ := xm_if h; replace h := h0; clear h0
    obtain ⟨x, j, a, t, N, f, rfl, ha, ht, hin, rfl⟩ := xm_bl_s h
    have he := xm_w_set tys r A a (.inl (t, N, .inr (.inl (vp_updL f j.toNatClampNeg x))))
    exact va_last hx hb hK hP hD hS a t (xm_w_get ha) (hTT t _ ht) hin hdg (fun H1 locs1 a1 a2 a3 => k H1 locs1 (he ▸ a1) (he ▸ a2) a3)
  case aastore =>
    obtain ⟨rfl, h0⟩ := xm_if h; replace h := h0; clear h0
    obtain ⟨v, j, a, t, N, f, ci, vs, q, rfl, ha, hv, hc, ht, hin, hlt, rfl⟩ := xm_bq_s h
    have he : (xm_w tys r A).set a (r a, .inl (xm_ty tys t, N, .inr (.inr (.inr (.inr (va_up (fun j => if j < N then (f j).map r else none) j.toNatClampNeg (some (r v)))))))) = xm_w tys r (A.set a (.inl (t, N, .inr (.inr (.inr (.inr (va_up f j.toNatClampNeg (some v)))))))) := by
      rw [← xm_w_set]
      have e9 : va_up (fun j => if j < N then (f j).map r else none) j.toNatClampNeg (some (r v)) = fun i => if i < N then ((va_up f j.toNatClampNeg (some v)) i).map r else none := by
        funext i
        by_cases hi : i = j.toNatClampNeg
        · subst hi
          simp [va_up, hlt]
        · simp [va_up, hi]
      simp only [xm_e, e9]
    exact va_astq hx hb hK hP hD hS a t v ci (xm_w_get ha) (hTT t _ ht) (xm_w_get hv) hc hin hdg (fun H1 locs1 a1 a2 a3 => k H1 locs1 (he ▸ a1) (he ▸ a2) a3)
  case arraylength =>
    obtain ⟨rfl, h0⟩ := xm_if h; replace h := h0; clear h0
    obtain ⟨a, u, t, x, rfl, ha, ht, rfl, rfl⟩ := xm_an_s h
    have hty : tt[t]? = some tt[t] := List.getElem?_eq_getElem ht
    obtain ⟨N, f | f | f | f | f⟩ := x
    · exact va_alen hx hb hK hP a t (xm_w_get ha) (hTT t _ hty) rfl hdg (k H locs hP hD hS)
    · exact va_alen hx hb hK hP a t (xm_w_get ha) (hTT t _ hty) rfl hdg (k H locs hP hD hS)
    · exact va_alen hx hb hK hP a t (xm_w_get ha) (hTT t _ hty) rfl hdg (k H locs hP hD hS)
    · exact va_alen hx hb hK hP a t (xm_w_get ha) (hTT t _ hty) rfl hdg (k H locs hP hD hS)
    · exact va_alen hx hb hK hP a t (xm_w_get ha) (hTT t _ hty) rfl hdg (k H locs hP hD hS)
  all_goals exact absurd h (by simp [xm_hp])
end XM3
end
section
/-! The abstract machine makes cells: the addresses r grow by one; a check that no place is used that isn't there yet. Places from xm_K0 on are the String constants. -/
def xm_K0 : Nat := 1000000000
def xm_okV (n : Nat) : Value → Bool
  | .ref i => decide (i < n) || decide (xm_K0 ≤ i)
  | _ => true
def xm_okE (n : Nat) : va_E → Bool
  | .inl (_, _, .inl _) => true
  | .inl (_, _, .inr (.inl _)) => true
  | .inl (_, _, .inr (.inr (.inl _))) => true
  | .inl (_, _, .inr (.inr (.inr (.inl _)))) => true
  | .inl (_, N, .inr (.inr (.inr (.inr f)))) => (List.range N).all (fun j => match f j with
    | some i => xm_okV n (.ref i)
    | none => true)
  | .inr (_, fs) => fs.all (xm_okV n)
def xm_okS (A : xm_H) (ls : xm_L) (st : List Value) : Bool := A.all (xm_okE A.length) && (ls.all (fun q => xm_okV A.length q.2) && (st.all (xm_okV A.length) && decide (A.length < xm_K0)))
/-- r' is r on all that was there -/
def xm_ag (n : Nat) (r r' : Nat → Nat) : Prop := ∀ i, i < n ∨ xm_K0 ≤ i → r' i = r i
theorem xm_ag.rf {n : Nat} {r : Nat → Nat} : xm_ag n r r := fun _ _ => rfl
theorem xm_ag.trans {n n1 : Nat} {r r1 r2 : Nat → Nat} (h : xm_ag n r r1) (h1 : xm_ag n1 r1 r2) (hn : n ≤ n1) : xm_ag n r r2 := fun i hi => (h1 i (hi.elim (fun q => Or.inl (Nat.lt_of_lt_of_le q hn)) Or.inr)).trans (h i hi)
theorem xm_ag_v {n : Nat} {r r' : Nat → Nat} (h : xm_ag n r r') {v : Value} (hv : xm_okV n v = true) : xm_v r' v = xm_v r v := by
  cases v
  case ref i =>
    have hi : i < n ∨ xm_K0 ≤ i := by simpa [xm_okV] using hv
    show Value.ref (r' i) = Value.ref (r i)
    rw [h i hi]
  all_goals rfl
theorem xm_ag_s {n : Nat} {r r' : Nat → Nat} (h : xm_ag n r r') : ∀ {st : List Value}, st.all (xm_okV n) = true → st.map (xm_v r') = st.map (xm_v r) := by
  intro st hs
  apply List.map_congr_left
  intro v hv
  exact xm_ag_v h (List.all_eq_true.mp hs v hv)
theorem xm_ag_l {n : Nat} {r r' : Nat → Nat} (h : xm_ag n r r') {ls : xm_L} (hs : ls.all (fun q => xm_okV n q.2) = true) : xm_lm r' ls = xm_lm r ls := by
  apply List.map_congr_left
  intro q hq
  rw [xm_ag_v h (List.all_eq_true.mp hs q hq)]
theorem xm_ag_e {n : Nat} {r r' : Nat → Nat} (h : xm_ag n r r') (tys : xm_T) {e : va_E} (he : xm_okE n e = true) : xm_e tys r' e = xm_e tys r e := by
  obtain ⟨t, N, f | f | f | f | f⟩ | ⟨ci, fs⟩ := e
  · rfl
  · rfl
  · rfl
  · rfl
  · simp only [xm_e]
    have e9 : (fun j => if j < N then (f j).map r' else none) = fun j => if j < N then (f j).map r else none := by
      funext j
      by_cases hj : j < N
      · rw [if_pos hj, if_pos hj]
        have h1 := List.all_eq_true.mp he j (List.mem_range.mpr hj)
        cases hf : f j with
        | none => rfl
        | some i =>
          rw [hf] at h1
          have hi : i < n ∨ xm_K0 ≤ i := by simpa [xm_okV] using h1
          show some (r' i) = some (r i)
          rw [h i hi]
      · rw [if_neg hj, if_neg hj]
    rw [e9]
  · simp only [xm_e]
    rw [xm_ag_s h he]
theorem xm_ag_w {r r' : Nat → Nat} {A : xm_H} (h : xm_ag A.length r r') (tys : xm_T) (hA : A.all (xm_okE A.length) = true) : xm_w tys r' A = xm_w tys r A := by
  apply List.ext_getElem?
  intro j
  simp only [xm_w, List.getElem?_mapIdx]
  cases hj : A[j]? with
  | none => rfl
  | some e =>
    have hl : j < A.length := (List.getElem?_eq_some_iff.mp hj).1
    have he := List.all_eq_true.mp hA e (List.mem_of_getElem? hj)
    show some (r' j, xm_e tys r' e) = some (r j, xm_e tys r e)
    rw [h j (Or.inl hl), xm_ag_e h tys he]
def xm_up (r : Nat → Nat) (n q : Nat) : Nat → Nat := fun i => if i = n then q else r i
theorem xm_up_ag {r : Nat → Nat} {n q : Nat} (hn : n < xm_K0) : xm_ag n r (xm_up r n q) := fun i hi => if_neg (fun e => by subst e; omega)
theorem xm_w_push {r : Nat → Nat} {A : xm_H} (tys : xm_T) (e : va_E) (q : Nat) (hA : A.all (xm_okE A.length) = true) (he : xm_okE A.length e = true) (hn : A.length < xm_K0) : xm_w tys (xm_up r A.length q) (A ++ [e]) = xm_w tys r A ++ [(q, xm_e tys r e)] := by
  have h : xm_ag A.length r (xm_up r A.length q) := xm_up_ag hn
  rw [← xm_ag_w h tys hA, ← xm_ag_e h tys he]
  unfold xm_w
  rw [List.mapIdx_append]
  congr 1
  simp [xm_up]
/-- the array types, prim -/
def xm_pr : FieldType → Bool
  | .int | .char | .boolean | .byte | .short | .long => true
  | _ => false
def xm_da (ty : FieldType) (N : Nat) : vp_A := match ty with
  | .long => (N, .inr (.inl (fun _ => 0)))
  | _ => (N, .inl (fun _ => 0))
theorem xm_da_ok {ty : FieldType} (h : xm_pr ty = true) (cA : ClassId) (N : Nat) : vp_cell cA (xm_da ty N) = arrV cA N (fun _ => defaultValue ty) := by
  cases ty <;> first | rfl | cases h
theorem xm_da_e {ty : FieldType} (tys : xm_T) (r : Nat → Nat) (t N : Nat) : xm_e tys r (.inl (t, xm_da ty N)) = .inl (xm_ty tys t, xm_da ty N) := by
  cases ty <;> rfl
theorem xm_da_k {ty : FieldType} (n t N : Nat) : xm_okE n (.inl (t, xm_da ty N)) = true := by
  cases ty <;> rfl
theorem xm_cb {ty : FieldType} (h : xm_pr ty = true) {N : Nat} (hN : N ≤ 1000000) : N * componentBytes ty ≤ 536870912 := by
  cases ty <;> first | (simp only [componentBytes]; omega) | cases h
theorem xm_ra_eq {U : State} {a b : ClassId} {ty : FieldType} (h1 : va_RA U a ty) (h2 : va_RA U b ty) : a = b := by
  cases ty
  case object C =>
    obtain ⟨_, _, -, -, -, e1⟩ := h1
    obtain ⟨_, _, -, -, -, e2⟩ := h2
    exact Option.some.inj (e1.symm.trans e2)
  all_goals exact Option.some.inj (h1.symm.trans h2)
def xm_def (ft : Nat → Nat → FieldType) (ci N : Nat) : List Value := (List.range N).map (fun k => defaultValue (ft ci k))
theorem xm_def_v (ft : Nat → Nat → FieldType) (ci N : Nat) : ∀ j, j < N → defaultValue (ft ci j) = vp_V (xm_def ft ci N) j := by
  intro j hj
  simp [vp_V, xm_def, hj]
theorem xm_dv_m (r : Nat → Nat) (ty : FieldType) : xm_v r (defaultValue ty) = defaultValue ty := by cases ty <;> rfl
theorem xm_def_m (r : Nat → Nat) (ft : Nat → Nat → FieldType) (ci N : Nat) : (xm_def ft ci N).map (xm_v r) = xm_def ft ci N := by
  simp only [xm_def, List.map_map, Function.comp_def, xm_dv_m]
theorem xm_def_k (n : Nat) (ft : Nat → Nat → FieldType) (ci N : Nat) : (xm_def ft ci N).all (xm_okV n) = true := by
  rw [List.all_eq_true]
  intro v hv
  obtain ⟨k, -, rfl⟩ := List.mem_map.mp hv
  cases ft ci k <;> rfl
/-- the new cell, the stack without it, its slots -/
def xm_nw (cl : List vw_C) (tt : List FieldType) (ft : Nat → Nat → FieldType) (nr qr : Nat → Option Nat) (ta : Jvm.ClassFile.ArrayType → Option Nat) (i : Jvm.ClassFile.Instr) (n : Nat) (st : List Value) : Option (List Value × va_E × Nat) :=
  match i with
  | .new x => if n = 3 then (match nr x with
    | some ci => (match cl[ci]? with
      | some q => some (st, .inr (ci, xm_def ft ci q.2.2), q.2.2)
      | none => none)
    | none => none) else none
  | .newarray a => if n = 2 then (match st, ta a with
    | .int x :: rest, some t => if ¬ x < 0 ∧ x.toNatClampNeg ≤ 1000000 ∧ tt[t]? = some (newarray.typeOf a) ∧ xm_pr (newarray.typeOf a) = true then some (rest, .inl (t, xm_da (newarray.typeOf a) x.toNatClampNeg), x.toNatClampNeg) else none
    | _, _ => none) else none
  | .anewarray x => if n = 3 then (match st, qr x with
    | .int x :: rest, some t => if ¬ x < 0 ∧ x.toNatClampNeg ≤ 1000000 then some (rest, .inl (t, x.toNatClampNeg, .inr (.inr (.inr (.inr (fun _ => none))))), x.toNatClampNeg) else none
    | _, _ => none) else none
  | _ => none
/-- the classes and arrays that the pool of 'own' names for making -/
def xm_NR (cl : List vw_C) (Ts : List Cond) (own : String) (args : Array Value) (s : State) (nr : Nat → Option Nat) : Prop :=
  ∀ x ci, nr x = some ci → ∀ C T N, cl[ci]? = some (C, T, N) → (∀ w ∈ u_ws C T N, w ∈ Ts) ∧ (Cond.classLink own x C).before args s = true ∧ (Cond.instantiable C N).before args s = true ∧ (Cond.initialized C).before args s = true
def xm_QR (tt : List FieldType) (own : String) (args : Array Value) (s : State) (qr : Nat → Option Nat) : Prop :=
  ∀ x t, qr x = some t → ∃ C, tt[t]? = some (.object C) ∧ (Cond.classLink own x C).before args s = true ∧ va_AO C s
def xm_TA (args : Array Value) (s : State) (ta : Jvm.ClassFile.ArrayType → Option Nat) : Prop :=
  ∀ a t, ta a = some t → (Cond.arrayClass (newarray.typeOf a)).before args s = true
section XM4
variable {p : Program} {l : Launch} {e : Env} {R : Room} {s : State} {m : MethodId} {args : Array Value} {below : List Frame} {meth : Method} {c : Code} {H H0 : Heap} {locs : List Loc} {cells slots : Nat} {Q : State → Prop}
variable {cc : ByteArray} {pc n : Nat} {lsR : Array Slot} {r : Nat → Nat} {st st' : List Value} {A : xm_H} {ev : va_E} {ns : Nat}
variable {cl : List vw_C} {tt : List FieldType} {ft : Nat → Nat → FieldType} {nr qr : Nat → Option Nat} {ta : Jvm.ClassFile.ArrayType → Option Nat} {Ts : List Cond} {own : String} {D : va_G} {tys : xm_T} {Ad : Nat → Prop}
set_option maxHeartbeats 4000000 in
theorem xm_nw_ok {i : Jvm.ClassFile.Instr} (hx : p.tables.exec = Jvm.exec) (hb : c.code = cc) (h : xm_nw cl tt ft nr qr ta i n st = some (st', ev, ns)) (hdg : decode cc pc = .ok (i, n)) (hts : ∀ w ∈ Ts, w.before args s = true) (hown : s.vm.findClass own = some m.cls)
    (hCL : xm_CL cl ft) (hNR : xm_NR cl Ts own args s nr) (hQR : xm_QR tt own args s qr) (hTA : xm_TA args s ta) (hTT : xm_TT tt tys) (hA : A.all (xm_okE A.length) = true) (hst : st'.all (xm_okV A.length) = true) (hn0 : A.length < xm_K0)
    (hK : va_K D cl tys s) (hP : va_P D cl (xm_w tys r A) H) (hD : va_D Ad (xm_w tys r A)) (hS : va_S Ad H0 H locs) (hAd : ∀ q, H0.size ≤ q → Ad q) (hc : cells + 1 ≤ R.cells) (hs : slots + ns ≤ R.slots)
    (k : ∀ r' H1, xm_ag A.length r r' → va_P D cl (xm_w tys r' (A ++ [ev])) H1 → va_D Ad (xm_w tys r' (A ++ [ev])) → va_S Ad H0 H1 locs → W p l e R s m args below meth c H1 locs (cells + 1) (slots + ns) Q (F0 m (pc + n) lsR ((.ref A.length :: st').map (xm_v r')))) : W p l e R s m args below meth c H locs cells slots Q (F0 m pc lsR (st.map (xm_v r))) := by
  have key : ∀ (q : Nat) (ev' : va_E) (H1 : Heap) (n1 ns1 : Nat), xm_okE A.length ev = true → xm_e tys r ev = ev' → ns1 = ns → n1 = n → va_P D cl (xm_w tys r A ++ [(q, ev')]) H1 → va_D Ad (xm_w tys r A ++ [(q, ev')]) → va_S Ad H0 H1 locs → W p l e R s m args below meth c H1 locs (cells + 1) (slots + ns1) Q (F0 m (pc + n1) lsR (.ref q :: st'.map (xm_v r))) := by
    intro q ev' H1 n1 ns1 he hev hns hn1 a1 a2 a3
    subst hev; subst hns; subst hn1
    have h9 := k (xm_up r A.length q) H1 (xm_up_ag hn0) (by rw [xm_w_push tys ev q hA he hn0]; exact a1) (by rw [xm_w_push tys ev q hA he hn0]; exact a2) a3
    rw [List.map_cons, xm_ag_s (xm_up_ag hn0) hst] at h9
    have e9 : xm_v (xm_up r A.length q) (.ref A.length) = .ref q := by simp [xm_v, xm_up]
    rw [e9] at h9
    exact h9
  cases i
  case new x =>
    simp only [xm_nw] at h
    obtain ⟨rfl, h0⟩ := xm_if h
    split at h0
    · rename_i ci hci
      split at h0
      · rename_i q hq
        obtain ⟨C, T, N⟩ := q
        simp only [Option.some.injEq, Prod.mk.injEq] at h0
        obtain ⟨rfl, rfl, rfl⟩ := h0
        obtain ⟨hin, h1, h2, h3⟩ := hNR x ci hci C T N hq
        obtain ⟨hty, -⟩ := hCL ci C T N hq
        refine va_new (fs := xm_def ft ci N) hx hb hts hin (ft ci) hty hown h1 h2 h3 hK hP hD hS hAd hq (xm_def_v ft ci N) hc hs hdg (fun q H1 a1 a2 a3 => ?_)
        exact key q _ H1 3 N (xm_def_k _ _ _ _) (by simp only [xm_e, xm_def_m]) rfl rfl a1 a2 a3
      · cases h0
    · cases h0
  case newarray a =>
    simp only [xm_nw] at h
    obtain ⟨rfl, h0⟩ := xm_if h
    split at h0
    · rename_i x rest t ht
      obtain ⟨⟨h1, h2, h3, h4⟩, h5⟩ := xm_if h0
      simp only [Option.some.injEq, Prod.mk.injEq] at h5
      obtain ⟨rfl, rfl, rfl⟩ := h5
      have hc9 := hTA a t ht
      refine va_newa (ty := newarray.typeOf a) (a0 := xm_da (newarray.typeOf a) x.toNatClampNeg) hx hb hc9 rfl hK hP hD hS hAd (fun cA => xm_da_ok h4 cA _) h1 rfl (xm_cb h4 h2) hc hs hdg (fun q cA H1 a0 a1 a2 a3 => ?_)
      have e9 : xm_ty tys t = cA := xm_ra_eq (hK.2 t _ (hTT t _ h3)).2 (a0.2 tys.length (cA, newarray.typeOf a) (by simp)).2
      exact key q _ H1 2 _ (xm_da_k _ _ _) (by rw [xm_da_e, e9]) rfl rfl a1 a2 a3
    · cases h0
  case anewarray y =>
    simp only [xm_nw] at h
    obtain ⟨rfl, h0⟩ := xm_if h
    split at h0
    · rename_i x rest t ht
      obtain ⟨⟨h1, h2⟩, h5⟩ := xm_if h0
      simp only [Option.some.injEq, Prod.mk.injEq] at h5
      obtain ⟨rfl, rfl, rfl⟩ := h5
      obtain ⟨C, h3, h4, h6⟩ := hQR y t ht
      refine va_newq hx hb hown h4 h6 hK hP hD hS hAd h1 rfl (by omega) hc hs hdg (fun q cA H1 a0 a1 a2 a3 => ?_)
      have e9 : xm_ty tys t = cA := xm_ra_eq (hK.2 t _ (hTT t _ h3)).2 (a0.2 tys.length (cA, .object C) (by simp)).2
      refine key q _ H1 3 _ (by simp [xm_okE]) ?_ rfl rfl a1 a2 a3
      simp [xm_e, e9]
    · cases h0
  all_goals exact absurd h (by simp [xm_nw])
end XM4
end
section
/-! The abstract machine runs: a method's body with fuel (xm_rn), over what calls answer. -/
abbrev xm_R : Type := xm_H × (Option Value ⊕ Nat) × Nat × Nat
def xm_re (ret : Option FieldType) (i : Jvm.ClassFile.Instr) (n : Nat) (st : List Value) : Option (Option Value) :=
  match i with
  | .return_ => if n = 1 then (match st, ret with
    | [], none => some none
    | _, _ => none) else none
  | .ireturn => if n = 1 then (match st, ret with
    | [.int x], some ty => if narrow ty (.int x) = .int x then some (some (.int x)) else none
    | _, _ => none) else none
  | .lreturn => if n = 1 then (match st, ret with
    | [.long x], some .long => some (some (.long x))
    | _, _ => none) else none
  | .areturn => if n = 1 then (match st, ret with
    | [.ref a], some (.object _) => some (some (.ref a))
    | [.null], some (.object _) => some (some .null)
    | _, _ => none) else none
  | _ => none
def xm_sv (na : Nat) (st : List Value) : Option (Nat × List Value × List Value) := match st.drop na with
  | .ref b :: rest => if na ≤ st.length ∧ (rest.map (fun v => v.category)).sum ≤ 8 then some (b, (st.take na).reverse, rest) else none
  | _ => none
theorem xm_sv_s {na b : Nat} {st As rest : List Value} (h : xm_sv na st = some (b, As, rest)) : st = As.reverse ++ .ref b :: rest ∧ As.length = na ∧ (rest.map (fun v => v.category)).sum ≤ 8 := by
  unfold xm_sv at h
  split at h
  · rename_i b' rest' hd
    obtain ⟨⟨h1, h2⟩, h3⟩ := xm_if h
    simp only [Option.some.injEq, Prod.mk.injEq] at h3
    obtain ⟨rfl, rfl, rfl⟩ := h3
    refine ⟨?_, by simp [h1], h2⟩
    rw [List.reverse_reverse, ← hd, List.take_append_drop]
  · cases h
def xm_ss (na : Nat) (st : List Value) : Option (List Value × List Value) := if na ≤ st.length ∧ ((st.drop na).map (fun v => v.category)).sum ≤ 8 then some ((st.take na).reverse, st.drop na) else none
theorem xm_ss_s {na : Nat} {st As rest : List Value} (h : xm_ss na st = some (As, rest)) : st = As.reverse ++ rest ∧ As.length = na ∧ (rest.map (fun v => v.category)).sum ≤ 8 := by
  unfold xm_ss at h
  obtain ⟨⟨h1, h2⟩, h3⟩ := xm_if h
  simp only [Option.some.injEq, Prod.mk.injEq] at h3
  obtain ⟨rfl, rfl⟩ := h3
  refine ⟨?_, by simp [h1], h2⟩
  rw [List.reverse_reverse, List.take_append_drop]
/-- a call: the method, its arguments, the stack below -/
def xm_ca (oc : Nat → Nat) (cr : Nat → Option (Nat × Nat × Bool × Nat)) (i : Jvm.ClassFile.Instr) (n : Nat) (st : List Value) (A : xm_H) : Option (Nat × List Value × List Value) :=
  match i with
  | .invokevirtual x => if n = 3 then (match cr x with
    | some (0, k, _, na) => (match xm_sv na st with
      | some (b, As, rest) => (match A[b]? with
        | some (.inr (cj, _)) => if cj = oc k then some (k, .ref b :: As, rest) else none
        | _ => none)
      | none => none)
    | _ => none) else none
  | .invokestatic x => if n = 3 then (match cr x with
    | some (1, k, _, na) => (match xm_ss na st with
      | some (As, rest) => some (k, As, rest)
      | none => none)
    | _ => none) else none
  | .invokespecial x => if n = 3 then (match cr x with
    | some (2, k, _, na) => (match xm_sv na st with
      | some (b, As, rest) => some (k, .ref b :: As, rest)
      | none => none)
    | _ => none) else none
  | _ => none
section XM5
variable (call : Nat → xm_H → List Value → Option xm_R) (xt : Jvm.ClassFile.Instr → Nat → List Value → xm_H → xm_P) (xc : Jvm.ClassFile.Instr → Nat → List Value → xm_H → Option (List Value × xm_H × Nat × Nat))
variable (cl : List vw_C) (tt : List FieldType) (ft : Nat → Nat → FieldType) (fr : Nat → Option (Nat × Nat × Bool)) (ini : Option Nat) (nr qr : Nat → Option Nat) (ta : Jvm.ClassFile.ArrayType → Option Nat) (oc : Nat → Nat) (cr : Nat → Option (Nat × Nat × Bool × Nat))
variable (cc : ByteArray) (nL : Nat) (ret : Option FieldType)
def xm_rn : Nat → Nat → xm_L → List Value → xm_H → Nat → Nat → Option xm_R
  | 0, _, _, _, _, _, _ => none
  | f + 1, pc, ls, st, A, nc, ns => match decode cc pc with
    | .error _ => none
    | .ok (i, n) => match xm_pu nL i n ls st with
      | some q => xm_rn f (pc + n) q.1 q.2 A nc ns
      | none => match xm_br i n pc st with
        | some q => if q.1 = true then xm_rn f q.2.1 ls q.2.2 A nc ns else xm_rn f (pc + n) ls q.2.2 A nc ns
        | none => match xm_hp cl tt ft fr ini i n st A with
          | some q => xm_rn f (pc + n) ls q.1 q.2 nc ns
          | none => match xm_re ret i n st with
            | some v => some (A, .inl v, nc, ns)
            | none => match xm_ca oc cr i n st A with
              | some q => (match call q.1 A q.2.1 with
                | some (A', .inl v, c1, s1) => if A'.length = A.length ∨ xm_okS A ls q.2.2 = true then xm_rn f (pc + 3) ls (v.toList ++ q.2.2) A' (nc + c1) (ns + s1) else none
                | _ => none)
              | none => match xm_nw cl tt ft nr qr ta i n st with
                | some q => if xm_okS A ls q.1 = true then xm_rn f (pc + n) ls (.ref A.length :: q.1) (A ++ [q.2.1]) (nc + 1) (ns + q.2.2) else none
                | none => match xt i n st A with
                  | some q => xm_rn f (pc + n) ls q.1 q.2 nc ns
                  | none => match xc i n st A with
                    | some q => xm_rn f (pc + n) ls q.1 q.2.1 (nc + q.2.2.1) (ns + q.2.2.2)
                    | none => none
end XM5
theorem xm_hp_len {cl : List vw_C} {tt : List FieldType} {ft : Nat → Nat → FieldType} {fr : Nat → Option (Nat × Nat × Bool)} {ini : Option Nat} {i : Jvm.ClassFile.Instr} {n : Nat} {st st' : List Value} {A A' : xm_H} (h : xm_hp cl tt ft fr ini i n st A = some (st', A')) : A'.length = A.length := by
  cases i
  case getfield x => obtain ⟨-, h0⟩ := xm_if h; obtain ⟨_, _, _, _, _, _, _, -, -, -, -, -, rfl⟩ := xm_gf_s h0; rfl
  case putfield x => obtain ⟨-, h0⟩ := xm_if h; obtain ⟨_, _, _, _, _, _, -, -, -, -, -, -, -, rfl⟩ := xm_pf_s h0; exact List.length_set
  case iaload => obtain ⟨-, h0⟩ := xm_if h; obtain ⟨_, _, _, _, _, _, -, -, -, -, -, rfl⟩ := xm_ai_s h0; rfl
  case caload => obtain ⟨-, h0⟩ := xm_if h; obtain ⟨_, _, _, _, _, _, -, -, -, -, -, rfl⟩ := xm_ai_s h0; rfl
  case baload => obtain ⟨-, h0⟩ := xm_if h; obtain ⟨_, _, _, _, _, _, -, -, -, -, -, rfl⟩ := xm_ai_s h0; rfl
  case laload => obtain ⟨-, h0⟩ := xm_if h; obtain ⟨_, _, _, _, _, _, -, -, -, -, -, rfl⟩ := xm_al_s h0; rfl
  case aaload => obtain ⟨-, h0⟩ := xm_if h; obtain ⟨_, _, _, _, _, _, _, -, -, -, -, -, rfl⟩ := xm_aq_s h0; rfl
  case iastore => obtain ⟨-, h0⟩ := xm_if h; obtain ⟨_, _, _, _, _, _, -, -, -, -, rfl⟩ := xm_bi_s h0; exact List.length_set
  case castore => obtain ⟨-, h0⟩ := xm_if h; obtain ⟨_, _, _, _, _, _, -, -, -, -, rfl⟩ := xm_bi_s h0; exact List.length_set
  case bastore => obtain ⟨-, h0⟩ := xm_if h; obtain ⟨_, _, _, _, _, _, -, -, -, -, rfl⟩ := xm_bi_s h0; exact List.length_set
  case lastore => obtain ⟨-, h0⟩ := xm_if h; obtain ⟨_, _, _, _, _, _, -, -, -, -, rfl⟩ := xm_bl_s h0; exact List.length_set
  case aastore => obtain ⟨-, h0⟩ := xm_if h; obtain ⟨_, _, _, _, _, _, _, _, _, -, -, -, -, -, -, -, rfl⟩ := xm_bq_s h0; exact List.length_set
  case arraylength => obtain ⟨-, h0⟩ := xm_if h; obtain ⟨_, _, _, _, -, -, -, -, rfl⟩ := xm_an_s h0; rfl
  all_goals exact absurd h (by simp [xm_hp])
/-- nothing is lost: the heap and the two counts grow -/
theorem xm_rn_mono {call : Nat → xm_H → List Value → Option xm_R} {xt : Jvm.ClassFile.Instr → Nat → List Value → xm_H → xm_P} {xc : Jvm.ClassFile.Instr → Nat → List Value → xm_H → Option (List Value × xm_H × Nat × Nat)}
    {cl : List vw_C} {tt : List FieldType} {ft : Nat → Nat → FieldType} {fr : Nat → Option (Nat × Nat × Bool)} {ini : Option Nat} {nr qr : Nat → Option Nat} {ta : Jvm.ClassFile.ArrayType → Option Nat} {oc : Nat → Nat} {cr : Nat → Option (Nat × Nat × Bool × Nat)} {cc : ByteArray} {nL : Nat} {ret : Option FieldType}
    (hcall : ∀ k A As A' o c1 s1, call k A As = some (A', o, c1, s1) → A.length ≤ A'.length) (hxt : ∀ i n st A st' A', xt i n st A = some (st', A') → A'.length = A.length) (hxc : ∀ i n st A st' A' c1 s1, xc i n st A = some (st', A', c1, s1) → A'.length = A.length) :
    ∀ (f pc : Nat) (ls : xm_L) (st : List Value) (A : xm_H) (nc ns : Nat) (A' : xm_H) (o : Option Value ⊕ Nat) (nc' ns' : Nat), xm_rn call xt xc cl tt ft fr ini nr qr ta oc cr cc nL ret f pc ls st A nc ns = some (A', o, nc', ns') → A.length ≤ A'.length ∧ nc ≤ nc' ∧ ns ≤ ns' := by
  intro f
  induction f with
  | zero => intro pc ls st A nc ns A' o nc' ns' h; cases h
  | succ f ih =>
    intro pc ls st A nc ns A' o nc' ns' h
    rw [xm_rn] at h
    split at h
    · cases h
    · split at h
      · exact ih _ _ _ _ _ _ _ _ _ _ h
      · split at h
        · split at h
          · exact ih _ _ _ _ _ _ _ _ _ _ h
          · exact ih _ _ _ _ _ _ _ _ _ _ h
        · split at h
          · rename_i q hq
            have h1 := ih _ _ _ _ _ _ _ _ _ _ h
            rw [xm_hp_len hq] at h1
            exact h1
          · split at h
            · simp only [Option.some.injEq, Prod.mk.injEq] at h
              obtain ⟨rfl, -, rfl, rfl⟩ := h
              exact ⟨Nat.le_refl _, Nat.le_refl _, Nat.le_refl _⟩
            · split at h
              · split at h
                · rename_i A1 v c1 s1 hc
                  obtain ⟨-, h⟩ := xm_if h
                  have h1 := ih _ _ _ _ _ _ _ _ _ _ h
                  have h2 := hcall _ _ _ _ _ _ _ hc
                  exact ⟨by omega, by omega, by omega⟩
                · cases h
              · split at h
                · obtain ⟨-, h⟩ := xm_if h
                  have h1 := ih _ _ _ _ _ _ _ _ _ _ h
                  simp only [List.length_append, List.length_cons, List.length_nil] at h1
                  exact ⟨by omega, by omega, by omega⟩
                · split at h
                  · rename_i q hq
                    have h1 := ih _ _ _ _ _ _ _ _ _ _ h
                    rw [hxt _ _ _ _ _ _ hq] at h1
                    exact h1
                  · split at h
                    · rename_i q hq
                      have h1 := ih _ _ _ _ _ _ _ _ _ _ h
                      rw [hxc _ _ _ _ _ _ _ _ hq] at h1
                      exact ⟨by omega, by omega, by omega⟩
                    · cases h
end
section
/-! What the abstract machine runs, the machine does. -/
section XM6
variable {p : Program} {l : Launch} {e : Env} {R : Room} {s : State} {m : MethodId} {args : Array Value} {below : List Frame} {meth : Method} {c : Code} {H H0 : Heap} {locs : List Loc} {cells slots : Nat} {Q : State → Prop}
variable {cc : ByteArray} {pc n : Nat} {lsR : Array Slot} {r : Nat → Nat} {st : List Value}
set_option maxHeartbeats 4000000 in
/-- a return: the answer, under the addresses at the end -/
theorem xm_re_ok {i : Jvm.ClassFile.Instr} {ret : Option FieldType} {v : Option Value} {Qc : Array Value → State → Outcome → State → Prop} {Ad : Nat → Prop} (hx : p.tables.exec = Jvm.exec) (hb : c.code = cc) (h : xm_re ret i n st = some v) (hdg : decode cc pc = .ok (i, n)) (hr : meth.sig.returnType = ret) (hlocks : meth.locks = false)
    (hq : ∀ t : State, t.heap = H → s.WarmedH t.vm → Qc args s (.returned (v.map (xm_v r))) t) (hf : ∀ q ∈ locs, Ad q.base) : W p l e R s m args below meth c H locs cells slots (MQ below Qc args s cells slots Ad) (F0 m pc lsR (st.map (xm_v r))) := by
  cases i
  case return_ =>
    obtain ⟨rfl, h0⟩ := xm_if h
    split at h0
    · cases h0
      exact W.vret hx hb hr hq hf hdg
    · cases h0
  case ireturn =>
    obtain ⟨rfl, h0⟩ := xm_if h
    split at h0
    · obtain ⟨h1, h2⟩ := xm_if h0
      cases h2
      exact W.zret hx hb hr h1 hq hf hdg
    · cases h0
  case lreturn =>
    obtain ⟨rfl, h0⟩ := xm_if h
    split at h0
    · cases h0
      exact W.lret hx hb hr hq hf hdg
    · cases h0
  case areturn =>
    obtain ⟨rfl, h0⟩ := xm_if h
    split at h0
    · cases h0
      exact W.aret hx hb hr (Or.inl ⟨_, rfl⟩) (Or.inr ⟨_, rfl⟩) hq hf hdg
    · cases h0
      exact W.aret hx hb hr (Or.inl ⟨_, rfl⟩) (Or.inl rfl) hq hf hdg
    · cases h0
  all_goals exact absurd h (by simp [xm_re])
end XM6
/-- the cells that a method may change: its world's, and new ones -/
def xm_ad (r : Nat → Nat) (n0 sz : Nat) : Nat → Prop := fun q => (∃ i, i < n0 ∧ q = r i) ∨ sz ≤ q
theorem xm_w_in {tys : xm_T} {r : Nat → Nat} {A : xm_H} {k : Nat} {q : Nat × va_E} (h : (xm_w tys r A)[k]? = some q) : k < A.length ∧ q.1 = r k := by
  simp only [xm_w, List.getElem?_mapIdx] at h
  cases hj : A[k]? with
  | none => rw [hj] at h; cases h
  | some e => rw [hj] at h; cases h; exact ⟨(List.getElem?_eq_some_iff.mp hj).1, rfl⟩
theorem xm_ad_D {tys : xm_T} {r : Nat → Nat} {A : xm_H} {B : Nat → Prop} (sz : Nat) (h : va_D B (xm_w tys r A)) : va_D (xm_ad r A.length sz) (xm_w tys r A) := h.weaken (fun k q hk _ => Or.inl ⟨k, (xm_w_in hk).1, (xm_w_in hk).2⟩)
theorem xm_ad_sub {tys : xm_T} {r : Nat → Nat} {A : xm_H} {B : Nat → Prop} {sz : Nat} (h : va_D B (xm_w tys r A)) (hB : ∀ q, sz ≤ q → B q) : ∀ q, xm_ad r A.length sz q → B q := by
  intro q hq
  rcases hq with ⟨i, hi, rfl⟩ | hq
  · exact h.2 i _ (xm_w_get (List.getElem?_eq_getElem hi))
  · exact hB q hq
theorem xm_SN {A B : Nat → Prop} {H0 H : Heap} {locs : List Loc} (hAB : ∀ q, A q → B q) (h : va_S A H0 H locs) : va_S B H0 H locs := ⟨h.1, fun q h1 h2 => h.2.1 q h1 (fun z => h2 (hAB q z)), fun q hq => hAB _ (h.2.2 q hq)⟩
/-- a contract's start: the abstract heap A stands under the addresses r, all from N0 on, and the heap is of size sz; G: what holds of the tables and of the constants all along -/
def xm_Pc (D : va_G) (cl : List vw_C) (tys : xm_T) (N0 : Nat) (G : State → Prop) (r : Nat → Nat) (A : xm_H) (sz : Nat) (As : List Value) : Array Value → State → Prop :=
  va_Pc (As.map (xm_v r)) (fun U => (N0 ≤ sz ∧ U.heap.size = sz) ∧ va_P D cl (xm_w tys r A) U.heap ∧ va_K D cl tys U ∧ va_D (fun q => N0 ≤ q) (xm_w tys r A) ∧ G U)
/-- its end: the heap A', under addresses that go on from r; nothing below N0 has changed -/
def xm_Q (D : va_G) (cl : List vw_C) (tys : xm_T) (r : Nat → Nat) (n0 sz : Nat) (A' : xm_H) (v : Option Value) : Array Value → State → Outcome → State → Prop := fun _ st oc t =>
  (∃ r' : Nat → Nat, xm_ag n0 r r' ∧ (A'.length = n0 → r' = r) ∧ oc = .returned (v.map (xm_v r')) ∧ va_P D cl (xm_w tys r' A') t.heap ∧ va_D (xm_ad r n0 sz) (xm_w tys r' A')) ∧ va_F (xm_ad r n0 sz) st t
theorem xm_Pc_blind {D : va_G} {cl : List vw_C} {tys : xm_T} {N0 : Nat} {G : State → Prop} {r : Nat → Nat} {A : xm_H} {sz : Nat} {As : List Value} (hG : ∀ (U : State) (g : JFrame) (mk : MethodId) (a : Array Value), G U → G (U.calling g mk a)) : FrameBlind (xm_Pc D cl tys N0 G r A sz As) := by
  intro a U g mk h
  obtain ⟨h0, h1, h2, h3, h4, h5⟩ := h
  exact ⟨h0, h1, h2, va_K.moved (u := U) (U := U.calling g mk a) (Vm.Alike.refl U.vm) h3, h4, hG U g mk a h5⟩
section XM7
variable {p : Program} {l : Launch} {e : Env} {R : Room} {s : State} {m : MethodId} {args : Array Value} {below : List Frame} {meth : Method} {c : Code} {H H0 : Heap} {locs : List Loc} {cells slots : Nat} {Q : State → Prop}
variable {cc : ByteArray} {pc : Nat} {lsR : Array Slot} {st0 rest : List Value} {a : Array Value} {D : va_G} {cl : List vw_C} {tys : xm_T} {n0 sz mc ms : Nat} {r : Nat → Nat} {A' : xm_H} {v : Option Value} {Ad : Nat → Prop}
/-- behind a call -/
theorem xm_back (hr : va_Run p l e R s m args below meth c H locs cells slots mc ms (F0 m pc lsR st0) rest (xm_Q D cl tys r n0 sz A' v a) (xm_ad r n0 sz)) (hsub : ∀ q, xm_ad r n0 sz q → Ad q) (hS : va_S Ad H0 H locs)
    (kk : ∀ (r' : Nat → Nat) (H1 : Heap) (locs1 : List Loc), xm_ag n0 r r' → (A'.length = n0 → r' = r) → va_P D cl (xm_w tys r' A') H1 → va_D Ad (xm_w tys r' A') → va_S Ad H0 H1 locs1 → W p l e R s m args below meth c H1 locs1 (cells + mc) (slots + ms) Q (F0 m (pc + 3) lsR ((v.map (xm_v r')).toList ++ rest))) : W p l e R s m args below meth c H locs cells slots Q (F0 m pc lsR st0) := by
  intro T hT X
  obtain ⟨v', st₀, t, T', L, h0, X', hL, e1, e2, ⟨⟨r', ha, hb, hv, hp, hd⟩, hz, hk⟩, st⟩ := hr T hT X
  cases hv
  rw [h0] at hz hk
  obtain ⟨t2, a1, b1⟩ := kk r' T'.heap (locs ++ L) ha hb (by rw [e1]; exact hp) (hd.weaken (fun _ _ _ z => hsub _ z))
    ⟨Nat.le_trans hS.1 (by rw [e1]; exact hz), fun q h1 h2 => by rw [e1, hk q (Nat.lt_of_lt_of_le h1 hS.1) (fun z => h2 (hsub q z))]; exact hS.2.1 q h1 h2, fun q hq => by
      rcases List.mem_append.mp hq with h | h
      · exact hS.2.2 q h
      · exact hsub _ (hL q h)⟩ T' rfl X'
  exact ⟨t2, st t2 a1, b1⟩
end XM7
/-- the methods that the pool of 'own' names: links and words that the tables have -/
def xm_CR (own : String) (args : Array Value) (s : State) (gd : List Cond) (my : Nat → MethodName) (mb : Nat → ByteArray) (mL : Nat → Nat) (mr : Nat → Option FieldType) (cl : List vw_C) (oc : Nat → Nat) (cr : Nat → Option (Nat × Nat × Bool × Nat)) : Prop :=
  ∀ x kd k b na, cr x = some (kd, k, b, na) → Cond.code (my k) (mb k) (mL k) (mr k) ∈ gd ∧ mL k ≤ 40 ∧ ((my k).cls ≠ "java/lang/invoke/MethodHandle" ∧ (my k).cls ≠ "java/lang/invoke/VarHandle") ∧ (parseMethodDescriptor (my k).desc).map (fun d => d.parameters.length) = some na ∧ (Cond.initialized (my k).cls).before args s = true
    ∧ (b = false → (Cond.methodLink own x (my k)).before args s = true) ∧ (b = true → ∃ host, (Cond.methodLinkNest own x (my k) host).before args s = true)
    ∧ (kd = 0 → (Cond.instanceMethod (my k)).before args s = true ∧ (Cond.selects (my k).cls (my k) (my k)).before args s = true ∧ ∃ q, cl[oc k]? = some q ∧ q.1 = (my k).cls)
    ∧ (kd = 1 → (Cond.static (my k)).before args s = true)
    ∧ (kd = 2 → (my k).name = "<init>" ∧ (Cond.instanceMethod (my k)).before args s = true ∧ mr k = none)
def xm_ws (gd : List Cond) (my : Nat → MethodName) (mb : Nat → ByteArray) (mL : Nat → Nat) (mr : Nat → Option FieldType) (k : Nat) : List Cond := Cond.code (my k) (mb k) (mL k) (mr k) :: gd
set_option maxRecDepth 100000 in
theorem xm_loc {a d L : Nat} (h1 : a ≤ 40) (h2 : 64 * d + 2064 ≤ L) : 8 + (a + 11) + (64 * d + 2000) ≤ L := by omega
/-- the room of a method below which d calls may stand -/
def xm_rm (d c1 s1 : Nat) : Room := { frames := d + 20, cells := c1, slots := s1, locals := 64 * d + 2000 }
section XM8
variable {p : Program} {l : Launch} {e : Env} {R : Room} {s : State} {m : MethodId} {args : Array Value} {below : List Frame} {meth : Method} {c : Code} {H H0 : Heap} {locs : List Loc} {cells slots : Nat} {Q : State → Prop}
variable {cc : ByteArray} {pc n nL d : Nat} {lsR : Array Slot} {r : Nat → Nat} {st rest As : List Value} {A A' : xm_H} {v : Option Value} {k c1 s1 : Nat}
variable {cl : List vw_C} {Ts gd : List Cond} {own : String} {D : va_G} {tys : xm_T} {N0 : Nat} {Ad : Nat → Prop} {G : State → Prop} {my : Nat → MethodName} {mb : Nat → ByteArray} {mL : Nat → Nat} {mr : Nat → Option FieldType} {oc : Nat → Nat} {cr : Nat → Option (Nat × Nat × Bool × Nat)}
set_option maxHeartbeats 4000000 in
theorem xm_ca_ok {i : Jvm.ClassFile.Instr} (S : CallFix p m c cc nL s args Ts own) (h : xm_ca oc cr i n st A = some (k, As, rest)) (hdg : decode cc pc = .ok (i, n)) (hCR : xm_CR own args s gd my mb mL mr cl oc cr) (hgd : ∀ w ∈ gd, w ∈ Ts) (hgood : ∀ w ∈ gd, goodWord w = true)
    (hG1 : ∀ (U : State) (g : JFrame) (mk : MethodId) (a : Array Value), G U → G (U.calling g mk a)) (hG2 : ∀ (H1 : Heap) (locs1 : List Loc) (U : State), va_S Ad s.heap H1 locs1 → U.heap = H1 → s.WarmedH U.vm → G U)
    (hM : Met l (my k) (xm_ws gd my mb mL mr k) (xm_rm d c1 s1) (xm_Pc D cl tys N0 G r A H.size As) (xm_Q D cl tys r A.length H.size A' v) c1 s1 (xm_ad r A.length H.size))
    (hRf : d + 21 ≤ R.frames) (hRl : 64 * d + 2064 ≤ R.locals) (hRc : cells + c1 ≤ R.cells) (hRs : slots + s1 ≤ R.slots) (hl : lsR.size = nL) (hN0 : N0 ≤ s.heap.size) (hAd : ∀ q, s.heap.size ≤ q → Ad q) (hAdN : ∀ q, Ad q → N0 ≤ q)
    (hK : va_K D cl tys s) (hP : va_P D cl (xm_w tys r A) H) (hD : va_D Ad (xm_w tys r A)) (hS : va_S Ad s.heap H locs)
    (kk : ∀ (r' : Nat → Nat) (H1 : Heap) (locs1 : List Loc), xm_ag A.length r r' → (A'.length = A.length → r' = r) → va_P D cl (xm_w tys r' A') H1 → va_D Ad (xm_w tys r' A') → va_S Ad s.heap H1 locs1 → W p l e R s m args below meth c H1 locs1 (cells + c1) (slots + s1) Q (F0 m (pc + 3) lsR ((v.map (xm_v r')).toList ++ rest.map (xm_v r)))) : W p l e R s m args below meth c H locs cells slots Q (F0 m pc lsR (st.map (xm_v r))) := by
  have hts := S.2.2.2.2
  have hblind : FrameBlind (xm_Pc D cl tys N0 G r A H.size As) := xm_Pc_blind hG1
  have hpre : ∀ U : State, U.heap = H → s.WarmedH U.vm → xm_Pc D cl tys N0 G r A H.size As (As.map (xm_v r)).toArray U := fun U hU hW => ⟨rfl, ⟨Nat.le_trans hN0 hS.1, by rw [hU]⟩, by rw [hU]; exact hP, va_K.moved hW.alike hK, hD.weaken (fun _ _ _ z => hAdN _ z), hG2 H locs U hS hU hW⟩
  have hsub : ∀ q, xm_ad r A.length H.size q → Ad q := xm_ad_sub hD (fun q hq => hAd q (Nat.le_trans hS.1 hq))
  have hgw : ∀ w ∈ xm_ws gd my mb mL mr k, Cond.code (my k) (mb k) (mL k) (mr k) ∈ gd → w ∈ gd := fun w hw hc => (List.mem_cons.mp hw).elim (fun e => e ▸ hc) (fun h => h)
  have hcats : ∀ {t : List Value}, (t.map (fun v => v.category)).sum ≤ 8 → 2 * (F0 m pc lsR (st.map (xm_v r))).monitorRoom + ((t.map (xm_v r)).map fun v => v.category).sum ≤ 8 := by
    intro t ht
    refine lv_room ?_
    rw [List.map_map]
    simpa only [Function.comp_def, xm_v_cat] using ht
  cases i
  case invokevirtual x =>
    simp only [xm_ca] at h
    obtain ⟨rfl, h0⟩ := xm_if h
    split at h0
    · rename_i k' b na hcr
      split at h0
      · rename_i ob As' rest' hsv
        split at h0
        · rename_i cj fs hob
          obtain ⟨rfl, h1⟩ := xm_if h0
          simp only [Option.some.injEq, Prod.mk.injEq] at h1
          obtain ⟨rfl, rfl, rfl⟩ := h1
          obtain ⟨hst, hlen, hcat⟩ := xm_sv_s hsv
          obtain ⟨hcode, hmL, hMH, hna, hini, hl0, hl1, hk0, -, -⟩ := hCR x _ _ _ _ hcr
          obtain ⟨hinst, hsel, q, hq, hq1⟩ := hk0 rfl
          have hws : ∀ w ∈ xm_ws gd my mb mL mr k', ∀ (a' : Array Value) (U : State), s.WarmedH U.vm → w.before a' U = true := fun w hw a' U hW => word_at hW (good_of_word (hgood w (hgw w hw hcode))) (hts w (hgd w (hgw w hw hcode)))
          have hcw : (Cond.code (my k') (mb k') (mL k') (mr k')).before args s = true := hts _ (hgd _ hcode)
          have hsig : ∀ sig, parseMethodDescriptor (my k').desc = some sig → na = sig.parameters.length := fun sig h2 => by rw [h2] at hna; exact (Option.some.inj hna).symm
          have hstk : (F0 m pc lsR (st.map (xm_v r))).stack = (As'.map (xm_v r)).reverse ++ .ref (r ob) :: rest'.map (xm_v r) := by
            show st.map (xm_v r) = _
            rw [hst, List.map_append, List.map_reverse, List.map_cons]
            rfl
          have hrecv := va_recv hK hP hq (xm_w_get hob)
          rw [hq1] at hrecv
          have hRl' : 8 + (mL k' + 11) + (64 * d + 2000) ≤ R.locals := xm_loc hmL hRl
          cases b with
          | false => exact xm_back (va_runV (As := As'.map (xm_v r)) (rest := rest'.map (xm_v r)) S hM ⟨⟨rfl, rfl, hRf, hRl', hws, List.mem_cons_self, hcw, hini, hMH, hsig, hl0 rfl⟩, hinst, hsel⟩ ⟨hblind, hrecv, hpre⟩ rfl (by rw [List.length_map]; exact hlen) hl hstk (hcats hcat) hdg ⟨hRc, hRs⟩) hsub hS kk
          | true =>
            obtain ⟨host, hlk⟩ := hl1 rfl
            exact xm_back (va_runVN (As := As'.map (xm_v r)) (rest := rest'.map (xm_v r)) S hM ⟨⟨⟨rfl, rfl, hRf, hRl', hws, List.mem_cons_self⟩, hcw, hini, hMH, hsig, hlk⟩, hinst, hsel⟩ ⟨hblind, hrecv, hpre⟩ rfl (by rw [List.length_map]; exact hlen) hl hstk (hcats hcat) hdg ⟨hRc, hRs⟩) hsub hS kk
        · cases h0
      · cases h0
    · cases h0
  case invokestatic x =>
    simp only [xm_ca] at h
    obtain ⟨rfl, h0⟩ := xm_if h
    split at h0
    · rename_i k' b na hcr
      split at h0
      · rename_i As' rest' hss
        simp only [Option.some.injEq, Prod.mk.injEq] at h0
        obtain ⟨rfl, rfl, rfl⟩ := h0
        obtain ⟨hst, hlen, hcat⟩ := xm_ss_s hss
        obtain ⟨hcode, hmL, hMH, hna, hini, hl0, hl1, -, hk1, -⟩ := hCR x _ _ _ _ hcr
        have hstat := hk1 rfl
        have hws : ∀ w ∈ xm_ws gd my mb mL mr k', ∀ (a' : Array Value) (U : State), s.WarmedH U.vm → w.before a' U = true := fun w hw a' U hW => word_at hW (good_of_word (hgood w (hgw w hw hcode))) (hts w (hgd w (hgw w hw hcode)))
        have hcw : (Cond.code (my k') (mb k') (mL k') (mr k')).before args s = true := hts _ (hgd _ hcode)
        have hsig : ∀ sig, parseMethodDescriptor (my k').desc = some sig → na = sig.parameters.length := fun sig h2 => by rw [h2] at hna; exact (Option.some.inj hna).symm
        have hstk : (F0 m pc lsR (st.map (xm_v r))).stack = (As'.map (xm_v r)).reverse ++ rest'.map (xm_v r) := by
          show st.map (xm_v r) = _
          rw [hst, List.map_append, List.map_reverse]
        have hRl' : 8 + (mL k' + 11) + (64 * d + 2000) ≤ R.locals := xm_loc hmL hRl
        cases b with
        | false => exact xm_back (va_runS (As := As'.map (xm_v r)) (rest := rest'.map (xm_v r)) S hM ⟨⟨rfl, rfl, hRf, hRl', hws, List.mem_cons_self, hcw, hini, hMH, hsig, hl0 rfl⟩, hstat⟩ ⟨hblind, hpre⟩ rfl (by rw [List.length_map]; exact hlen) hl hstk (hcats hcat) hdg ⟨hRc, hRs⟩) hsub hS kk
        | true =>
          obtain ⟨host, hlk⟩ := hl1 rfl
          exact xm_back (va_runSN (As := As'.map (xm_v r)) (rest := rest'.map (xm_v r)) S hM ⟨⟨⟨rfl, rfl, hRf, hRl', hws, List.mem_cons_self⟩, hcw, hini, hMH, hsig, hlk⟩, hstat, trivial⟩ ⟨hblind, hpre⟩ rfl (by rw [List.length_map]; exact hlen) hl hstk (hcats hcat) hdg ⟨hRc, hRs⟩) hsub hS kk
      · cases h0
    · cases h0
  case invokespecial x =>
    simp only [xm_ca] at h
    obtain ⟨rfl, h0⟩ := xm_if h
    split at h0
    · rename_i k' b na hcr
      split at h0
      · rename_i ob As' rest' hsv
        simp only [Option.some.injEq, Prod.mk.injEq] at h0
        obtain ⟨rfl, rfl, rfl⟩ := h0
        obtain ⟨hst, hlen, hcat⟩ := xm_sv_s hsv
        obtain ⟨hcode, hmL, hMH, hna, hini, hl0, hl1, -, -, hk2⟩ := hCR x _ _ _ _ hcr
        obtain ⟨hnm, hinst, hret⟩ := hk2 rfl
        have hws : ∀ w ∈ xm_ws gd my mb mL mr k', ∀ (a' : Array Value) (U : State), s.WarmedH U.vm → w.before a' U = true := fun w hw a' U hW => word_at hW (good_of_word (hgood w (hgw w hw hcode))) (hts w (hgd w (hgw w hw hcode)))
        have hcw : (Cond.code (my k') (mb k') (mL k') none).before args s = true := hret ▸ hts _ (hgd _ hcode)
        have hcm : Cond.code (my k') (mb k') (mL k') none ∈ xm_ws gd my mb mL mr k' := by rw [← hret]; exact List.mem_cons_self
        have hsig : ∀ sig, parseMethodDescriptor (my k').desc = some sig → na = sig.parameters.length := fun sig h2 => by rw [h2] at hna; exact (Option.some.inj hna).symm
        have hstk : (F0 m pc lsR (st.map (xm_v r))).stack = (As'.map (xm_v r)).reverse ++ .ref (r ob) :: rest'.map (xm_v r) := by
          show st.map (xm_v r) = _
          rw [hst, List.map_append, List.map_reverse, List.map_cons]
          rfl
        have hRl' : 8 + (mL k' + 11) + (64 * d + 2000) ≤ R.locals := xm_loc hmL hRl
        cases b with
        | false => exact xm_back (va_runI (As := As'.map (xm_v r)) (rest := rest'.map (xm_v r)) S hM ⟨⟨rfl, rfl, hRf, hRl', hws, hcm, hcw, hini, hMH, hsig, hl0 rfl⟩, hnm, hinst⟩ ⟨hblind, hpre⟩ rfl (by rw [List.length_map]; exact hlen) hl hstk (hcats hcat) hdg ⟨hRc, hRs⟩) hsub hS kk
        | true =>
          obtain ⟨host, hlk⟩ := hl1 rfl
          exact xm_back (va_runIN (As := As'.map (xm_v r)) (rest := rest'.map (xm_v r)) S hM ⟨⟨⟨rfl, rfl, hRf, hRl', hws, hcm⟩, hcw, hini, hMH, hsig, hlk⟩, hnm, hinst⟩ ⟨hblind, hpre⟩ rfl (by rw [List.length_map]; exact hlen) hl hstk (hcats hcat) hdg ⟨hRc, hRs⟩) hsub hS kk
      · cases h0
    · cases h0
  all_goals exact absurd h (by simp [xm_ca])
end XM8
end
section
/-! A run of the abstract machine is a walk of the machine. -/
theorem xm_okS_s {A : xm_H} {ls : xm_L} {st : List Value} (h : xm_okS A ls st = true) : A.all (xm_okE A.length) = true ∧ ls.all (fun q => xm_okV A.length q.2) = true ∧ st.all (xm_okV A.length) = true ∧ A.length < xm_K0 := by
  simp only [xm_okS, Bool.and_eq_true, decide_eq_true_eq] at h
  exact ⟨h.1, h.2.1, h.2.2.1, h.2.2.2⟩
section XM9
variable {p : Program} {l : Launch} {e : Env} {R : Room} {s : State} {m : MethodId} {args : Array Value} {below : List Frame} {meth : Method} {c : Code} {Q : State → Prop}
variable {cc : ByteArray} {nL d : Nat} {Ts gd : List Cond} {own : String} {D : va_G} {tys : xm_T} {N0 : Nat} {Ad : Nat → Prop} {G : State → Prop} {my : Nat → MethodName} {mb : Nat → ByteArray} {mL : Nat → Nat} {mr : Nat → Option FieldType}
variable {call : Nat → xm_H → List Value → Option xm_R} {xt : Jvm.ClassFile.Instr → Nat → List Value → xm_H → xm_P} {xc : Jvm.ClassFile.Instr → Nat → List Value → xm_H → Option (List Value × xm_H × Nat × Nat)}
variable {cl : List vw_C} {tt : List FieldType} {ft : Nat → Nat → FieldType} {fr : Nat → Option (Nat × Nat × Bool)} {ini : Option Nat} {nr qr : Nat → Option Nat} {ta : Jvm.ClassFile.ArrayType → Option Nat} {oc : Nat → Nat} {cr : Nat → Option (Nat × Nat × Bool × Nat)} {ret : Option FieldType}
variable {A' : xm_H} {o : Option Value ⊕ Nat} {nc' ns' n0 : Nat} {r0 lt : Nat → Nat}
/-- what an intrinsic step must do -/
def xm_XT (p : Program) (l : Launch) (e : Env) (R : Room) (s : State) (m : MethodId) (args : Array Value) (below : List Frame) (meth : Method) (c : Code) (Q : State → Prop) (cc : ByteArray) (nL : Nat) (D : va_G) (cl : List vw_C) (tys : xm_T) (Ad : Nat → Prop) (lt : Nat → Nat) (xt : Jvm.ClassFile.Instr → Nat → List Value → xm_H → xm_P) : Prop :=
  ∀ (i : Jvm.ClassFile.Instr) (n pc : Nat) (st : List Value) (A : xm_H) (st' : List Value) (A' : xm_H) (r : Nat → Nat) (H : Heap) (locs : List Loc) (lsR : Array Slot) (cells slots : Nat), (∀ j, xm_K0 ≤ j → r j = lt j) → xt i n st A = some (st', A') → decode cc pc = .ok (i, n) → lsR.size = nL → cells ≤ R.cells → slots ≤ R.slots →
    va_P D cl (xm_w tys r A) H → va_D Ad (xm_w tys r A) → va_S Ad s.heap H locs →
    (∀ H1 locs1, va_P D cl (xm_w tys r A') H1 → va_D Ad (xm_w tys r A') → va_S Ad s.heap H1 locs1 → W p l e R s m args below meth c H1 locs1 cells slots Q (F0 m (pc + n) lsR (st'.map (xm_v r)))) →
    W p l e R s m args below meth c H locs cells slots Q (F0 m pc lsR (st.map (xm_v r)))
/-- what a costly step must do: cells and slots are spent, the heap's length stays -/
def xm_XC (p : Program) (l : Launch) (e : Env) (R : Room) (s : State) (m : MethodId) (args : Array Value) (below : List Frame) (meth : Method) (c : Code) (Q : State → Prop) (cc : ByteArray) (nL : Nat) (D : va_G) (cl : List vw_C) (tys : xm_T) (Ad : Nat → Prop) (lt : Nat → Nat) (xc : Jvm.ClassFile.Instr → Nat → List Value → xm_H → Option (List Value × xm_H × Nat × Nat)) : Prop :=
  ∀ (i : Jvm.ClassFile.Instr) (n pc : Nat) (st : List Value) (A : xm_H) (st' : List Value) (A' : xm_H) (c1 s1 : Nat) (r : Nat → Nat) (H : Heap) (locs : List Loc) (lsR : Array Slot) (cells slots : Nat), (∀ j, xm_K0 ≤ j → r j = lt j) → xc i n st A = some (st', A', c1, s1) → decode cc pc = .ok (i, n) → lsR.size = nL → cells + c1 ≤ R.cells → slots + s1 ≤ R.slots →
    va_P D cl (xm_w tys r A) H → va_D Ad (xm_w tys r A) → va_S Ad s.heap H locs →
    (∀ H1 locs1, va_P D cl (xm_w tys r A') H1 → va_D Ad (xm_w tys r A') → va_S Ad s.heap H1 locs1 → W p l e R s m args below meth c H1 locs1 (cells + c1) (slots + s1) Q (F0 m (pc + n) lsR (st'.map (xm_v r)))) →
    W p l e R s m args below meth c H locs cells slots Q (F0 m pc lsR (st.map (xm_v r)))
set_option maxHeartbeats 8000000 in
theorem xm_rn_ok (S : CallFix p m c cc nL s args Ts own) (hCL : xm_CL cl ft) (hFR : xm_FR cl Ts own args s fr) (hNI : xm_NI cl own meth ini) (hTT : xm_TT tt tys) (hNR : xm_NR cl Ts own args s nr) (hQR : xm_QR tt own args s qr) (hTA : xm_TA args s ta) (hCR : xm_CR own args s gd my mb mL mr cl oc cr)
    (hgd : ∀ w ∈ gd, w ∈ Ts) (hgood : ∀ w ∈ gd, goodWord w = true) (hG1 : ∀ (U : State) (g : JFrame) (mk : MethodId) (a : Array Value), G U → G (U.calling g mk a)) (hG2 : ∀ (H1 : Heap) (locs1 : List Loc) (U : State), va_S Ad s.heap H1 locs1 → U.heap = H1 → s.WarmedH U.vm → G U)
    (hcallm : ∀ k A As A' o c1 s1, call k A As = some (A', o, c1, s1) → A.length ≤ A'.length)
    (hr0 : ∀ j, xm_K0 ≤ j → r0 j = lt j) (hcall : ∀ k A As A' v c1 s1 r, (∀ j, xm_K0 ≤ j → r j = lt j) → call k A As = some (A', .inl v, c1, s1) → ∀ sz, Met l (my k) (xm_ws gd my mb mL mr k) (xm_rm d c1 s1) (xm_Pc D cl tys N0 G r A sz As) (xm_Q D cl tys r A.length sz A' v) c1 s1 (xm_ad r A.length sz))
    (hxl : ∀ i n st A st' A', xt i n st A = some (st', A') → A'.length = A.length) (hxt : xm_XT p l e R s m args below meth c Q cc nL D cl tys Ad lt xt) (hxcl : ∀ i n st A st' A' c1 s1, xc i n st A = some (st', A', c1, s1) → A'.length = A.length) (hxc : xm_XC p l e R s m args below meth c Q cc nL D cl tys Ad lt xc)
    (hRf : d + 21 ≤ R.frames) (hRl : 64 * d + 2064 ≤ R.locals) (hRc : nc' ≤ R.cells) (hRs : ns' ≤ R.slots) (hN0 : N0 ≤ s.heap.size) (hAd : ∀ q, s.heap.size ≤ q → Ad q) (hAdN : ∀ q, Ad q → N0 ≤ q) (hK : va_K D cl tys s)
    (hret : ∀ v, o = .inl v → ∀ (i : Jvm.ClassFile.Instr) (n pc : Nat) (st : List Value) (r : Nat → Nat) (H : Heap) (locs : List Loc) (lsR : Array Slot), decode cc pc = .ok (i, n) → xm_re ret i n st = some v → xm_ag n0 r0 r → (A'.length = n0 → r = r0) → va_P D cl (xm_w tys r A') H → va_D Ad (xm_w tys r A') → va_S Ad s.heap H locs → W p l e R s m args below meth c H locs nc' ns' Q (F0 m pc lsR (st.map (xm_v r)))) :
    ∀ (f pc : Nat) (ls : xm_L) (st : List Value) (A : xm_H) (nc ns : Nat) (r : Nat → Nat) (H : Heap) (locs : List Loc) (lsR : Array Slot), xm_rn call xt xc cl tt ft fr ini nr qr ta oc cr cc nL ret f pc ls st A nc ns = some (A', o, nc', ns') → n0 ≤ A.length → xm_ag n0 r0 r → (A.length = n0 → r = r0) → lv_has lsR nL (xm_lm r ls) →
      va_P D cl (xm_w tys r A) H → va_D Ad (xm_w tys r A) → va_S Ad s.heap H locs → W p l e R s m args below meth c H locs nc ns Q (F0 m pc lsR (st.map (xm_v r))) := by
  have hx := S.1
  have hb := S.2.1
  have hown := S.2.2.2.1
  have hts := S.2.2.2.2
  intro f
  induction f with
  | zero => intro pc ls st A nc ns r H locs lsR h; cases h
  | succ f ih =>
    intro pc ls st A nc ns r H locs lsR h hn0 hag hre hl hP hD hS
    have hmono := xm_rn_mono (call := call) (xt := xt) (xc := xc) (cl := cl) (tt := tt) (ft := ft) (fr := fr) (ini := ini) (nr := nr) (qr := qr) (ta := ta) (oc := oc) (cr := cr) (cc := cc) (nL := nL) (ret := ret) hcallm hxl hxcl
    have hrl : ∀ j, xm_K0 ≤ j → r j = lt j := fun j hj => (hag j (Or.inr hj)).trans (hr0 j hj)
    rw [xm_rn] at h
    split at h
    · cases h
    · rename_i i n hdg
      split at h
      · rename_i q hq
        exact xm_pu_ok hx hb hq hdg hl (fun lsR' hl' => ih _ _ _ _ _ _ r H locs lsR' h hn0 hag hre hl' hP hD hS)
      · split at h
        · rename_i q hq
          obtain ⟨b, t, st'⟩ := q
          refine xm_br_ok hx hb hq hdg (fun hbt => ?_) (fun hbf => ?_)
          · rw [if_pos hbt] at h
            exact ih _ _ _ _ _ _ r H locs lsR h hn0 hag hre hl hP hD hS
          · rw [if_neg (by rw [hbf]; exact Bool.false_ne_true)] at h
            exact ih _ _ _ _ _ _ r H locs lsR h hn0 hag hre hl hP hD hS
        · split at h
          · rename_i q hq
            have hlen := xm_hp_len hq
            exact xm_hp_ok hx hb hq hdg hts hown hCL hFR hNI hTT hK hP hD hS (fun H1 locs1 a1 a2 a3 => ih _ _ _ _ _ _ r H1 locs1 lsR h (by rw [hlen]; exact hn0) hag (by rw [hlen]; exact hre) hl a1 a2 a3)
          · split at h
            · rename_i v hv
              simp only [Option.some.injEq, Prod.mk.injEq] at h
              obtain ⟨rfl, rfl, rfl, rfl⟩ := h
              exact hret v rfl i n pc st r H locs lsR hdg hv hag hre hP hD hS
            · split at h
              · rename_i q hq
                obtain ⟨k, As, rest⟩ := q
                split at h
                · rename_i A1 v c1 s1 hc
                  obtain ⟨hok, h⟩ := xm_if h
                  have hm1 := hmono _ _ _ _ _ _ _ _ _ _ _ h
                  have hm2 := hcallm _ _ _ _ _ _ _ hc
                  refine xm_ca_ok S hq hdg hCR hgd hgood hG1 hG2 (hcall _ _ _ _ _ _ _ r hrl hc H.size) hRf hRl (Nat.le_trans hm1.2.1 hRc) (Nat.le_trans hm1.2.2 hRs) hl.1 hN0 hAd hAdN hK hP hD hS (fun r' H1 locs1 b1 b2 a1 a2 a3 => ?_)
                  have el : xm_lm r' ls = xm_lm r ls := by
                    rcases hok with e1 | e1
                    · rw [b2 e1]
                    · exact xm_ag_l b1 (xm_okS_s e1).2.1
                  have es : rest.map (xm_v r') = rest.map (xm_v r) := by
                    rcases hok with e1 | e1
                    · rw [b2 e1]
                    · exact xm_ag_s b1 (xm_okS_s e1).2.2.1
                  have ev : (v.map (xm_v r')).toList ++ rest.map (xm_v r) = (v.toList ++ rest).map (xm_v r') := by
                    rw [List.map_append, es]
                    cases v <;> rfl
                  rw [ev]
                  have hn1 : n0 ≤ A1.length := Nat.le_trans hn0 hm2
                  refine ih _ _ _ _ _ _ r' H1 locs1 lsR h hn1 (hag.trans b1 hn0) (fun e1 => ?_) (by rw [el]; exact hl) a1 a2 a3
                  have e2 : A.length = n0 := Nat.le_antisymm (by rw [← e1]; exact hm2) hn0
                  rw [b2 (e1.trans e2.symm)]
                  exact hre e2
                · cases h
              · split at h
                · rename_i q hq
                  obtain ⟨st', ev, n1⟩ := q
                  obtain ⟨hok, h⟩ := xm_if h
                  obtain ⟨k1, k2, k3, k4⟩ := xm_okS_s hok
                  have hm1 := hmono _ _ _ _ _ _ _ _ _ _ _ h
                  refine xm_nw_ok hx hb hq hdg hts hown hCL hNR hQR hTA hTT k1 k3 k4 hK hP hD hS hAd (Nat.le_trans hm1.2.1 hRc) (Nat.le_trans hm1.2.2 hRs) (fun r' H1 b1 a1 a2 a3 => ?_)
                  refine ih _ _ _ _ _ _ r' H1 locs lsR h ?_ (hag.trans b1 hn0) (fun e1 => ?_) (by rw [xm_ag_l b1 k2]; exact hl) a1 a2 a3
                  · rw [List.length_append]; exact Nat.le_trans hn0 (Nat.le_add_right _ _)
                  · rw [List.length_append] at e1
                    exact absurd e1 (Nat.ne_of_gt (Nat.lt_of_lt_of_le (Nat.lt_succ_of_le hn0) (Nat.le_refl _)))
                · split at h
                  · rename_i q hq
                    obtain ⟨st', A1⟩ := q
                    have hlen := hxl _ _ _ _ _ _ hq
                    have hm1 := hmono _ _ _ _ _ _ _ _ _ _ _ h
                    exact hxt i n pc st A st' A1 r H locs lsR nc ns hrl hq hdg hl.1 (Nat.le_trans hm1.2.1 hRc) (Nat.le_trans hm1.2.2 hRs) hP hD hS (fun H1 locs1 a1 a2 a3 => ih _ _ _ _ _ _ r H1 locs1 lsR h (by rw [hlen]; exact hn0) hag (by rw [hlen]; exact hre) hl a1 a2 a3)
                  · split at h
                    · rename_i q hq
                      obtain ⟨st', A1, c1, s1⟩ := q
                      have hlen := hxcl _ _ _ _ _ _ _ _ hq
                      have hm1 := hmono _ _ _ _ _ _ _ _ _ _ _ h
                      exact hxc i n pc st A st' A1 c1 s1 r H locs lsR nc ns hrl hq hdg hl.1 (Nat.le_trans hm1.2.1 hRc) (Nat.le_trans hm1.2.2 hRs) hP hD hS (fun H1 locs1 a1 a2 a3 => ih _ _ _ _ _ _ r H1 locs1 lsR h (by rw [hlen]; exact hn0) hag (by rw [hlen]; exact hre) hl a1 a2 a3)
                    · cases h
end XM9
end
section
/-! Methods call each other to a depth: xm_ex; and a method that the abstract machine runs meets its contract. -/
theorem xm_args_m (r : Nat → Nat) : ∀ (As : List Value) (i : Nat), lv_args i (As.map (xm_v r)) = xm_lm r (lv_args i As)
  | [], _ => rfl
  | v :: vs, i => by
    show (i, xm_v r v) :: lv_args (if (xm_v r v).category = 2 then i + 2 else i + 1) (vs.map (xm_v r)) = (i, xm_v r v) :: xm_lm r (lv_args (if v.category = 2 then i + 2 else i + 1) vs)
    rw [xm_v_cat, xm_args_m r vs]
theorem xm_sl_m (r : Nat → Nat) : ∀ (As : List Value), (lg_sl (As.map (xm_v r))).length = (lg_sl As).length
  | [] => rfl
  | v :: vs => by
    have h := xm_sl_m r vs
    simp only [lg_sl, List.map_cons, List.flatMap_cons, List.length_append, xm_v_cat] at h ⊢
    rw [h]
    split <;> rfl
def xm_x0 : Jvm.ClassFile.Instr → Nat → List Value → xm_H → Option (List Value × xm_H × Nat × Nat) := fun _ _ _ _ => none
section XMA
variable (F : Nat) (xt : Nat → Jvm.ClassFile.Instr → Nat → List Value → xm_H → xm_P)
variable (cl : List vw_C) (tt : List FieldType) (ft : Nat → Nat → FieldType) (fr : Nat → Nat → Option (Nat × Nat × Bool)) (ini : Nat → Option Nat) (nr qr : Nat → Nat → Option Nat) (ta : Jvm.ClassFile.ArrayType → Option Nat) (oc : Nat → Nat) (cr : Nat → Nat → Option (Nat × Nat × Bool × Nat))
variable (mb : Nat → ByteArray) (mL : Nat → Nat) (mr : Nat → Option FieldType) (mok : Nat → Bool)
def xm_ex : Nat → Nat → xm_H → List Value → Option xm_R
  | 0, _, _, _ => none
  | d + 1, k, A, As => if mok k = true ∧ (lg_sl As).length ≤ mL k then xm_rn (xm_ex d) (xt k) xm_x0 cl tt ft (fr (oc k)) (ini k) (nr (oc k)) (qr (oc k)) ta oc (cr (oc k)) (mb k) (mL k) (mr k) F 0 (lv_args 0 As) [] A 0 0 else none
end XMA
section XMB
variable {F : Nat} {xt : Nat → Jvm.ClassFile.Instr → Nat → List Value → xm_H → xm_P}
variable {cl : List vw_C} {tt : List FieldType} {ft : Nat → Nat → FieldType} {fr : Nat → Nat → Option (Nat × Nat × Bool)} {ini : Nat → Option Nat} {nr qr : Nat → Nat → Option Nat} {ta : Jvm.ClassFile.ArrayType → Option Nat} {oc : Nat → Nat} {cr : Nat → Nat → Option (Nat × Nat × Bool × Nat)}
variable {mb : Nat → ByteArray} {mL : Nat → Nat} {mr : Nat → Option FieldType} {mok : Nat → Bool}
theorem xm_ex_mono (hxl : ∀ k i n st A st' A', xt k i n st A = some (st', A') → A'.length = A.length) : ∀ (d k : Nat) (A : xm_H) (As : List Value) (A' : xm_H) (o : Option Value ⊕ Nat) (c1 s1 : Nat), xm_ex F xt cl tt ft fr ini nr qr ta oc cr mb mL mr mok d k A As = some (A', o, c1, s1) → A.length ≤ A'.length := by
  intro d
  induction d with
  | zero => intro k A As A' o c1 s1 h; cases h
  | succ d ih =>
    intro k A As A' o c1 s1 h
    rw [xm_ex] at h
    obtain ⟨-, h⟩ := xm_if h
    exact (xm_rn_mono ih (hxl k) (fun _ _ _ _ _ _ _ _ h => by cases h) _ _ _ _ _ _ _ _ _ _ _ h).1
variable {l : Launch} {gd : List Cond} {D : va_G} {tys : xm_T} {N0 : Nat} {G : State → Prop} {my : Nat → MethodName} {lt : Nat → Nat}
/-- what the tables must say of a method, wherever its words and G hold -/
def xm_SF (cl : List vw_C) (tt : List FieldType) (fr : Nat → Nat → Option (Nat × Nat × Bool)) (nr qr : Nat → Nat → Option Nat) (ta : Jvm.ClassFile.ArrayType → Option Nat) (oc : Nat → Nat) (cr : Nat → Nat → Option (Nat × Nat × Bool × Nat)) (mb : Nat → ByteArray) (mL : Nat → Nat) (mr : Nat → Option FieldType) (gd : List Cond) (G : State → Prop) (my : Nat → MethodName) (mok : Nat → Bool) : Prop :=
  ∀ (k : Nat) (args : Array Value) (s : State), mok k = true → (∀ w ∈ xm_ws gd my mb mL mr k, w.before args s = true) → G s →
    xm_FR cl (xm_ws gd my mb mL mr k) (my k).cls args s (fr (oc k)) ∧ xm_NR cl (xm_ws gd my mb mL mr k) (my k).cls args s (nr (oc k)) ∧ xm_QR tt (my k).cls args s (qr (oc k)) ∧ xm_TA args s ta ∧ xm_CR (my k).cls args s gd my mb mL mr cl oc (cr (oc k))
set_option maxHeartbeats 4000000 in
theorem xm_ex_ok (hCL : xm_CL cl ft) (hTT : xm_TT tt tys) (hSF : xm_SF cl tt fr nr qr ta oc cr mb mL mr gd G my mok) (hgood : ∀ w ∈ gd, goodWord w = true) (hpl : ∀ k, mok k = true → plainName (my k).cls = true)
    (hNI : ∀ k ci, mok k = true → ini k = some ci → (my k).name = "<init>" ∧ ∀ q, cl[ci]? = some q → q.1 = (my k).cls)
    (hG1 : ∀ (U : State) (g : JFrame) (mk : MethodId) (a : Array Value), G U → G (U.calling g mk a)) (hG2 : ∀ (s U : State) (H1 : Heap) (locs1 : List Loc), G s → va_S (fun q => N0 ≤ q) s.heap H1 locs1 → U.heap = H1 → s.WarmedH U.vm → G U)
    (hxl : ∀ k i n st A st' A', xt k i n st A = some (st', A') → A'.length = A.length)
    (hxt : ∀ (k d c1 s1 : Nat) (p : Program) (e : Env) (s : State) (m : MethodId) (args : Array Value) (below : List Frame) (meth : Method) (c : Code) (Q : State → Prop) (Ad : Nat → Prop), mok k = true → (∀ q, Ad q → N0 ≤ q) → CallFix p m c (mb k) (mL k) s args (xm_ws gd my mb mL mr k) (my k).cls → G s → va_K D cl tys s → N0 ≤ s.heap.size → xm_XT p l e (xm_rm (d + 1) c1 s1) s m args below meth c Q (mb k) (mL k) D cl tys Ad lt (xt k)) :
    ∀ (d k : Nat) (A : xm_H) (As : List Value) (A' : xm_H) (v : Option Value) (c1 s1 : Nat) (r : Nat → Nat), (∀ j, xm_K0 ≤ j → r j = lt j) → xm_ex F xt cl tt ft fr ini nr qr ta oc cr mb mL mr mok d k A As = some (A', .inl v, c1, s1) →
      ∀ sz, Met l (my k) (xm_ws gd my mb mL mr k) (xm_rm d c1 s1) (xm_Pc D cl tys N0 G r A sz As) (xm_Q D cl tys r A.length sz A' v) c1 s1 (xm_ad r A.length sz) := by
  intro d
  induction d with
  | zero => intro k A As A' v c1 s1 r hr0 h; cases h
  | succ d ih =>
    intro k A As A' v c1 s1 r hr0 h sz
    rw [xm_ex] at h
    obtain ⟨⟨hok, hlen⟩, h⟩ := xm_if h
    refine Met.ofW (cc := mb k) (maxL := mL k) (ret := mr k) (hpl k hok) rfl ?_
    intro p e s m args below meth c s₁ B hml hv
    obtain ⟨rfl, ⟨hN0, hsz⟩, hP, hK, hD, hG⟩ := hv
    subst hsz
    have hAdN : ∀ q, xm_ad r A.length s.heap.size q → N0 ≤ q := xm_ad_sub hD (fun q hq => Nat.le_trans hN0 hq)
    have hD' := xm_ad_D s.heap.size hD
    have hts := atoms_spec (ws := xm_ws gd my mb mL mr k) B.pre
    have hown : s.vm.findClass (my k).cls = some m.cls := findClass_of_methodNamed B.named
    have hin : meth.name = (my k).name := (name_of_methodNamed B.named B.method).1
    obtain ⟨hFR, hNR, hQR, hTA, hCR⟩ := hSF k _ s hok hts hG
    have S : CallFix p m c (mb k) (mL k) s (As.map (xm_v r)).toArray (xm_ws gd my mb mL mr k) (my k).cls := ⟨B.exec, B.bytes, hml, hown, hts⟩
    have hNI' : xm_NI cl (my k).cls meth (ini k) := fun ci hci => ⟨by rw [hin]; exact (hNI k ci hok hci).1, (hNI k ci hok hci).2⟩
    have hl := lv_entry (As.map (xm_v r)) (n := mL k) (by rw [xm_sl_m]; exact hlen)
    rw [lg_entry_eq]
    generalize (lg_sl (As.map (xm_v r)) ++ List.replicate (mL k - (lg_sl (As.map (xm_v r))).length) Slot.unset).toArray = ls at hl ⊢
    rw [xm_args_m] at hl
    have hS : va_S (xm_ad r A.length s.heap.size) s.heap s.heap [] := va_S.rf
    refine xm_rn_ok (d := d) (r0 := r) (n0 := A.length) (R := xm_rm (d + 1) c1 s1) (Ts := xm_ws gd my mb mL mr k) S hCL hFR hNI' hTT hNR hQR hTA hCR (fun w hw => List.mem_cons_of_mem _ hw) hgood hG1 (fun H1 locs1 U a b c9 => hG2 s U H1 locs1 hG (xm_SN hAdN a) b c9) (xm_ex_mono hxl d) hr0 ih (hxl k) (hxt k d c1 s1 p e s m _ below meth c _ _ hok hAdN S hG hK hN0) (fun _ _ _ _ _ _ _ _ h => by cases h) (fun _ _ _ _ _ _ _ _ _ _ _ _ _ _ _ _ h => by cases h) (Nat.le_refl _) (Nat.le_refl _) (Nat.le_refl _) (Nat.le_refl _) hN0 (fun q hq => Or.inr hq) hAdN hK ?_ F 0 (lv_args 0 As) [] A 0 0 r s.heap [] ls h (Nat.le_refl _) xm_ag.rf (fun _ => rfl) hl hP hD' hS
    · intro v' hv' i n pc st r' H locs lsR hdg hre hag hre2 hP' hD' hS'
      cases hv'
      exact xm_re_ok B.exec B.bytes hre hdg B.returns B.notSynchronized (fun t ht hW => ⟨⟨r', hag, hre2, rfl, by rw [ht]; exact hP', hD'⟩, hS'.F ht⟩) hS'.2.2
end XMB
end
section
/-! Printed by wip/whole/gen_tables.py: the classes, their fields, the methods, what the pools name; and where each word of it stands in lw_tbl. -/
def tb_on : List String := ["ConditionDesk$Builder", "ConditionDesk$Condition", "ConditionDesk$Machine", "ConditionDesk$Pile", "ConditionDesk$Program", "ConditionDesk$Text", "ConditionDesk$Tokens", "ConditionDesk$Worker", "ConditionDesk", "ConditionDeskModel", "ConditionDeskLaw"]
def tb_T0 : u_T := fun k => match k with
  | 0 => ("ConditionDesk$Builder", "text", "LConditionDesk$Text;", true)
  | 1 => ("ConditionDesk$Builder", "tokens", "LConditionDesk$Tokens;", true)
  | 2 => ("ConditionDesk$Builder", "program", "LConditionDesk$Program;", true)
  | 3 => ("ConditionDesk$Builder", "waiting", "LConditionDesk$Pile;", true)
  | 4 => ("ConditionDesk$Builder", "operands", "LConditionDesk$Pile;", true)
  | 5 => ("ConditionDesk$Builder", "open", "LConditionDesk$Pile;", true)
  | _ => ("ConditionDesk$Builder", "state", "I", false)
def tb_y0 : Nat → FieldType := fun k => match k with
  | 0 => .object "ConditionDesk$Text"
  | 1 => .object "ConditionDesk$Tokens"
  | 2 => .object "ConditionDesk$Program"
  | 3 => .object "ConditionDesk$Pile"
  | 4 => .object "ConditionDesk$Pile"
  | 5 => .object "ConditionDesk$Pile"
  | _ => .int
def tb_T1 : u_T := fun k => match k with
  | 0 => ("ConditionDesk$Condition", "worker", "LConditionDesk$Worker;", true)
  | 1 => ("ConditionDesk$Condition", "there", "Z", false)
  | 2 => ("ConditionDesk$Condition", "ignoring", "I", false)
  | 3 => ("ConditionDesk$Condition", "value", "J", false)
  | 4 => ("ConditionDesk$Condition", "hits", "J", false)
  | 5 => ("ConditionDesk$Condition", "failures", "J", false)
  | _ => ("ConditionDesk$Condition", "steps", "J", false)
def tb_y1 : Nat → FieldType := fun k => match k with
  | 0 => .object "ConditionDesk$Worker"
  | 1 => .boolean
  | 2 => .int
  | 3 => .long
  | 4 => .long
  | 5 => .long
  | _ => .long
def tb_T2 : u_T := fun k => match k with
  | 0 => ("ConditionDesk$Machine", "registers", "[I", true)
  | 1 => ("ConditionDesk$Machine", "cells", "[I", true)
  | _ => ("ConditionDesk$Machine", "count", "J", false)
def tb_y2 : Nat → FieldType := fun k => match k with
  | 0 => .array .int
  | 1 => .array .int
  | _ => .long
def tb_T3 : u_T := fun k => match k with
  | 0 => ("ConditionDesk$Pile", "entries", "[I", true)
  | _ => ("ConditionDesk$Pile", "size", "I", false)
def tb_y3 : Nat → FieldType := fun k => match k with
  | 0 => .array .int
  | _ => .int
def tb_T4 : u_T := fun k => match k with
  | 0 => ("ConditionDesk$Program", "kinds", "[I", true)
  | 1 => ("ConditionDesk$Program", "lefts", "[I", true)
  | 2 => ("ConditionDesk$Program", "rights", "[I", true)
  | 3 => ("ConditionDesk$Program", "values", "[J", true)
  | 4 => ("ConditionDesk$Program", "size", "I", false)
  | _ => ("ConditionDesk$Program", "parts", "I", false)
def tb_y4 : Nat → FieldType := fun k => match k with
  | 0 => .array .int
  | 1 => .array .int
  | 2 => .array .int
  | 3 => .array .long
  | 4 => .int
  | _ => .int
def tb_T5 : u_T := fun k => match k with
  | 0 => ("ConditionDesk$Text", "letters", "[C", true)
  | _ => ("ConditionDesk$Text", "length", "I", false)
def tb_y5 : Nat → FieldType := fun k => match k with
  | 0 => .array .char
  | _ => .int
def tb_T6 : u_T := fun k => match k with
  | 0 => ("ConditionDesk$Tokens", "text", "LConditionDesk$Text;", true)
  | 1 => ("ConditionDesk$Tokens", "start", "I", false)
  | 2 => ("ConditionDesk$Tokens", "behind", "I", false)
  | 3 => ("ConditionDesk$Tokens", "kind", "I", false)
  | _ => ("ConditionDesk$Tokens", "value", "J", false)
def tb_y6 : Nat → FieldType := fun k => match k with
  | 0 => .object "ConditionDesk$Text"
  | 1 => .int
  | 2 => .int
  | 3 => .int
  | _ => .long
def tb_T7 : u_T := fun k => match k with
  | 0 => ("ConditionDesk$Worker", "machine", "LConditionDesk$Machine;", true)
  | 1 => ("ConditionDesk$Worker", "program", "LConditionDesk$Program;", true)
  | 2 => ("ConditionDesk$Worker", "remembered", "[J", true)
  | 3 => ("ConditionDesk$Worker", "present", "[J", true)
  | 4 => ("ConditionDesk$Worker", "workedBefore", "Z", false)
  | 5 => ("ConditionDesk$Worker", "steps", "I", false)
  | _ => ("ConditionDesk$Worker", "failure", "I", false)
def tb_y7 : Nat → FieldType := fun k => match k with
  | 0 => .object "ConditionDesk$Machine"
  | 1 => .object "ConditionDesk$Program"
  | 2 => .array .long
  | 3 => .array .long
  | 4 => .boolean
  | 5 => .int
  | _ => .int
def tb_T8 : u_T := fun k => match k with
  | 0 => ("ConditionDesk", "text", "LConditionDesk$Text;", true)
  | 1 => ("ConditionDesk", "machine", "LConditionDesk$Machine;", true)
  | 2 => ("ConditionDesk", "builder", "LConditionDesk$Builder;", true)
  | 3 => ("ConditionDesk", "conditions", "[LConditionDesk$Condition;", true)
  | _ => ("ConditionDesk", "allSteps", "J", false)
def tb_y8 : Nat → FieldType := fun k => match k with
  | 0 => .object "ConditionDesk$Text"
  | 1 => .object "ConditionDesk$Machine"
  | 2 => .object "ConditionDesk$Builder"
  | 3 => .array (.object "ConditionDesk$Condition")
  | _ => .long
def tb_T9 : u_T := fun k => match k with
  | 0 => ("ConditionDeskModel", "code", "I", false)
  | 1 => ("ConditionDeskModel", "size", "I", false)
  | 2 => ("ConditionDeskModel", "text", "[C", true)
  | 3 => ("ConditionDeskModel", "registers", "[I", true)
  | 4 => ("ConditionDeskModel", "cells", "[I", true)
  | 5 => ("ConditionDeskModel", "machineCount", "J", false)
  | 6 => ("ConditionDeskModel", "there", "[Z", true)
  | 7 => ("ConditionDeskModel", "asked", "[Z", true)
  | 8 => ("ConditionDeskModel", "many", "[I", true)
  | 9 => ("ConditionDeskModel", "parts", "[I", true)
  | 10 => ("ConditionDeskModel", "ignored", "[I", true)
  | 11 => ("ConditionDeskModel", "fails", "[I", true)
  | 12 => ("ConditionDeskModel", "steps", "[I", true)
  | 13 => ("ConditionDeskModel", "value", "[J", true)
  | 14 => ("ConditionDeskModel", "hits", "[J", true)
  | 15 => ("ConditionDeskModel", "kind", "[I", true)
  | 16 => ("ConditionDeskModel", "partner", "[I", true)
  | 17 => ("ConditionDeskModel", "number", "[J", true)
  | 18 => ("ConditionDeskModel", "before", "[J", true)
  | 19 => ("ConditionDeskModel", "next", "[J", true)
  | 20 => ("ConditionDeskModel", "allSteps", "J", false)
  | 21 => ("ConditionDeskModel", "at", "I", false)
  | 22 => ("ConditionDeskModel", "token", "I", false)
  | 23 => ("ConditionDeskModel", "start", "I", false)
  | 24 => ("ConditionDeskModel", "tokens", "I", false)
  | 25 => ("ConditionDeskModel", "opened", "I", false)
  | 26 => ("ConditionDeskModel", "fault", "I", false)
  | 27 => ("ConditionDeskModel", "tokenValue", "J", false)
  | 28 => ("ConditionDeskModel", "newKind", "[I", true)
  | 29 => ("ConditionDeskModel", "newPartner", "[I", true)
  | 30 => ("ConditionDeskModel", "openAt", "[I", true)
  | 31 => ("ConditionDeskModel", "newNumber", "[J", true)
  | 32 => ("ConditionDeskModel", "begun", "I", false)
  | 33 => ("ConditionDeskModel", "worked", "I", false)
  | 34 => ("ConditionDeskModel", "failed", "I", false)
  | 35 => ("ConditionDeskModel", "result", "J", false)
  | 36 => ("ConditionDeskModel", "first", "[I", true)
  | 37 => ("ConditionDeskModel", "last", "[I", true)
  | 38 => ("ConditionDeskModel", "sign", "[I", true)
  | 39 => ("ConditionDeskModel", "stage", "[I", true)
  | _ => ("ConditionDeskModel", "left", "[J", true)
def tb_y9 : Nat → FieldType := fun k => match k with
  | 0 => .int
  | 1 => .int
  | 2 => .array .char
  | 3 => .array .int
  | 4 => .array .int
  | 5 => .long
  | 6 => .array .boolean
  | 7 => .array .boolean
  | 8 => .array .int
  | 9 => .array .int
  | 10 => .array .int
  | 11 => .array .int
  | 12 => .array .int
  | 13 => .array .long
  | 14 => .array .long
  | 15 => .array .int
  | 16 => .array .int
  | 17 => .array .long
  | 18 => .array .long
  | 19 => .array .long
  | 20 => .long
  | 21 => .int
  | 22 => .int
  | 23 => .int
  | 24 => .int
  | 25 => .int
  | 26 => .int
  | 27 => .long
  | 28 => .array .int
  | 29 => .array .int
  | 30 => .array .int
  | 31 => .array .long
  | 32 => .int
  | 33 => .int
  | 34 => .int
  | 35 => .long
  | 36 => .array .int
  | 37 => .array .int
  | 38 => .array .int
  | 39 => .array .int
  | _ => .array .long
def tb_cl : List vw_C := [("ConditionDesk$Builder", tb_T0, 7), ("ConditionDesk$Condition", tb_T1, 7), ("ConditionDesk$Machine", tb_T2, 3), ("ConditionDesk$Pile", tb_T3, 2), ("ConditionDesk$Program", tb_T4, 6), ("ConditionDesk$Text", tb_T5, 2), ("ConditionDesk$Tokens", tb_T6, 5), ("ConditionDesk$Worker", tb_T7, 7), ("ConditionDesk", tb_T8, 5), ("ConditionDeskModel", tb_T9, 41)]
def tb_ft (c : Nat) : Nat → FieldType := match c with
  | 0 => tb_y0
  | 1 => tb_y1
  | 2 => tb_y2
  | 3 => tb_y3
  | 4 => tb_y4
  | 5 => tb_y5
  | 6 => tb_y6
  | 7 => tb_y7
  | 8 => tb_y8
  | _ => tb_y9
def tb_tt : List FieldType := [.int, .long, .char, .boolean, .object "ConditionDesk$Condition"]
def tb_ta (a : Jvm.ClassFile.ArrayType) : Option Nat := match a with
  | .int => some 0
  | .long => some 1
  | .char => some 2
  | .boolean => some 3
  | _ => none
def tb_nM : Nat := 136
def tb_mt0 : List (MethodName × ByteArray × Nat × Option FieldType × Nat × Bool) := [(⟨"ConditionDesk", "<init>", "()V"⟩, prog_1_method_1_code, 2, (Option.none : Option  FieldType), 8, true),
  (⟨"ConditionDesk$Text", "<init>", "()V"⟩, prog_7_method_1_code, 1, (Option.none : Option  FieldType), 5, true),
  (⟨"ConditionDesk$Machine", "<init>", "()V"⟩, prog_4_method_1_code, 1, (Option.none : Option  FieldType), 2, true),
  (⟨"ConditionDesk$Builder", "<init>", "(LConditionDesk$Text;)V"⟩, prog_2_method_1_code, 2, (Option.none : Option  FieldType), 0, true),
  (⟨"ConditionDesk$Program", "<init>", "()V"⟩, prog_6_method_1_code, 1, (Option.none : Option  FieldType), 4, true),
  (⟨"ConditionDesk$Pile", "<init>", "(I)V"⟩, prog_5_method_1_code, 2, (Option.none : Option  FieldType), 3, true),
  (⟨"ConditionDesk$Tokens", "<init>", "(LConditionDesk$Text;)V"⟩, prog_8_method_1_code, 2, (Option.none : Option  FieldType), 6, true),
  (⟨"ConditionDesk$Condition", "<init>", "(LConditionDesk$Machine;)V"⟩, prog_3_method_1_code, 2, (Option.none : Option  FieldType), 1, true),
  (⟨"ConditionDesk$Worker", "<init>", "(LConditionDesk$Machine;)V"⟩, prog_9_method_1_code, 2, (Option.none : Option  FieldType), 7, true),
  (⟨"ConditionDesk", "type", "(C)Z"⟩, prog_1_method_2_code, 2, (Option.some  FieldType.boolean), 8, false),
  (⟨"ConditionDesk$Text", "append", "(C)Z"⟩, prog_7_method_2_code, 2, (Option.some  FieldType.boolean), 5, false),
  (⟨"ConditionDesk", "go", "(J)V"⟩, prog_1_method_6_code, 3, (Option.none : Option  FieldType), 8, false),
  (⟨"ConditionDesk", "askAll", "()I"⟩, prog_1_method_10_code, 4, (Option.some  FieldType.int), 8, false),
  (⟨"ConditionDesk$Condition", "answer", "()I"⟩, prog_3_method_3_code, 1, (Option.some  FieldType.int), 1, false),
  (⟨"ConditionDesk$Worker", "workAll", "()J"⟩, prog_9_method_3_code, 5, (Option.some  FieldType.long), 7, false),
  (⟨"ConditionDesk$Worker", "work", "(II)J"⟩, prog_9_method_6_code, 4, (Option.some  FieldType.long), 7, false)]
def tb_mt1 : List (MethodName × ByteArray × Nat × Option FieldType × Nat × Bool) := [(⟨"ConditionDesk$Program", "has", "(I)Z"⟩, prog_6_method_5_code, 2, (Option.some  FieldType.boolean), 4, false),
  (⟨"ConditionDesk$Program", "kindAt", "(I)I"⟩, prog_6_method_6_code, 2, (Option.some  FieldType.int), 4, false),
  (⟨"ConditionDesk$Program", "valueAt", "(I)J"⟩, prog_6_method_9_code, 2, (Option.some  FieldType.long), 4, false),
  (⟨"ConditionDesk$Machine", "registerAt", "(J)I"⟩, prog_4_method_3_code, 3, (Option.some  FieldType.int), 2, false),
  (⟨"ConditionDesk$Worker", "rememberedAt", "(I)J"⟩, prog_9_method_5_code, 2, (Option.some  FieldType.long), 7, false),
  (⟨"ConditionDesk$Program", "leftOf", "(I)I"⟩, prog_6_method_7_code, 2, (Option.some  FieldType.int), 4, false),
  (⟨"ConditionDesk$Worker", "workChanged", "(II)J"⟩, prog_9_method_7_code, 5, (Option.some  FieldType.long), 7, false),
  (⟨"ConditionDesk$Worker", "truth", "(Z)J"⟩, prog_9_method_15_code, 1, (Option.some  FieldType.long), 7, false),
  (⟨"ConditionDesk$Worker", "access", "(IJ)J"⟩, prog_9_method_11_code, 6, (Option.some  FieldType.long), 7, false),
  (⟨"ConditionDesk$Machine", "byteAt", "(I)J"⟩, prog_4_method_5_code, 2, (Option.some  FieldType.long), 2, false),
  (⟨"ConditionDesk$Machine", "halfAt", "(I)J"⟩, prog_4_method_6_code, 2, (Option.some  FieldType.long), 2, false),
  (⟨"ConditionDesk$Machine", "wordAt", "(I)J"⟩, prog_4_method_7_code, 2, (Option.some  FieldType.long), 2, false),
  (⟨"ConditionDesk$Worker", "before", "(IJ)J"⟩, prog_9_method_12_code, 3, (Option.some  FieldType.long), 7, false),
  (⟨"ConditionDesk$Worker", "workTruth", "(II)J"⟩, prog_9_method_8_code, 5, (Option.some  FieldType.long), 7, false),
  (⟨"ConditionDesk$Program", "rightOf", "(I)I"⟩, prog_6_method_8_code, 2, (Option.some  FieldType.int), 4, false),
  (⟨"ConditionDesk$Worker", "workBetween", "(II)J"⟩, prog_9_method_9_code, 8, (Option.some  FieldType.long), 7, false)]
def tb_mt2 : List (MethodName × ByteArray × Nat × Option FieldType × Nat × Bool) := [(⟨"ConditionDesk$Worker", "divide", "(IJJ)J"⟩, prog_9_method_10_code, 6, (Option.some  FieldType.long), 7, false),
  (⟨"ConditionDesk", "compares", "(I)Z"⟩, prog_1_method_17_code, 1, (Option.some  FieldType.boolean), 8, false),
  (⟨"ConditionDesk$Worker", "compare", "(IJJ)Z"⟩, prog_9_method_13_code, 5, (Option.some  FieldType.boolean), 7, false),
  (⟨"ConditionDesk$Worker", "combine", "(IJJ)J"⟩, prog_9_method_14_code, 5, (Option.some  FieldType.long), 7, false),
  (⟨"ConditionDesk$Worker", "remember", "()V"⟩, prog_9_method_4_code, 5, (Option.none : Option  FieldType), 7, false),
  (⟨"ConditionDesk", "count", "(I)J"⟩, prog_1_method_12_code, 2, (Option.some  FieldType.long), 8, false),
  (⟨"ConditionDesk", "conditionsThere", "()I"⟩, prog_1_method_14_code, 4, (Option.some  FieldType.int), 8, false),
  (⟨"ConditionDesk", "compile", "(I)I"⟩, prog_1_method_3_code, 4, (Option.some  FieldType.int), 8, false),
  (⟨"ConditionDesk", "conditionAt", "(I)LConditionDesk$Condition;"⟩, prog_1_method_13_code, 2, (Option.some (FieldType.object "ConditionDesk$Condition")), 8, false),
  (⟨"ConditionDesk$Builder", "build", "()I"⟩, prog_2_method_2_code, 3, (Option.some  FieldType.int), 0, false),
  (⟨"ConditionDesk$Builder", "restart", "()V"⟩, prog_2_method_3_code, 1, (Option.none : Option  FieldType), 0, false),
  (⟨"ConditionDesk$Tokens", "restart", "()V"⟩, prog_8_method_2_code, 1, (Option.none : Option  FieldType), 6, false),
  (⟨"ConditionDesk$Program", "clear", "()V"⟩, prog_6_method_2_code, 1, (Option.none : Option  FieldType), 4, false),
  (⟨"ConditionDesk$Pile", "clear", "()V"⟩, prog_5_method_5_code, 1, (Option.none : Option  FieldType), 3, false),
  (⟨"ConditionDesk$Tokens", "next", "()V"⟩, prog_8_method_3_code, 2, (Option.none : Option  FieldType), 6, false),
  (⟨"ConditionDesk$Tokens", "skipBlanks", "()V"⟩, prog_8_method_4_code, 1, (Option.none : Option  FieldType), 6, false)]
def tb_mt3 : List (MethodName × ByteArray × Nat × Option FieldType × Nat × Bool) := [(⟨"ConditionDesk$Text", "letterAt", "(I)C"⟩, prog_7_method_3_code, 2, (Option.some  FieldType.char), 5, false),
  (⟨"ConditionDesk$Tokens", "isDigit", "(C)Z"⟩, prog_8_method_14_code, 1, (Option.some  FieldType.boolean), 6, false),
  (⟨"ConditionDesk$Tokens", "readNumber", "()V"⟩, prog_8_method_5_code, 5, (Option.none : Option  FieldType), 6, false),
  (⟨"ConditionDesk$Tokens", "digitOf", "(C)I"⟩, prog_8_method_17_code, 1, (Option.some  FieldType.int), 6, false),
  (⟨"ConditionDesk$Tokens", "isLetterOrDigit", "(C)Z"⟩, prog_8_method_16_code, 1, (Option.some  FieldType.boolean), 6, false),
  (⟨"ConditionDesk$Tokens", "isLetter", "(C)Z"⟩, prog_8_method_15_code, 1, (Option.some  FieldType.boolean), 6, false),
  (⟨"ConditionDesk$Tokens", "readWord", "()V"⟩, prog_8_method_6_code, 2, (Option.none : Option  FieldType), 6, false),
  (⟨"ConditionDesk$Tokens", "registerOfWord", "()I"⟩, prog_8_method_7_code, 5, (Option.some  FieldType.int), 6, false),
  (⟨"ConditionDesk$Tokens", "isWord", "(Ljava/lang/String;)Z"⟩, prog_8_method_9_code, 3, (Option.some  FieldType.boolean), 6, false),
  (⟨"ConditionDesk$Tokens", "kindOfWord", "()I"⟩, prog_8_method_8_code, 1, (Option.some  FieldType.int), 6, false),
  (⟨"ConditionDesk$Tokens", "readSign", "()V"⟩, prog_8_method_10_code, 3, (Option.none : Option  FieldType), 6, false),
  (⟨"ConditionDesk$Tokens", "kindOfDouble", "(C)I"⟩, prog_8_method_11_code, 1, (Option.some  FieldType.int), 6, false),
  (⟨"ConditionDesk$Tokens", "kindWithEqual", "(C)I"⟩, prog_8_method_12_code, 1, (Option.some  FieldType.int), 6, false),
  (⟨"ConditionDesk$Tokens", "kindOfSingle", "(C)I"⟩, prog_8_method_13_code, 1, (Option.some  FieldType.int), 6, false),
  (⟨"ConditionDesk$Builder", "faultOf", "(I)I"⟩, prog_2_method_4_code, 2, (Option.some  FieldType.int), 0, false),
  (⟨"ConditionDesk$Builder", "fits", "(I)Z"⟩, prog_2_method_5_code, 2, (Option.some  FieldType.boolean), 0, false)]
def tb_mt4 : List (MethodName × ByteArray × Nat × Option FieldType × Nat × Bool) := [(⟨"ConditionDesk$Builder", "beginsOperand", "(I)Z"⟩, prog_2_method_6_code, 1, (Option.some  FieldType.boolean), 0, false),
  (⟨"ConditionDesk$Builder", "followsOperand", "(I)Z"⟩, prog_2_method_7_code, 2, (Option.some  FieldType.boolean), 0, false),
  (⟨"ConditionDesk$Pile", "top", "()I"⟩, prog_5_method_3_code, 1, (Option.some  FieldType.int), 3, false),
  (⟨"ConditionDesk", "standsBetween", "(I)Z"⟩, prog_1_method_16_code, 1, (Option.some  FieldType.boolean), 8, false),
  (⟨"ConditionDesk$Builder", "isPart", "(I)Z"⟩, prog_2_method_8_code, 1, (Option.some  FieldType.boolean), 0, false),
  (⟨"ConditionDesk$Builder", "opens", "(I)Z"⟩, prog_2_method_9_code, 1, (Option.some  FieldType.boolean), 0, false),
  (⟨"ConditionDesk$Builder", "settle", "(I)V"⟩, prog_2_method_15_code, 3, (Option.none : Option  FieldType), 0, false),
  (⟨"ConditionDesk", "strengthOf", "(I)I"⟩, prog_1_method_15_code, 1, (Option.some  FieldType.int), 8, false),
  (⟨"ConditionDesk$Builder", "settleOne", "()V"⟩, prog_2_method_16_code, 4, (Option.none : Option  FieldType), 0, false),
  (⟨"ConditionDesk$Pile", "pop", "()I"⟩, prog_5_method_4_code, 1, (Option.some  FieldType.int), 3, false),
  (⟨"ConditionDesk$Program", "add", "(IIIJ)I"⟩, prog_6_method_3_code, 7, (Option.some  FieldType.int), 4, false),
  (⟨"ConditionDesk$Pile", "push", "(I)V"⟩, prog_5_method_2_code, 2, (Option.none : Option  FieldType), 3, false),
  (⟨"ConditionDesk$Builder", "take", "(I)V"⟩, prog_2_method_10_code, 2, (Option.none : Option  FieldType), 0, false),
  (⟨"ConditionDesk$Builder", "takeOpening", "(I)V"⟩, prog_2_method_11_code, 2, (Option.none : Option  FieldType), 0, false),
  (⟨"ConditionDesk$Builder", "takeBehindOperand", "(I)V"⟩, prog_2_method_13_code, 2, (Option.none : Option  FieldType), 0, false),
  (⟨"ConditionDesk$Builder", "takesBrackets", "(I)Z"⟩, prog_2_method_14_code, 1, (Option.some  FieldType.boolean), 0, false)]
def tb_mt5 : List (MethodName × ByteArray × Nat × Option FieldType × Nat × Bool) := [(⟨"ConditionDesk$Builder", "takeBeforeOperand", "(I)V"⟩, prog_2_method_12_code, 2, (Option.none : Option  FieldType), 0, false),
  (⟨"ConditionDesk$Text", "clear", "()V"⟩, prog_7_method_4_code, 1, (Option.none : Option  FieldType), 5, false),
  (⟨"ConditionDesk$Condition", "begin", "(LConditionDesk$Program;)V"⟩, prog_3_method_2_code, 2, (Option.none : Option  FieldType), 1, false),
  (⟨"ConditionDesk$Worker", "begin", "(LConditionDesk$Program;)V"⟩, prog_9_method_2_code, 2, (Option.none : Option  FieldType), 7, false),
  (⟨"ConditionDesk$Program", "copyFrom", "(LConditionDesk$Program;)V"⟩, prog_6_method_4_code, 2, (Option.none : Option  FieldType), 4, false),
  (⟨"ConditionDesk", "drop", "(I)Z"⟩, prog_1_method_4_code, 4, (Option.some  FieldType.boolean), 8, false),
  (⟨"ConditionDesk", "set", "(II)V"⟩, prog_1_method_5_code, 3, (Option.none : Option  FieldType), 8, false),
  (⟨"ConditionDesk$Machine", "putRegister", "(II)V"⟩, prog_4_method_2_code, 3, (Option.none : Option  FieldType), 2, false),
  (⟨"ConditionDesk", "poke", "(II)V"⟩, prog_1_method_7_code, 3, (Option.none : Option  FieldType), 8, false),
  (⟨"ConditionDesk$Machine", "putCell", "(II)V"⟩, prog_4_method_4_code, 3, (Option.none : Option  FieldType), 2, false),
  (⟨"ConditionDesk", "ignore", "(II)I"⟩, prog_1_method_8_code, 5, (Option.some  FieldType.int), 8, false),
  (⟨"ConditionDesk", "ask", "(I)I"⟩, prog_1_method_9_code, 4, (Option.some  FieldType.int), 8, false),
  (⟨"ConditionDesk", "about", "(II)J"⟩, prog_1_method_11_code, 4, (Option.some  FieldType.long), 8, false),
  (⟨"ConditionDesk$Condition", "tell", "(I)J"⟩, prog_3_method_4_code, 2, (Option.some  FieldType.long), 1, false),
  (⟨"ConditionDeskModel", "<init>", "()V"⟩, prog_11_method_1_code, 1, (Option.none : Option  FieldType), 9, true),
  (⟨"ConditionDeskModel", "thrown", "()I"⟩, prog_11_method_2_code, 1, (Option.some  FieldType.int), 9, false)]
def tb_mt6 : List (MethodName × ByteArray × Nat × Option FieldType × Nat × Bool) := [(⟨"ConditionDeskModel", "type", "(C)Z"⟩, prog_11_method_5_code, 2, (Option.some  FieldType.boolean), 9, false),
  (⟨"ConditionDeskModel", "compile", "(I)I"⟩, prog_11_method_19_code, 4, (Option.some  FieldType.int), 9, false),
  (⟨"ConditionDeskModel", "in", "(JJJ)Z"⟩, prog_11_method_4_code, 6, (Option.some  FieldType.boolean), 9, false),
  (⟨"ConditionDeskModel", "refuses", "(ZZ)Z"⟩, prog_11_method_3_code, 3, (Option.some  FieldType.boolean), 9, false),
  (⟨"ConditionDeskModel", "read", "()I"⟩, prog_11_method_18_code, 6, (Option.some  FieldType.int), 9, false),
  (⟨"ConditionDeskModel", "charAt", "(I)I"⟩, prog_11_method_6_code, 2, (Option.some  FieldType.int), 9, false),
  (⟨"ConditionDeskModel", "scan", "()V"⟩, prog_11_method_10_code, 5, (Option.none : Option  FieldType), 9, false),
  (⟨"ConditionDeskModel", "isPlain", "(I)Z"⟩, prog_11_method_8_code, 1, (Option.some  FieldType.boolean), 9, false),
  (⟨"ConditionDeskModel", "isDigit", "(I)Z"⟩, prog_11_method_7_code, 1, (Option.some  FieldType.boolean), 9, false),
  (⟨"ConditionDeskModel", "scanNumber", "()V"⟩, prog_11_method_11_code, 5, (Option.none : Option  FieldType), 9, false),
  (⟨"ConditionDeskModel", "scanWord", "()V"⟩, prog_11_method_12_code, 3, (Option.none : Option  FieldType), 9, false),
  (⟨"ConditionDeskModel", "is", "(IIJ)Z"⟩, prog_11_method_9_code, 8, (Option.some  FieldType.boolean), 9, false),
  (⟨"ConditionDeskModel", "begins", "(I)Z"⟩, prog_11_method_14_code, 1, (Option.some  FieldType.boolean), 9, false),
  (⟨"ConditionDeskModel", "isBetween", "(I)Z"⟩, prog_11_method_15_code, 1, (Option.some  FieldType.boolean), 9, false),
  (⟨"ConditionDeskModel", "meet", "(II)V"⟩, prog_11_method_13_code, 3, (Option.none : Option  FieldType), 9, false),
  (⟨"ConditionDeskModel", "shut", "()V"⟩, prog_11_method_17_code, 1, (Option.none : Option  FieldType), 9, false)]
def tb_mt7 : List (MethodName × ByteArray × Nat × Option FieldType × Nat × Bool) := [(⟨"ConditionDeskModel", "take", "()V"⟩, prog_11_method_16_code, 1, (Option.none : Option  FieldType), 9, false),
  (⟨"ConditionDeskModel", "drop", "(I)Z"⟩, prog_11_method_20_code, 3, (Option.some  FieldType.boolean), 9, false),
  (⟨"ConditionDeskModel", "set", "(II)V"⟩, prog_11_method_21_code, 3, (Option.none : Option  FieldType), 9, false),
  (⟨"ConditionDeskModel", "go", "(J)V"⟩, prog_11_method_22_code, 3, (Option.none : Option  FieldType), 9, false),
  (⟨"ConditionDeskModel", "poke", "(II)V"⟩, prog_11_method_23_code, 3, (Option.none : Option  FieldType), 9, false),
  (⟨"ConditionDeskModel", "ignore", "(II)I"⟩, prog_11_method_37_code, 4, (Option.some  FieldType.int), 9, false),
  (⟨"ConditionDeskModel", "ask", "(I)I"⟩, prog_11_method_39_code, 2, (Option.some  FieldType.int), 9, false),
  (⟨"ConditionDeskModel", "asking", "(I)I"⟩, prog_11_method_38_code, 5, (Option.some  FieldType.int), 9, false),
  (⟨"ConditionDeskModel", "work", "(III)J"⟩, prog_11_method_29_code, 6, (Option.some  FieldType.long), 9, false),
  (⟨"ConditionDeskModel", "begin", "(II)V"⟩, prog_11_method_26_code, 3, (Option.none : Option  FieldType), 9, false),
  (⟨"ConditionDeskModel", "enter", "(II)V"⟩, prog_11_method_30_code, 5, (Option.none : Option  FieldType), 9, false),
  (⟨"ConditionDeskModel", "least", "(II)I"⟩, prog_11_method_25_code, 7, (Option.some  FieldType.int), 9, false),
  (⟨"ConditionDeskModel", "rank", "(I)I"⟩, prog_11_method_24_code, 1, (Option.some  FieldType.int), 9, false),
  (⟨"ConditionDeskModel", "give", "(J)V"⟩, prog_11_method_27_code, 3, (Option.none : Option  FieldType), 9, false),
  (⟨"ConditionDeskModel", "half", "(I)V"⟩, prog_11_method_31_code, 3, (Option.none : Option  FieldType), 9, false),
  (⟨"ConditionDeskModel", "join", "(II)V"⟩, prog_11_method_33_code, 10, (Option.none : Option  FieldType), 9, false)]
def tb_mt8 : List (MethodName × ByteArray × Nat × Option FieldType × Nat × Bool) := [(⟨"ConditionDeskModel", "truth", "(Z)J"⟩, prog_11_method_32_code, 1, (Option.some  FieldType.long), 9, false),
  (⟨"ConditionDeskModel", "access", "(IJ)V"⟩, prog_11_method_34_code, 7, (Option.none : Option  FieldType), 9, false),
  (⟨"ConditionDeskModel", "fail", "(I)V"⟩, prog_11_method_28_code, 2, (Option.none : Option  FieldType), 9, false),
  (⟨"ConditionDeskModel", "both", "(IJJ)J"⟩, prog_11_method_35_code, 5, (Option.some  FieldType.long), 9, false),
  (⟨"ConditionDeskModel", "remember", "(I)V"⟩, prog_11_method_36_code, 4, (Option.none : Option  FieldType), 9, false),
  (⟨"ConditionDeskModel", "askAll", "()I"⟩, prog_11_method_40_code, 3, (Option.some  FieldType.int), 9, false),
  (⟨"ConditionDeskModel", "about", "(II)J"⟩, prog_11_method_41_code, 3, (Option.some  FieldType.long), 9, false),
  (⟨"ConditionDeskModel", "count", "(I)J"⟩, prog_11_method_42_code, 4, (Option.some  FieldType.long), 9, false)]
def tb_mt : List (MethodName × ByteArray × Nat × Option FieldType × Nat × Bool) := tb_mt0 ++ (tb_mt1 ++ (tb_mt2 ++ (tb_mt3 ++ (tb_mt4 ++ (tb_mt5 ++ (tb_mt6 ++ (tb_mt7 ++ (tb_mt8))))))))
def tb_m0 : MethodName × ByteArray × Nat × Option FieldType × Nat × Bool := (⟨"", "", ""⟩, ⟨#[]⟩, 0, none, 0, false)
def tb_my (k : Nat) : MethodName := (tb_mt.getD k tb_m0).1
def tb_mb (k : Nat) : ByteArray := (tb_mt.getD k tb_m0).2.1
def tb_mL (k : Nat) : Nat := (tb_mt.getD k tb_m0).2.2.1
def tb_mr (k : Nat) : Option FieldType := (tb_mt.getD k tb_m0).2.2.2.1
def tb_oc (k : Nat) : Nat := (tb_mt.getD k tb_m0).2.2.2.2.1
def tb_ini (k : Nat) : Option Nat := if (tb_mt.getD k tb_m0).2.2.2.2.2 = true then some (tb_oc k) else none
def tb_mok (k : Nat) : Bool := decide (k < tb_nM)
def tb_frL : List ((Nat × Nat) × (Nat × Nat × Bool) × Nat) := [((0, 12), (0, 2, false), 220), ((0, 23), (0, 3, false), 222), ((0, 27), (0, 4, false), 223), ((0, 30), (0, 5, false), 224), ((0, 33), (0, 6, false), 225), ((0, 37), (0, 0, false), 218), ((0, 46), (0, 1, false), 219), ((0, 56), (6, 3, true), 204), ((0, 63), (6, 1, true), 201), ((0, 72), (5, 1, true), 116), ((0, 89), (4, 5, true), 163), ((0, 95), (3, 1, true), 187), ((0, 123), (6, 4, true), 206), ((1, 7), (1, 1, false), 282), ((1, 13), (1, 2, false), 284), ((1, 17), (1, 3, false), 286), ((1, 21), (1, 4, false), 287), ((1, 24), (1, 5, false), 288), ((1, 27), (1, 6, false), 289), ((1, 35), (1, 0, false), 281), ((1, 47), (7, 5, true), 263), ((1, 49), (7, 6, true), 265), ((1, 52), (7, 1, true), 258), ((1, 56), (4, 5, true), 164), ((2, 9), (2, 0, false), 131), ((2, 15), (2, 1, false), 132), ((2, 18), (2, 2, false), 133), ((3, 7), (3, 1, false), 186), ((3, 13), (3, 0, false), 185), ((4, 9), (4, 0, false), 156), ((4, 15), (4, 1, false), 157), ((4, 18), (4, 2, false), 158), ((4, 21), (4, 3, false), 159), ((4, 25), (4, 4, false), 160), ((4, 29), (4, 5, false), 162), ((5, 9), (5, 0, false), 114), ((5, 15), (5, 1, false), 115), ((6, 9), (6, 1, false), 200), ((6, 15), (6, 2, false), 202), ((6, 18), (6, 3, false), 203), ((6, 21), (6, 4, false), 205), ((6, 25), (6, 0, false), 199), ((6, 38), (5, 1, true), 117), ((7, 12), (7, 1, false), 257), ((7, 18), (7, 2, false), 259), ((7, 22), (7, 3, false), 260), ((7, 25), (7, 4, false), 261), ((7, 29), (7, 5, false), 262), ((7, 33), (7, 6, false), 264), ((7, 36), (7, 0, false), 256), ((7, 44), (4, 4, true), 161), ((7, 81), (2, 2, true), 135), ((8, 10), (8, 0, false), 306), ((8, 19), (8, 1, false), 307), ((8, 28), (8, 2, false), 308), ((8, 34), (8, 3, false), 309), ((8, 41), (8, 4, false), 310), ((8, 67), (0, 2, true), 221), ((8, 75), (1, 1, true), 283), ((8, 85), (2, 2, true), 134), ((8, 100), (1, 2, true), 285), ((8, 107), (1, 6, true), 290), ((8, 116), (5, 1, true), 118), ((9, 7), (9, 2, false), 830), ((9, 13), (9, 3, false), 831), ((9, 17), (9, 4, false), 832), ((9, 20), (9, 6, false), 834), ((9, 24), (9, 7, false), 835), ((9, 27), (9, 8, false), 836), ((9, 30), (9, 9, false), 837), ((9, 33), (9, 10, false), 838), ((9, 36), (9, 11, false), 839), ((9, 39), (9, 12, false), 840), ((9, 42), (9, 13, false), 841), ((9, 46), (9, 14, false), 842), ((9, 49), (9, 15, false), 843), ((9, 52), (9, 16, false), 844), ((9, 55), (9, 17, false), 845), ((9, 58), (9, 18, false), 846), ((9, 61), (9, 19, false), 847), ((9, 64), (9, 28, false), 856), ((9, 67), (9, 29, false), 857), ((9, 70), (9, 30, false), 858), ((9, 73), (9, 31, false), 859), ((9, 76), (9, 36, false), 864), ((9, 79), (9, 37, false), 865), ((9, 82), (9, 38, false), 866), ((9, 85), (9, 39, false), 867), ((9, 88), (9, 40, false), 868), ((9, 91), (9, 0, false), 828), ((9, 95), (9, 1, false), 829), ((9, 102), (9, 21, false), 849), ((9, 109), (9, 23, false), 851), ((9, 121), (9, 22, false), 850), ((9, 124), (9, 27, false), 855), ((9, 154), (9, 26, false), 854), ((9, 157), (9, 24, false), 852), ((9, 160), (9, 25, false), 853), ((9, 198), (9, 5, false), 833), ((9, 206), (9, 32, false), 860), ((9, 209), (9, 35, false), 863), ((9, 212), (9, 34, false), 862), ((9, 228), (9, 33, false), 861), ((9, 264), (9, 20, false), 848)]
def tb_fr (o x : Nat) : Option (Nat × Nat × Bool) := (tb_frL.find? (fun q => q.1.1 == o && q.1.2 == x)).map (fun q => q.2.1)
def tb_crL : List ((Nat × Nat) × (Nat × Nat × Bool × Nat) × Nat) := [((0, 11), (2, 4, true, 0), 152), ((0, 20), (2, 5, true, 1), 181), ((0, 43), (2, 6, true, 1), 195), ((0, 50), (0, 42, false, 0), 528), ((0, 53), (0, 46, true, 0), 544), ((0, 59), (0, 62, false, 1), 660), ((0, 66), (0, 70, false, 1), 688), ((0, 69), (0, 76, false, 1), 711), ((0, 77), (0, 43, true, 0), 532), ((0, 78), (0, 44, true, 0), 536), ((0, 81), (0, 45, true, 0), 540), ((0, 82), (0, 63, false, 1), 664), ((0, 86), (1, 68, false, 1), 682), ((0, 92), (1, 69, false, 1), 685), ((0, 98), (1, 64, false, 1), 668), ((0, 101), (0, 65, false, 1), 671), ((0, 104), (0, 66, true, 0), 675), ((0, 108), (1, 67, true, 1), 679), ((0, 111), (0, 77, false, 1), 715), ((0, 114), (0, 78, false, 1), 719), ((0, 117), (0, 80, false, 1), 726), ((0, 120), (0, 75, true, 1), 707), ((0, 127), (0, 74, true, 4), 703), ((0, 131), (0, 73, true, 0), 699), ((0, 134), (1, 79, false, 1), 723), ((0, 137), (0, 72, false, 0), 695), ((0, 140), (1, 71, true, 1), 692), ((1, 32), (2, 8, true, 1), 250), ((1, 39), (0, 83, true, 1), 738), ((1, 43), (0, 14, true, 0), 342), ((2, 22), (0, 25, false, 1), 394), ((6, 29), (0, 47, false, 0), 548), ((6, 32), (0, 48, true, 1), 552), ((6, 41), (1, 49, false, 1), 556), ((6, 45), (0, 50, false, 0), 559), ((6, 48), (1, 53, false, 1), 573), ((6, 51), (0, 54, false, 0), 576), ((6, 54), (0, 58, false, 0), 647), ((6, 57), (1, 51, false, 1), 563), ((6, 69), (1, 52, false, 1), 570), ((6, 72), (0, 55, false, 0), 580), ((6, 76), (0, 57, false, 0), 638), ((6, 81), (0, 56, false, 1), 585), ((6, 104), (1, 59, false, 1), 651), ((6, 107), (1, 60, false, 1), 654), ((6, 110), (1, 61, false, 1), 657), ((7, 11), (2, 4, true, 0), 255), ((7, 40), (0, 84, true, 1), 742), ((7, 47), (0, 15, false, 2), 346), ((7, 51), (0, 36, false, 0), 429), ((7, 54), (0, 17, true, 1), 354), ((7, 58), (0, 21, true, 1), 370), ((7, 67), (0, 16, true, 1), 350), ((7, 71), (0, 18, true, 1), 358), ((7, 75), (0, 19, true, 1), 362), ((7, 85), (0, 20, false, 1), 366), ((7, 88), (0, 22, false, 2), 374), ((7, 91), (0, 24, false, 2), 381), ((7, 95), (1, 28, false, 2), 399), ((7, 98), (0, 29, false, 2), 403), ((7, 101), (0, 31, false, 2), 411), ((7, 104), (1, 23, false, 1), 378), ((7, 108), (0, 30, true, 1), 407), ((7, 111), (0, 32, false, 3), 415), ((7, 115), (1, 33, true, 1), 419), ((7, 118), (1, 34, false, 3), 422), ((7, 122), (1, 35, false, 3), 425), ((7, 127), (0, 25, true, 1), 386), ((7, 130), (0, 26, true, 1), 390), ((7, 133), (0, 27, true, 1), 395), ((8, 9), (2, 1, true, 0), 110), ((8, 18), (2, 2, true, 0), 127), ((8, 25), (2, 3, true, 1), 146), ((8, 38), (2, 7, true, 1), 244), ((8, 45), (0, 10, true, 1), 326), ((8, 49), (0, 40, false, 1), 453), ((8, 60), (0, 41, true, 0), 524), ((8, 64), (0, 81, true, 0), 730), ((8, 71), (0, 82, true, 1), 734), ((8, 81), (0, 87, true, 2), 762), ((8, 90), (0, 89, true, 2), 774), ((8, 104), (0, 13, true, 0), 338), ((8, 112), (0, 93, true, 1), 818), ((8, 119), (0, 38, false, 0), 440), ((9, 98), (1, 104, false, 1), 988), ((9, 105), (0, 101, false, 1), 977), ((9, 112), (1, 103, false, 1), 985), ((9, 115), (0, 105, false, 0), 991), ((9, 118), (0, 106, false, 0), 998), ((9, 138), (0, 107, false, 3), 1004), ((9, 163), (0, 112, false, 0), 1028), ((9, 166), (0, 102, false, 0), 981), ((9, 169), (1, 108, false, 1), 1014), ((9, 172), (1, 109, false, 1), 1017), ((9, 175), (0, 110, false, 2), 1020), ((9, 179), (0, 111, false, 0), 1024), ((9, 184), (1, 98, false, 3), 966), ((9, 188), (0, 99, false, 2), 969), ((9, 192), (0, 100, false, 0), 973), ((9, 203), (1, 124, false, 1), 1079), ((9, 215), (0, 121, false, 2), 1067), ((9, 218), (0, 122, false, 2), 1071), ((9, 221), (0, 126, false, 1), 1086), ((9, 225), (0, 127, false, 2), 1090), ((9, 231), (0, 123, false, 2), 1075), ((9, 235), (0, 125, false, 1), 1082), ((9, 239), (1, 128, false, 1), 1094), ((9, 245), (0, 129, false, 2), 1098), ((9, 249), (0, 130, false, 1), 1102), ((9, 252), (1, 131, false, 3), 1106), ((9, 258), (0, 120, false, 3), 1063), ((9, 267), (0, 132, false, 1), 1110), ((9, 270), (0, 119, false, 1), 1059), ((10, 7), (0, 39, false, 1), 449), ((10, 15), (0, 85, false, 1), 750), ((10, 19), (0, 86, false, 2), 757), ((10, 23), (0, 88, false, 2), 769), ((10, 26), (0, 90, false, 2), 782), ((10, 32), (0, 91, false, 1), 806), ((10, 35), (0, 92, false, 2), 813), ((10, 39), (2, 0, false, 0), 102), ((10, 42), (2, 94, false, 0), 824), ((10, 43), (0, 9, false, 1), 322), ((10, 47), (0, 96, false, 1), 957), ((10, 53), (0, 97, false, 1), 961), ((10, 54), (0, 95, false, 0), 953), ((10, 60), (0, 113, false, 1), 1032), ((10, 64), (0, 114, false, 2), 1036), ((10, 67), (0, 11, false, 1), 330), ((10, 71), (0, 115, false, 1), 1041), ((10, 74), (0, 116, false, 2), 1045), ((10, 78), (0, 117, false, 2), 1050), ((10, 81), (0, 118, false, 1), 1055), ((10, 82), (0, 12, false, 0), 334), ((10, 85), (0, 133, false, 0), 1114), ((10, 88), (0, 134, false, 2), 1118), ((10, 89), (0, 37, false, 1), 436), ((10, 93), (0, 135, false, 1), 1123)]
def tb_cr (o x : Nat) : Option (Nat × Nat × Bool × Nat) := (tb_crL.find? (fun q => q.1.1 == o && q.1.2 == x)).map (fun q => q.2.1)
def tb_nrL : List ((Nat × Nat) × Nat × Nat) := [((8, 7), 5, 108), ((8, 16), 2, 125), ((8, 23), 0, 144), ((8, 32), 1, 241), ((0, 9), 4, 150), ((0, 18), 3, 179), ((0, 41), 6, 193), ((1, 30), 7, 248), ((7, 9), 4, 254), ((10, 8), 8, 100), ((10, 40), 9, 822)]
def tb_nr (o x : Nat) : Option Nat := (tb_nrL.find? (fun q => q.1.1 == o && q.1.2 == x)).map (fun q => q.2.1)
def tb_qrL : List ((Nat × Nat) × Nat) := [((8, 32), 241)]
def tb_qr (o x : Nat) : Option Nat := (tb_qrL.find? (fun q => q.1.1 == o && q.1.2 == x)).map (fun _ => 4)
def tb_clI : List (List Nat) := [[226, 228, 230, 232, 234, 236, 238], [291, 293, 295, 297, 299, 301, 303], [136, 138, 140], [188, 190], [165, 167, 169, 171, 173, 175], [119, 121], [207, 209, 211, 213, 215], [266, 268, 270, 272, 274, 276, 278], [311, 313, 315, 317, 319], [869, 871, 873, 875, 877, 879, 881, 883, 885, 887, 889, 891, 893, 895, 897, 899, 901, 903, 905, 907, 909, 911, 913, 915, 917, 919, 921, 923, 925, 927, 929, 931, 933, 935, 937, 939, 941, 943, 945, 947, 949]]
def tb_cnI : List (Nat × Nat) := [(145, 82), (243, 86), (126, 81), (180, 84), (151, 83), (109, 80), (194, 85), (249, 87), (101, 79), (823, 88)]
/-- a method's words: its code, its class is initialised, static or instance, selects -/
def tb_mI : List (Nat × Nat × Nat × Nat) := [(104, 79, 103, 0), (112, 80, 111, 0), (129, 81, 128, 0), (148, 82, 147, 0), (154, 83, 153, 0), (183, 84, 182, 0), (197, 85, 196, 0), (246, 86, 245, 0), (252, 87, 251, 0), (325, 79, 323, 324), (329, 80, 328, 0), (333, 79, 331, 332), (337, 79, 335, 336), (341, 86, 340, 1), (345, 87, 344, 2), (349, 87, 348, 3), (353, 83, 352, 4), (357, 83, 356, 5), (361, 83, 360, 6), (365, 81, 364, 7), (369, 87, 368, 8), (373, 83, 372, 9), (377, 87, 376, 10), (380, 87, 379, 0), (384, 87, 383, 11), (389, 81, 388, 12), (393, 81, 392, 13), (398, 81, 397, 14), (401, 87, 400, 0), (406, 87, 405, 15), (410, 83, 409, 16), (414, 87, 413, 17), (418, 87, 417, 18), (421, 79, 420, 0), (424, 87, 423, 0), (427, 87, 426, 0), (432, 87, 431, 19), (439, 79, 437, 438), (443, 79, 442, 20), (452, 79, 450, 451), (456, 79, 455, 21), (527, 82, 526, 23), (531, 82, 530, 24), (535, 85, 534, 25), (539, 83, 538, 26), (543, 84, 542, 27), (547, 85, 546, 28), (551, 85, 550, 29), (555, 80, 554, 30), (558, 85, 557, 0), (562, 85, 561, 31), (565, 85, 564, 0), (572, 85, 571, 0), (575, 85, 574, 0), (579, 85, 578, 32), (583, 85, 582, 33), (588, 85, 587, 34), (641, 85, 640, 35), (650, 85, 649, 36), (653, 85, 652, 0), (656, 85, 655, 0), (659, 85, 658, 0), (663, 82, 662, 37), (667, 82, 666, 38), (670, 82, 669, 0), (674, 82, 673, 39), (678, 84, 677, 40), (681, 79, 680, 0), (684, 82, 683, 0), (687, 82, 686, 0), (691, 82, 690, 41), (694, 79, 693, 0), (698, 82, 697, 42), (702, 84, 701, 43), (706, 83, 705, 44), (710, 84, 709, 45), (714, 82, 713, 46), (718, 82, 717, 47), (722, 82, 721, 48), (725, 82, 724, 0), (729, 82, 728, 49), (733, 80, 732, 50), (737, 86, 736, 51), (741, 87, 740, 52), (745, 83, 744, 53), (753, 79, 751, 752), (760, 79, 758, 759), (765, 81, 764, 54), (772, 79, 770, 771), (777, 81, 776, 55), (785, 79, 783, 784), (809, 79, 807, 808), (816, 79, 814, 815), (821, 86, 820, 56), (826, 88, 825, 0), (956, 88, 954, 955), (960, 88, 958, 959), (964, 88, 962, 963), (968, 88, 967, 0), (972, 88, 971, 57), (976, 88, 975, 58), (980, 88, 979, 59), (984, 88, 983, 60), (987, 88, 986, 0), (990, 88, 989, 0), (994, 88, 993, 61), (1001, 88, 1000, 62), (1007, 88, 1006, 63), (1016, 88, 1015, 0), (1019, 88, 1018, 0), (1023, 88, 1022, 64), (1027, 88, 1026, 65), (1031, 88, 1030, 66), (1035, 88, 1033, 1034), (1039, 88, 1037, 1038), (1044, 88, 1042, 1043), (1048, 88, 1046, 1047), (1053, 88, 1051, 1052), (1058, 88, 1056, 1057), (1062, 88, 1061, 67), (1066, 88, 1065, 68), (1070, 88, 1069, 69), (1074, 88, 1073, 70), (1078, 88, 1077, 71), (1081, 88, 1080, 0), (1085, 88, 1084, 72), (1089, 88, 1088, 73), (1093, 88, 1092, 74), (1096, 88, 1095, 0), (1101, 88, 1100, 75), (1105, 88, 1104, 76), (1108, 88, 1107, 0), (1113, 88, 1112, 77), (1117, 88, 1115, 1116), (1121, 88, 1119, 1120), (1126, 88, 1124, 1125)]
end
section
/-! The tables' entries stand in the Statement's words: checked by the kernel, place by place. -/
def tb_nm (o : Nat) : String := tb_on.getD o ""
def tb_frC (q : (Nat × Nat) × (Nat × Nat × Bool) × Nat) : Bool := match tb_cl[q.2.1.1]? with
  | some c => decide (q.2.1.2.1 < c.2.2) && decide (lw_tbl[q.2.2]? = some (if q.2.1.2.2 = true then Cond.fieldLinkNest (tb_nm q.1.1) q.1.2 (c.2.1 q.2.1.2.1).1 (c.2.1 q.2.1.2.1).2.1 (c.2.1 q.2.1.2.1).2.2.1 "ConditionDesk" else Cond.fieldLink (tb_nm q.1.1) q.1.2 (c.2.1 q.2.1.2.1).1 (c.2.1 q.2.1.2.1).2.1 (c.2.1 q.2.1.2.1).2.2.1))
  | none => false
theorem tb_frA : ∀ q ∈ tb_frL, tb_frC q = true := by decide +kernel
def tb_crC (q : (Nat × Nat) × (Nat × Nat × Bool × Nat) × Nat) : Bool := decide (q.2.1.2.1 < tb_nM) && (decide (lw_tbl[q.2.2]? = some (if q.2.1.2.2.1 = true then Cond.methodLinkNest (tb_nm q.1.1) q.1.2 (tb_my q.2.1.2.1) "ConditionDesk" else Cond.methodLink (tb_nm q.1.1) q.1.2 (tb_my q.2.1.2.1))) && (decide ((parseMethodDescriptor (tb_my q.2.1.2.1).desc).map (fun d => d.parameters.length) = some q.2.1.2.2.2) && (decide (q.2.1.1 = 2 ↔ (tb_my q.2.1.2.1).name = "<init>") && decide (q.2.1.1 ≤ 2))))
theorem tb_crA : ∀ q ∈ tb_crL, tb_crC q = true := by decide +kernel
def tb_nrC (q : (Nat × Nat) × Nat × Nat) : Bool := match tb_cl[q.2.1]?, tb_cnI[q.2.1]? with
  | some c, some n => decide (lw_tbl[q.2.2]? = some (Cond.classLink (tb_nm q.1.1) q.1.2 c.1)) && (decide (lw_tbl[n.1]? = some (Cond.instantiable c.1 c.2.2)) && decide (lw_tbl[n.2]? = some (Cond.initialized c.1)))
  | _, _ => false
theorem tb_nrA : ∀ q ∈ tb_nrL, tb_nrC q = true := by decide +kernel
def tb_clC (q : vw_C × List Nat) : Bool := decide (q.2.map (fun i => lw_tbl[i]?) = (u_ws q.1.1 q.1.2.1 q.1.2.2).map some)
theorem tb_clA : ∀ q ∈ tb_cl.zip tb_clI, tb_clC q = true := by decide +kernel
end
section
/-! The methods' words. -/
def tb_iI (k : Nat) : Nat × Nat × Nat × Nat := tb_mI.getD k (0, 0, 0, 0)
def tb_crD (q : (Nat × Nat) × (Nat × Nat × Bool × Nat) × Nat) : Bool := match q.2.1.1 with
  | 0 => decide (lw_tbl[(tb_iI q.2.1.2.1).2.2.1]? = some (Cond.instanceMethod (tb_my q.2.1.2.1))) && (decide (lw_tbl[(tb_iI q.2.1.2.1).2.2.2]? = some (Cond.selects (tb_my q.2.1.2.1).cls (tb_my q.2.1.2.1) (tb_my q.2.1.2.1))) && decide ((tb_cl[tb_oc q.2.1.2.1]?).map (fun c => c.1) = some (tb_my q.2.1.2.1).cls))
  | 1 => decide (lw_tbl[(tb_iI q.2.1.2.1).2.2.1]? = some (Cond.static (tb_my q.2.1.2.1)))
  | _ => decide (lw_tbl[(tb_iI q.2.1.2.1).2.2.1]? = some (Cond.instanceMethod (tb_my q.2.1.2.1))) && decide (tb_mr q.2.1.2.1 = none)
theorem tb_crB : ∀ q ∈ tb_crL, tb_crD q = true := by decide +kernel
def tb_mC (k : Nat) : Prop := lw_tbl[(tb_iI k).1]? = some (Cond.code (tb_my k) (tb_mb k) (tb_mL k) (tb_mr k))
def tb_mD (k : Nat) : Bool := decide (lw_tbl[(tb_iI k).2.1]? = some (Cond.initialized (tb_my k).cls)) && (decide ((tb_my k).cls = tb_nm (tb_oc k)) && (decide (tb_mL k ≤ 40) && (decide ((tb_my k).cls ≠ "java/lang/invoke/MethodHandle") && (decide ((tb_my k).cls ≠ "java/lang/invoke/VarHandle") && (plainName (tb_my k).cls && (match tb_ini k with
  | some ci => decide ((tb_my k).name = "<init>") && decide (ci < 10)
  | none => true))))))
theorem tb_mB : ∀ k ∈ List.range 136, tb_mD k = true := by decide +kernel
set_option maxRecDepth 200000 in
theorem tb_c0 : tb_mC 0 := rfl
set_option maxRecDepth 200000 in
theorem tb_c1 : tb_mC 1 := rfl
set_option maxRecDepth 200000 in
theorem tb_c2 : tb_mC 2 := rfl
set_option maxRecDepth 200000 in
theorem tb_c3 : tb_mC 3 := rfl
set_option maxRecDepth 200000 in
theorem tb_c4 : tb_mC 4 := rfl
set_option maxRecDepth 200000 in
theorem tb_c5 : tb_mC 5 := rfl
set_option maxRecDepth 200000 in
theorem tb_c6 : tb_mC 6 := rfl
set_option maxRecDepth 200000 in
theorem tb_c7 : tb_mC 7 := rfl
set_option maxRecDepth 200000 in
theorem tb_c8 : tb_mC 8 := rfl
set_option maxRecDepth 200000 in
theorem tb_c9 : tb_mC 9 := rfl
set_option maxRecDepth 200000 in
theorem tb_c10 : tb_mC 10 := rfl
set_option maxRecDepth 200000 in
theorem tb_c11 : tb_mC 11 := rfl
set_option maxRecDepth 200000 in
theorem tb_c12 : tb_mC 12 := rfl
set_option maxRecDepth 200000 in
theorem tb_c13 : tb_mC 13 := rfl
set_option maxRecDepth 200000 in
theorem tb_c14 : tb_mC 14 := rfl
set_option maxRecDepth 200000 in
theorem tb_c15 : tb_mC 15 := rfl
set_option maxRecDepth 200000 in
theorem tb_c16 : tb_mC 16 := rfl
set_option maxRecDepth 200000 in
theorem tb_c17 : tb_mC 17 := rfl
set_option maxRecDepth 200000 in
theorem tb_c18 : tb_mC 18 := rfl
set_option maxRecDepth 200000 in
theorem tb_c19 : tb_mC 19 := rfl
set_option maxRecDepth 200000 in
theorem tb_c20 : tb_mC 20 := rfl
set_option maxRecDepth 200000 in
theorem tb_c21 : tb_mC 21 := rfl
set_option maxRecDepth 200000 in
theorem tb_c22 : tb_mC 22 := rfl
set_option maxRecDepth 200000 in
theorem tb_c23 : tb_mC 23 := rfl
set_option maxRecDepth 200000 in
theorem tb_c24 : tb_mC 24 := rfl
set_option maxRecDepth 200000 in
theorem tb_c25 : tb_mC 25 := rfl
set_option maxRecDepth 200000 in
theorem tb_c26 : tb_mC 26 := rfl
set_option maxRecDepth 200000 in
theorem tb_c27 : tb_mC 27 := rfl
set_option maxRecDepth 200000 in
theorem tb_c28 : tb_mC 28 := rfl
set_option maxRecDepth 200000 in
theorem tb_c29 : tb_mC 29 := rfl
set_option maxRecDepth 200000 in
theorem tb_c30 : tb_mC 30 := rfl
set_option maxRecDepth 200000 in
theorem tb_c31 : tb_mC 31 := rfl
set_option maxRecDepth 200000 in
theorem tb_c32 : tb_mC 32 := rfl
set_option maxRecDepth 200000 in
theorem tb_c33 : tb_mC 33 := rfl
set_option maxRecDepth 200000 in
theorem tb_c34 : tb_mC 34 := rfl
set_option maxRecDepth 200000 in
theorem tb_c35 : tb_mC 35 := rfl
set_option maxRecDepth 200000 in
theorem tb_c36 : tb_mC 36 := rfl
set_option maxRecDepth 200000 in
theorem tb_c37 : tb_mC 37 := rfl
set_option maxRecDepth 200000 in
theorem tb_c38 : tb_mC 38 := rfl
set_option maxRecDepth 200000 in
theorem tb_c39 : tb_mC 39 := rfl
set_option maxRecDepth 200000 in
theorem tb_c40 : tb_mC 40 := rfl
set_option maxRecDepth 200000 in
theorem tb_c41 : tb_mC 41 := rfl
set_option maxRecDepth 200000 in
theorem tb_c42 : tb_mC 42 := rfl
set_option maxRecDepth 200000 in
theorem tb_c43 : tb_mC 43 := rfl
set_option maxRecDepth 200000 in
theorem tb_c44 : tb_mC 44 := rfl
set_option maxRecDepth 200000 in
theorem tb_c45 : tb_mC 45 := rfl
set_option maxRecDepth 200000 in
theorem tb_c46 : tb_mC 46 := rfl
set_option maxRecDepth 200000 in
theorem tb_c47 : tb_mC 47 := rfl
set_option maxRecDepth 200000 in
theorem tb_c48 : tb_mC 48 := rfl
set_option maxRecDepth 200000 in
theorem tb_c49 : tb_mC 49 := rfl
set_option maxRecDepth 200000 in
theorem tb_c50 : tb_mC 50 := rfl
set_option maxRecDepth 200000 in
theorem tb_c51 : tb_mC 51 := rfl
set_option maxRecDepth 200000 in
theorem tb_c52 : tb_mC 52 := rfl
set_option maxRecDepth 200000 in
theorem tb_c53 : tb_mC 53 := rfl
set_option maxRecDepth 200000 in
theorem tb_c54 : tb_mC 54 := rfl
set_option maxRecDepth 200000 in
theorem tb_c55 : tb_mC 55 := rfl
set_option maxRecDepth 200000 in
theorem tb_c56 : tb_mC 56 := rfl
set_option maxRecDepth 200000 in
theorem tb_c57 : tb_mC 57 := rfl
set_option maxRecDepth 200000 in
theorem tb_c58 : tb_mC 58 := rfl
set_option maxRecDepth 200000 in
theorem tb_c59 : tb_mC 59 := rfl
set_option maxRecDepth 200000 in
theorem tb_c60 : tb_mC 60 := rfl
set_option maxRecDepth 200000 in
theorem tb_c61 : tb_mC 61 := rfl
set_option maxRecDepth 200000 in
theorem tb_c62 : tb_mC 62 := rfl
set_option maxRecDepth 200000 in
theorem tb_c63 : tb_mC 63 := rfl
set_option maxRecDepth 200000 in
theorem tb_c64 : tb_mC 64 := rfl
set_option maxRecDepth 200000 in
theorem tb_c65 : tb_mC 65 := rfl
set_option maxRecDepth 200000 in
theorem tb_c66 : tb_mC 66 := rfl
set_option maxRecDepth 200000 in
theorem tb_c67 : tb_mC 67 := rfl
set_option maxRecDepth 200000 in
theorem tb_c68 : tb_mC 68 := rfl
set_option maxRecDepth 200000 in
theorem tb_c69 : tb_mC 69 := rfl
set_option maxRecDepth 200000 in
theorem tb_c70 : tb_mC 70 := rfl
set_option maxRecDepth 200000 in
theorem tb_c71 : tb_mC 71 := rfl
set_option maxRecDepth 200000 in
theorem tb_c72 : tb_mC 72 := rfl
set_option maxRecDepth 200000 in
theorem tb_c73 : tb_mC 73 := rfl
set_option maxRecDepth 200000 in
theorem tb_c74 : tb_mC 74 := rfl
set_option maxRecDepth 200000 in
theorem tb_c75 : tb_mC 75 := rfl
set_option maxRecDepth 200000 in
theorem tb_c76 : tb_mC 76 := rfl
set_option maxRecDepth 200000 in
theorem tb_c77 : tb_mC 77 := rfl
set_option maxRecDepth 200000 in
theorem tb_c78 : tb_mC 78 := rfl
set_option maxRecDepth 200000 in
theorem tb_c79 : tb_mC 79 := rfl
set_option maxRecDepth 200000 in
theorem tb_c80 : tb_mC 80 := rfl
set_option maxRecDepth 200000 in
theorem tb_c81 : tb_mC 81 := rfl
set_option maxRecDepth 200000 in
theorem tb_c82 : tb_mC 82 := rfl
set_option maxRecDepth 200000 in
theorem tb_c83 : tb_mC 83 := rfl
set_option maxRecDepth 200000 in
theorem tb_c84 : tb_mC 84 := rfl
set_option maxRecDepth 200000 in
theorem tb_c85 : tb_mC 85 := rfl
set_option maxRecDepth 200000 in
theorem tb_c86 : tb_mC 86 := rfl
set_option maxRecDepth 200000 in
theorem tb_c87 : tb_mC 87 := rfl
set_option maxRecDepth 200000 in
theorem tb_c88 : tb_mC 88 := rfl
set_option maxRecDepth 200000 in
theorem tb_c89 : tb_mC 89 := rfl
set_option maxRecDepth 200000 in
theorem tb_c90 : tb_mC 90 := rfl
set_option maxRecDepth 200000 in
theorem tb_c91 : tb_mC 91 := rfl
set_option maxRecDepth 200000 in
theorem tb_c92 : tb_mC 92 := rfl
set_option maxRecDepth 200000 in
theorem tb_c93 : tb_mC 93 := rfl
set_option maxRecDepth 200000 in
theorem tb_c94 : tb_mC 94 := rfl
set_option maxRecDepth 200000 in
theorem tb_c95 : tb_mC 95 := rfl
set_option maxRecDepth 200000 in
theorem tb_c96 : tb_mC 96 := rfl
set_option maxRecDepth 200000 in
theorem tb_c97 : tb_mC 97 := rfl
set_option maxRecDepth 200000 in
theorem tb_c98 : tb_mC 98 := rfl
set_option maxRecDepth 200000 in
theorem tb_c99 : tb_mC 99 := rfl
set_option maxRecDepth 200000 in
theorem tb_c100 : tb_mC 100 := rfl
set_option maxRecDepth 200000 in
theorem tb_c101 : tb_mC 101 := rfl
set_option maxRecDepth 200000 in
theorem tb_c102 : tb_mC 102 := rfl
set_option maxRecDepth 200000 in
theorem tb_c103 : tb_mC 103 := rfl
set_option maxRecDepth 200000 in
theorem tb_c104 : tb_mC 104 := rfl
set_option maxRecDepth 200000 in
theorem tb_c105 : tb_mC 105 := rfl
set_option maxRecDepth 200000 in
theorem tb_c106 : tb_mC 106 := rfl
set_option maxRecDepth 200000 in
theorem tb_c107 : tb_mC 107 := rfl
set_option maxRecDepth 200000 in
theorem tb_c108 : tb_mC 108 := rfl
set_option maxRecDepth 200000 in
theorem tb_c109 : tb_mC 109 := rfl
set_option maxRecDepth 200000 in
theorem tb_c110 : tb_mC 110 := rfl
set_option maxRecDepth 200000 in
theorem tb_c111 : tb_mC 111 := rfl
set_option maxRecDepth 200000 in
theorem tb_c112 : tb_mC 112 := rfl
set_option maxRecDepth 200000 in
theorem tb_c113 : tb_mC 113 := rfl
set_option maxRecDepth 200000 in
theorem tb_c114 : tb_mC 114 := rfl
set_option maxRecDepth 200000 in
theorem tb_c115 : tb_mC 115 := rfl
set_option maxRecDepth 200000 in
theorem tb_c116 : tb_mC 116 := rfl
set_option maxRecDepth 200000 in
theorem tb_c117 : tb_mC 117 := rfl
set_option maxRecDepth 200000 in
theorem tb_c118 : tb_mC 118 := rfl
set_option maxRecDepth 200000 in
theorem tb_c119 : tb_mC 119 := rfl
set_option maxRecDepth 200000 in
theorem tb_c120 : tb_mC 120 := rfl
set_option maxRecDepth 200000 in
theorem tb_c121 : tb_mC 121 := rfl
set_option maxRecDepth 200000 in
theorem tb_c122 : tb_mC 122 := rfl
set_option maxRecDepth 200000 in
theorem tb_c123 : tb_mC 123 := rfl
set_option maxRecDepth 200000 in
theorem tb_c124 : tb_mC 124 := rfl
set_option maxRecDepth 200000 in
theorem tb_c125 : tb_mC 125 := rfl
set_option maxRecDepth 200000 in
theorem tb_c126 : tb_mC 126 := rfl
set_option maxRecDepth 200000 in
theorem tb_c127 : tb_mC 127 := rfl
set_option maxRecDepth 200000 in
theorem tb_c128 : tb_mC 128 := rfl
set_option maxRecDepth 200000 in
theorem tb_c129 : tb_mC 129 := rfl
set_option maxRecDepth 200000 in
theorem tb_c130 : tb_mC 130 := rfl
set_option maxRecDepth 200000 in
theorem tb_c131 : tb_mC 131 := rfl
set_option maxRecDepth 200000 in
theorem tb_c132 : tb_mC 132 := rfl
set_option maxRecDepth 200000 in
theorem tb_c133 : tb_mC 133 := rfl
set_option maxRecDepth 200000 in
theorem tb_c134 : tb_mC 134 := rfl
set_option maxRecDepth 200000 in
theorem tb_c135 : tb_mC 135 := rfl
def tb_K0 : List Nat := [0, 1, 2, 3, 4, 5, 6, 7, 8, 9, 10, 11, 12, 13, 14, 15, 16]
theorem tb_r0 : ∀ k ∈ tb_K0, tb_mC k := List.forall_mem_cons.mpr ⟨tb_c0, List.forall_mem_cons.mpr ⟨tb_c1, List.forall_mem_cons.mpr ⟨tb_c2, List.forall_mem_cons.mpr ⟨tb_c3, List.forall_mem_cons.mpr ⟨tb_c4, List.forall_mem_cons.mpr ⟨tb_c5, List.forall_mem_cons.mpr ⟨tb_c6, List.forall_mem_cons.mpr ⟨tb_c7, List.forall_mem_cons.mpr ⟨tb_c8, List.forall_mem_cons.mpr ⟨tb_c9, List.forall_mem_cons.mpr ⟨tb_c10, List.forall_mem_cons.mpr ⟨tb_c11, List.forall_mem_cons.mpr ⟨tb_c12, List.forall_mem_cons.mpr ⟨tb_c13, List.forall_mem_cons.mpr ⟨tb_c14, List.forall_mem_cons.mpr ⟨tb_c15, List.forall_mem_cons.mpr ⟨tb_c16, fun _ h => absurd h List.not_mem_nil⟩⟩⟩⟩⟩⟩⟩⟩⟩⟩⟩⟩⟩⟩⟩⟩⟩
def tb_K1 : List Nat := [17, 18, 19, 20, 21, 22, 23, 24, 25, 26, 27, 28, 29, 30, 31, 32, 33]
theorem tb_r1 : ∀ k ∈ tb_K1, tb_mC k := List.forall_mem_cons.mpr ⟨tb_c17, List.forall_mem_cons.mpr ⟨tb_c18, List.forall_mem_cons.mpr ⟨tb_c19, List.forall_mem_cons.mpr ⟨tb_c20, List.forall_mem_cons.mpr ⟨tb_c21, List.forall_mem_cons.mpr ⟨tb_c22, List.forall_mem_cons.mpr ⟨tb_c23, List.forall_mem_cons.mpr ⟨tb_c24, List.forall_mem_cons.mpr ⟨tb_c25, List.forall_mem_cons.mpr ⟨tb_c26, List.forall_mem_cons.mpr ⟨tb_c27, List.forall_mem_cons.mpr ⟨tb_c28, List.forall_mem_cons.mpr ⟨tb_c29, List.forall_mem_cons.mpr ⟨tb_c30, List.forall_mem_cons.mpr ⟨tb_c31, List.forall_mem_cons.mpr ⟨tb_c32, List.forall_mem_cons.mpr ⟨tb_c33, fun _ h => absurd h List.not_mem_nil⟩⟩⟩⟩⟩⟩⟩⟩⟩⟩⟩⟩⟩⟩⟩⟩⟩
def tb_K2 : List Nat := [34, 35, 36, 37, 38, 39, 40, 41, 42, 43, 44, 45, 46, 47, 48, 49, 50]
theorem tb_r2 : ∀ k ∈ tb_K2, tb_mC k := List.forall_mem_cons.mpr ⟨tb_c34, List.forall_mem_cons.mpr ⟨tb_c35, List.forall_mem_cons.mpr ⟨tb_c36, List.forall_mem_cons.mpr ⟨tb_c37, List.forall_mem_cons.mpr ⟨tb_c38, List.forall_mem_cons.mpr ⟨tb_c39, List.forall_mem_cons.mpr ⟨tb_c40, List.forall_mem_cons.mpr ⟨tb_c41, List.forall_mem_cons.mpr ⟨tb_c42, List.forall_mem_cons.mpr ⟨tb_c43, List.forall_mem_cons.mpr ⟨tb_c44, List.forall_mem_cons.mpr ⟨tb_c45, List.forall_mem_cons.mpr ⟨tb_c46, List.forall_mem_cons.mpr ⟨tb_c47, List.forall_mem_cons.mpr ⟨tb_c48, List.forall_mem_cons.mpr ⟨tb_c49, List.forall_mem_cons.mpr ⟨tb_c50, fun _ h => absurd h List.not_mem_nil⟩⟩⟩⟩⟩⟩⟩⟩⟩⟩⟩⟩⟩⟩⟩⟩⟩
def tb_K3 : List Nat := [51, 52, 53, 54, 55, 56, 57, 58, 59, 60, 61, 62, 63, 64, 65, 66, 67]
theorem tb_r3 : ∀ k ∈ tb_K3, tb_mC k := List.forall_mem_cons.mpr ⟨tb_c51, List.forall_mem_cons.mpr ⟨tb_c52, List.forall_mem_cons.mpr ⟨tb_c53, List.forall_mem_cons.mpr ⟨tb_c54, List.forall_mem_cons.mpr ⟨tb_c55, List.forall_mem_cons.mpr ⟨tb_c56, List.forall_mem_cons.mpr ⟨tb_c57, List.forall_mem_cons.mpr ⟨tb_c58, List.forall_mem_cons.mpr ⟨tb_c59, List.forall_mem_cons.mpr ⟨tb_c60, List.forall_mem_cons.mpr ⟨tb_c61, List.forall_mem_cons.mpr ⟨tb_c62, List.forall_mem_cons.mpr ⟨tb_c63, List.forall_mem_cons.mpr ⟨tb_c64, List.forall_mem_cons.mpr ⟨tb_c65, List.forall_mem_cons.mpr ⟨tb_c66, List.forall_mem_cons.mpr ⟨tb_c67, fun _ h => absurd h List.not_mem_nil⟩⟩⟩⟩⟩⟩⟩⟩⟩⟩⟩⟩⟩⟩⟩⟩⟩
def tb_K4 : List Nat := [68, 69, 70, 71, 72, 73, 74, 75, 76, 77, 78, 79, 80, 81, 82, 83, 84]
theorem tb_r4 : ∀ k ∈ tb_K4, tb_mC k := List.forall_mem_cons.mpr ⟨tb_c68, List.forall_mem_cons.mpr ⟨tb_c69, List.forall_mem_cons.mpr ⟨tb_c70, List.forall_mem_cons.mpr ⟨tb_c71, List.forall_mem_cons.mpr ⟨tb_c72, List.forall_mem_cons.mpr ⟨tb_c73, List.forall_mem_cons.mpr ⟨tb_c74, List.forall_mem_cons.mpr ⟨tb_c75, List.forall_mem_cons.mpr ⟨tb_c76, List.forall_mem_cons.mpr ⟨tb_c77, List.forall_mem_cons.mpr ⟨tb_c78, List.forall_mem_cons.mpr ⟨tb_c79, List.forall_mem_cons.mpr ⟨tb_c80, List.forall_mem_cons.mpr ⟨tb_c81, List.forall_mem_cons.mpr ⟨tb_c82, List.forall_mem_cons.mpr ⟨tb_c83, List.forall_mem_cons.mpr ⟨tb_c84, fun _ h => absurd h List.not_mem_nil⟩⟩⟩⟩⟩⟩⟩⟩⟩⟩⟩⟩⟩⟩⟩⟩⟩
def tb_K5 : List Nat := [85, 86, 87, 88, 89, 90, 91, 92, 93, 94, 95, 96, 97, 98, 99, 100, 101]
theorem tb_r5 : ∀ k ∈ tb_K5, tb_mC k := List.forall_mem_cons.mpr ⟨tb_c85, List.forall_mem_cons.mpr ⟨tb_c86, List.forall_mem_cons.mpr ⟨tb_c87, List.forall_mem_cons.mpr ⟨tb_c88, List.forall_mem_cons.mpr ⟨tb_c89, List.forall_mem_cons.mpr ⟨tb_c90, List.forall_mem_cons.mpr ⟨tb_c91, List.forall_mem_cons.mpr ⟨tb_c92, List.forall_mem_cons.mpr ⟨tb_c93, List.forall_mem_cons.mpr ⟨tb_c94, List.forall_mem_cons.mpr ⟨tb_c95, List.forall_mem_cons.mpr ⟨tb_c96, List.forall_mem_cons.mpr ⟨tb_c97, List.forall_mem_cons.mpr ⟨tb_c98, List.forall_mem_cons.mpr ⟨tb_c99, List.forall_mem_cons.mpr ⟨tb_c100, List.forall_mem_cons.mpr ⟨tb_c101, fun _ h => absurd h List.not_mem_nil⟩⟩⟩⟩⟩⟩⟩⟩⟩⟩⟩⟩⟩⟩⟩⟩⟩
def tb_K6 : List Nat := [102, 103, 104, 105, 106, 107, 108, 109, 110, 111, 112, 113, 114, 115, 116, 117, 118]
theorem tb_r6 : ∀ k ∈ tb_K6, tb_mC k := List.forall_mem_cons.mpr ⟨tb_c102, List.forall_mem_cons.mpr ⟨tb_c103, List.forall_mem_cons.mpr ⟨tb_c104, List.forall_mem_cons.mpr ⟨tb_c105, List.forall_mem_cons.mpr ⟨tb_c106, List.forall_mem_cons.mpr ⟨tb_c107, List.forall_mem_cons.mpr ⟨tb_c108, List.forall_mem_cons.mpr ⟨tb_c109, List.forall_mem_cons.mpr ⟨tb_c110, List.forall_mem_cons.mpr ⟨tb_c111, List.forall_mem_cons.mpr ⟨tb_c112, List.forall_mem_cons.mpr ⟨tb_c113, List.forall_mem_cons.mpr ⟨tb_c114, List.forall_mem_cons.mpr ⟨tb_c115, List.forall_mem_cons.mpr ⟨tb_c116, List.forall_mem_cons.mpr ⟨tb_c117, List.forall_mem_cons.mpr ⟨tb_c118, fun _ h => absurd h List.not_mem_nil⟩⟩⟩⟩⟩⟩⟩⟩⟩⟩⟩⟩⟩⟩⟩⟩⟩
def tb_K7 : List Nat := [119, 120, 121, 122, 123, 124, 125, 126, 127, 128, 129, 130, 131, 132, 133, 134, 135]
theorem tb_r7 : ∀ k ∈ tb_K7, tb_mC k := List.forall_mem_cons.mpr ⟨tb_c119, List.forall_mem_cons.mpr ⟨tb_c120, List.forall_mem_cons.mpr ⟨tb_c121, List.forall_mem_cons.mpr ⟨tb_c122, List.forall_mem_cons.mpr ⟨tb_c123, List.forall_mem_cons.mpr ⟨tb_c124, List.forall_mem_cons.mpr ⟨tb_c125, List.forall_mem_cons.mpr ⟨tb_c126, List.forall_mem_cons.mpr ⟨tb_c127, List.forall_mem_cons.mpr ⟨tb_c128, List.forall_mem_cons.mpr ⟨tb_c129, List.forall_mem_cons.mpr ⟨tb_c130, List.forall_mem_cons.mpr ⟨tb_c131, List.forall_mem_cons.mpr ⟨tb_c132, List.forall_mem_cons.mpr ⟨tb_c133, List.forall_mem_cons.mpr ⟨tb_c134, List.forall_mem_cons.mpr ⟨tb_c135, fun _ h => absurd h List.not_mem_nil⟩⟩⟩⟩⟩⟩⟩⟩⟩⟩⟩⟩⟩⟩⟩⟩⟩
theorem tb_Kin : ∀ k ∈ List.range 136, k ∈ tb_K0 ∨ k ∈ tb_K1 ∨ k ∈ tb_K2 ∨ k ∈ tb_K3 ∨ k ∈ tb_K4 ∨ k ∈ tb_K5 ∨ k ∈ tb_K6 ∨ k ∈ tb_K7 := by decide +kernel
theorem tb_mA : ∀ k, k < 136 → tb_mC k := by
  intro k hk
  rcases tb_Kin k (List.mem_range.mpr hk) with h | h | h | h | h | h | h | h
  · exact tb_r0 k h
  · exact tb_r1 k h
  · exact tb_r2 k h
  · exact tb_r3 k h
  · exact tb_r4 k h
  · exact tb_r5 k h
  · exact tb_r6 k h
  · exact tb_r7 k h
end
section
/-! What the abstract machine asks of the tables, it has. -/
def tb_gd : List Cond := lw_tbl.filter goodWord
theorem tb_gd_in {i : Nat} {w : Cond} (h : lw_tbl[i]? = some w) (hg : goodWord w = true) : w ∈ tb_gd := List.mem_filter.mpr ⟨List.mem_of_getElem? h, hg⟩
theorem tb_good : ∀ w ∈ tb_gd, goodWord w = true := fun _ h => (List.mem_filter.mp h).2
def tb_isN : Cond → Bool
  | .fieldLinkNest _ _ _ _ _ _ => true
  | .methodLinkNest _ _ _ _ => true
  | .declares _ => true
  | _ => false
/-- what holds all along: the links of nest mates, the array of conditions; Z: the rest -/
def tb_G (Z : State → Prop) (U : State) : Prop := (∀ w ∈ lw_tbl, tb_isN w = true → va_Nw w U) ∧ va_AO "ConditionDesk$Condition" U ∧ Z U
theorem tb_G1 {Z : State → Prop} (hZ : ∀ (U : State) (g : JFrame) (mk : MethodId) (a : Array Value), Z U → Z (U.calling g mk a)) : ∀ (U : State) (g : JFrame) (mk : MethodId) (a : Array Value), tb_G Z U → tb_G Z (U.calling g mk a) := by
  intro U g mk a h
  refine ⟨fun w hw hn => ?_, va_AO.moved (u := U) (U := U.calling g mk a) (Vm.Alike.refl U.vm) h.2.1, hZ U g mk a h.2.2⟩
  cases w <;> first | exact va_Nw.same rfl (u := U) (U := U.calling g mk a) rfl (h.1 _ hw hn) | cases hn
theorem tb_G2 {N0 : Nat} {Z : State → Prop} (hZ : ∀ (s U : State) (H1 : Heap) (locs1 : List Loc), Z s → va_S (fun q => N0 ≤ q) s.heap H1 locs1 → U.heap = H1 → s.WarmedH U.vm → Z U) : ∀ (s U : State) (H1 : Heap) (locs1 : List Loc), tb_G Z s → va_S (fun q => N0 ≤ q) s.heap H1 locs1 → U.heap = H1 → s.WarmedH U.vm → tb_G Z U := by
  intro s U H1 locs1 h hS hU hW
  refine ⟨fun w hw hn => ?_, va_AO.moved hW.alike h.2.1, hZ s U H1 locs1 h.2.2 hS hU hW⟩
  cases w <;> first | exact va_Nw.warmF hW (h.1 _ hw hn) | exact va_Nw.warmM hW (h.1 _ hw hn) | exact va_Nw.warmD hW (h.1 _ hw hn) | cases hn
theorem tb_find {α β : Type} {l : List α} {P : α → Bool} {f : α → β} {v : β} (h : (l.find? P).map f = some v) : ∃ q, q ∈ l ∧ P q = true ∧ f q = v := by
  cases hf : l.find? P with
  | none => rw [hf] at h; cases h
  | some q => rw [hf] at h; exact ⟨q, List.mem_of_find?_eq_some hf, List.find?_some hf, Option.some.inj h⟩
theorem tb_key {a b o x : Nat} (h : (a == o && b == x) = true) : a = o ∧ b = x := by
  simpa using h
theorem tb_zip {α β : Type} : ∀ (l : List α) (l' : List β) (i : Nat) (a : α), l.length = l'.length → l[i]? = some a → ∃ b, (a, b) ∈ l.zip l'
  | [], _, i, a, _, h => by simp at h
  | x :: l, [], i, a, hl, h => by simp at hl
  | x :: l, y :: l', 0, a, _, h => by
    simp at h
    exact ⟨y, by rw [h]; exact List.mem_cons_self⟩
  | x :: l, y :: l', i + 1, a, hl, h => by
    obtain ⟨b, hb⟩ := tb_zip l l' i a (by simpa using hl) (by simpa using h)
    exact ⟨b, List.mem_cons_of_mem _ hb⟩
theorem tb_lay_good {C : String} {T : u_T} {k : Nat} : goodWord (u_lay C T k) = true := by
  unfold u_lay
  split <;> rfl
theorem tb_cl_ws {ci : Nat} {C : String} {T : u_T} {N : Nat} (h : tb_cl[ci]? = some (C, T, N)) : ∀ w ∈ u_ws C T N, w ∈ tb_gd := by
  obtain ⟨is, hi⟩ := tb_zip tb_cl tb_clI ci _ rfl h
  have hc := tb_clA _ hi
  simp only [tb_clC, decide_eq_true_eq] at hc
  intro w hw
  have hm : some w ∈ (u_ws C T N).map some := List.mem_map.mpr ⟨w, hw, rfl⟩
  rw [← hc] at hm
  obtain ⟨i, -, hi2⟩ := List.mem_map.mp hm
  refine tb_gd_in hi2 ?_
  obtain ⟨k, -, rfl⟩ := List.mem_map.mp hw
  exact tb_lay_good
theorem tb_own {k : Nat} (hk : tb_mok k = true) : k < 136 ∧ lw_tbl[(tb_iI k).2.1]? = some (Cond.initialized (tb_my k).cls) ∧ (tb_my k).cls = tb_nm (tb_oc k) ∧ tb_mL k ≤ 40 ∧ (tb_my k).cls ≠ "java/lang/invoke/MethodHandle" ∧ (tb_my k).cls ≠ "java/lang/invoke/VarHandle" ∧ plainName (tb_my k).cls = true ∧ ∀ ci, tb_ini k = some ci → (tb_my k).name = "<init>" := by
  have hk : k < 136 := of_decide_eq_true hk
  have h := tb_mB k (List.mem_range.mpr hk)
  simp only [tb_mD, Bool.and_eq_true, decide_eq_true_eq] at h
  obtain ⟨h1, h2, h3, h4, h5, h6, h7⟩ := h
  refine ⟨hk, h1, h2, h3, h4, h5, h6, fun ci hci => ?_⟩
  rw [hci] at h7
  simp only [Bool.and_eq_true, decide_eq_true_eq] at h7
  exact h7.1
set_option maxHeartbeats 4000000 in
theorem tb_SF (Z : State → Prop) : xm_SF tb_cl tb_tt tb_fr tb_nr tb_qr tb_ta tb_oc tb_cr tb_mb tb_mL tb_mr tb_gd (tb_G Z) tb_my tb_mok := by
  intro k args s hk hts hG
  obtain ⟨hk6, hini0, hcls, -, -, -, -, -⟩ := tb_own hk
  have hgd : ∀ w ∈ tb_gd, w.before args s = true := fun w hw => hts w (List.mem_cons_of_mem _ hw)
  have hat : ∀ {i : Nat} {w : Cond}, lw_tbl[i]? = some w → goodWord w = true → w.before args s = true := fun h hg => hgd _ (tb_gd_in h hg)
  refine ⟨?_, ?_, ?_, ?_, ?_⟩
  · intro x ci kk b h
    obtain ⟨⟨⟨o, x'⟩, v, i⟩, hm, hp, rfl⟩ := tb_find h
    obtain ⟨rfl, rfl⟩ := tb_key hp
    have hc := tb_frA _ hm
    simp only [tb_frC] at hc
    split at hc
    · rename_i c hcl
      obtain ⟨C, T, N⟩ := c
      simp only [Bool.and_eq_true, decide_eq_true_eq] at hc
      obtain ⟨h1, h2⟩ := hc
      refine ⟨C, T, N, hcl, h1, fun w hw => List.mem_cons_of_mem _ (tb_cl_ws hcl w hw), fun hb => ?_, fun hb => ?_⟩
      · subst hb
        rw [hcls]
        exact hat h2 rfl
      · subst hb
        rw [hcls]
        exact ⟨_, va_Nw.use rfl (hG.1 _ (List.mem_of_getElem? h2) rfl)⟩
    · cases hc
  · intro x ci h C T N hcl
    obtain ⟨⟨⟨o, x'⟩, v, i⟩, hm, hp, rfl⟩ := tb_find h
    obtain ⟨rfl, rfl⟩ := tb_key hp
    have hc := tb_nrA _ hm
    simp only [tb_nrC] at hc
    split at hc
    · rename_i c n hcl2 hn
      have e9 := Option.some.inj (hcl2.symm.trans hcl)
      subst e9
      simp only [Bool.and_eq_true, decide_eq_true_eq] at hc
      obtain ⟨h1, h2, h3⟩ := hc
      refine ⟨fun w hw => List.mem_cons_of_mem _ (tb_cl_ws hcl w hw), ?_, hat h2 rfl, hat h3 rfl⟩
      rw [hcls]
      exact hat h1 rfl
    · cases hc
  · intro x t h
    obtain ⟨⟨⟨o, x'⟩, i⟩, hm, hp, rfl⟩ := tb_find h
    obtain ⟨rfl, rfl⟩ := tb_key hp
    have hc : ∀ q ∈ tb_qrL, lw_tbl[q.2]? = some (Cond.classLink (tb_nm q.1.1) q.1.2 "ConditionDesk$Condition") := by decide +kernel
    refine ⟨"ConditionDesk$Condition", rfl, ?_, hG.2.1⟩
    rw [hcls]
    exact hat (hc _ hm) rfl
  · intro a t h
    have h0 : Cond.arrayClass .int ∈ lw_tbl ∧ Cond.arrayClass .long ∈ lw_tbl ∧ Cond.arrayClass .char ∈ lw_tbl ∧ Cond.arrayClass .boolean ∈ lw_tbl := by decide +kernel
    have hmem : ∀ {w : Cond}, w ∈ lw_tbl → goodWord w = true → w.before args s = true := fun h1 h2 => hgd _ (List.mem_filter.mpr ⟨h1, h2⟩)
    cases a <;> first | exact hmem h0.1 rfl | exact hmem h0.2.1 rfl | exact hmem h0.2.2.1 rfl | exact hmem h0.2.2.2 rfl | cases h
  · intro x kd k' b na h
    obtain ⟨⟨⟨o, x'⟩, v, i⟩, hm, hp, hv⟩ := tb_find h
    obtain ⟨rfl, rfl⟩ := tb_key hp
    dsimp only at hv
    subst hv
    have hc := tb_crA _ hm
    have hd := tb_crB _ hm
    simp only [tb_crC, Bool.and_eq_true, decide_eq_true_eq] at hc
    obtain ⟨hk1, h2, h3, h4, h5⟩ := hc
    have hk1 : k' < 136 := hk1
    obtain ⟨-, hin, -, hL, hm1, hm2, -, -⟩ := tb_own (k := k') (decide_eq_true hk1)
    refine ⟨tb_gd_in (tb_mA k' hk1) rfl, hL, ⟨hm1, hm2⟩, h3, hat hin rfl, fun hb => ?_, fun hb => ?_, fun hkd => ?_, fun hkd => ?_, fun hkd => ?_⟩
    · subst hb
      rw [hcls]
      exact hat h2 rfl
    · subst hb
      rw [hcls]
      exact ⟨_, va_Nw.use rfl (hG.1 _ (List.mem_of_getElem? h2) rfl)⟩
    · subst hkd
      simp only [tb_crD, Bool.and_eq_true, decide_eq_true_eq] at hd
      obtain ⟨d1, d2, d3⟩ := hd
      refine ⟨hat d1 rfl, hat d2 rfl, ?_⟩
      cases hq : tb_cl[tb_oc k']? with
      | none => rw [hq] at d3; cases d3
      | some q => rw [hq] at d3; exact ⟨q, rfl, Option.some.inj d3⟩
    · subst hkd
      simp only [tb_crD, decide_eq_true_eq] at hd
      exact hat hd rfl
    · subst hkd
      simp only [tb_crD, Bool.and_eq_true, decide_eq_true_eq] at hd
      exact ⟨h4.mp rfl, hat hd.1 rfl, hd.2⟩
end
section
/-! Intrinsic steps: constants, Object's constructor, Math.min, System.arraycopy. -/
def tb_CLc (ci : Nat) : Bool := match tb_cl[ci]? with
  | some c => (List.range c.2.2).all (fun k => decide (parseFieldDescriptor (c.2.1 k).2.2.1 = some (tb_ft ci k))) && (List.range c.2.2).all (fun a => (List.range c.2.2).all (fun b => decide (a ≠ b → (c.2.1 a).2.1 ≠ (c.2.1 b).2.1)))
  | none => true
theorem tb_CLa : ∀ ci ∈ List.range 10, tb_CLc ci = true := by decide +kernel
theorem tb_CL : xm_CL tb_cl tb_ft := by
  intro ci C T N h
  have hl : ci < 10 := (List.getElem?_eq_some_iff.mp h).1
  have hc := tb_CLa ci (List.mem_range.mpr hl)
  simp only [tb_CLc, h, Bool.and_eq_true] at hc
  refine ⟨fun k hk => ?_, fun a ha b hb => ?_⟩
  · exact of_decide_eq_true (List.all_eq_true.mp hc.1 k (List.mem_range.mpr hk))
  · exact of_decide_eq_true (List.all_eq_true.mp (List.all_eq_true.mp hc.2 a (List.mem_range.mpr ha)) b (List.mem_range.mpr hb))
end
section
/-! String constants: what length() and charAt answer of them. Printed by wip/whole/gen_strings.py. -/
def st_n : Nat := 13
def st_len : List Nat := [17, 16, 12, 27, 26, 29, 2, 3, 5, 4, 4, 3, 7]
def st_byt : List (List Int32) := [[110, 111, 32, 115, 117, 99, 104, 32, 99, 111, 110, 100, 105, 116, 105, 111, 110], [110, 111, 32, 115, 117, 99, 104, 32, 114, 101, 103, 105, 115, 116, 101, 114], [110, 111, 32, 115, 117, 99, 104, 32, 99, 101, 108, 108], [110, 111, 32, 115, 117, 99, 104, 32, 99, 111, 110, 100, 105, 116, 105, 111, 110, 32, 111, 114, 32, 110, 117, 109, 98, 101, 114], [116, 104, 101, 32, 99, 111, 110, 100, 105, 116, 105, 111, 110, 32, 105, 115, 32, 110, 111, 116, 32, 116, 104, 101, 114, 101], [110, 111, 32, 115, 117, 99, 104, 32, 99, 111, 110, 100, 105, 116, 105, 111, 110, 32, 111, 114, 32, 113, 117, 101, 115, 116, 105, 111, 110], [112, 99], [112, 105, 100], [99, 111, 117, 110, 116], [98, 121, 116, 101], [104, 97, 108, 102], [111, 108, 100], [99, 104, 97, 110, 103, 101, 100]]
def st_own : List (String × Nat × String) := [("ConditionDesk", 55, "no such condition"), ("ConditionDesk", 79, "no such register"), ("ConditionDesk", 88, "no such cell"), ("ConditionDesk", 93, "no such condition or number"), ("ConditionDesk", 97, "the condition is not there"), ("ConditionDesk", 110, "no such condition or question"), ("ConditionDesk$Tokens", 79, "pc"), ("ConditionDesk$Tokens", 85, "pid"), ("ConditionDesk$Tokens", 87, "count"), ("ConditionDesk$Tokens", 89, "byte"), ("ConditionDesk$Tokens", 91, "half"), ("ConditionDesk$Tokens", 93, "old"), ("ConditionDesk$Tokens", 95, "changed")]
def tb_slL : List ((Nat × Nat) × Nat) := [((8, 55), 0), ((8, 79), 1), ((8, 88), 2), ((8, 93), 3), ((8, 97), 4), ((8, 110), 5), ((6, 79), 6), ((6, 85), 7), ((6, 87), 8), ((6, 89), 9), ((6, 91), 10), ((6, 93), 11), ((6, 95), 12)]
def tb_sl (o x : Nat) : Option Nat := (tb_slL.find? (fun q => q.1.1 == o && q.1.2 == x)).map (fun q => q.2)
/-- a static field is laid, its cell below -/
def th_L (C n d : String) (A : Nat → Prop) (U : State) (H : Heap) : Prop := ∃ (cf : ClassId) (k : Class) (i : Nat) (f : Field) (a : Nat) (cell : Cell), U.vm.findClass C = some cf ∧ U.fieldFound? C n d = some (cf, k, i, f) ∧ f.isStatic = true ∧ k.statics = some a ∧ H[a]? = some cell ∧ cell.vm.isStatics = true ∧ cell.cls = cf ∧ f.slot < cell.slots.size ∧ k.staticTypes[f.slot]? = some f.type ∧ ¬ A a
theorem th_L.moved {C n d : String} {A : Nat → Prop} {u U : State} {H : Heap} (hvm : u.vm.Alike U.vm) (h : th_L C n d A u H) : th_L C n d A U H := by
  obtain ⟨cf, k, i, f, a, cell, h0, h1, h2, h3, h4, h5, h6, h7, h8, h9⟩ := h
  obtain ⟨k', hi', he⟩ := State.fieldFound?_setVm hvm h1
  exact ⟨cf, k', i, f, a, cell, by rw [hvm.findClass]; exact h0, hi', h2, by rw [he]; exact h3, h4, h5, h6, h7, by rw [he]; exact h8, h9⟩
theorem th_L.kept {C n d : String} {A : Nat → Prop} {U : State} {H H1 : Heap} (h : th_L C n d A U H) (hq : ∀ a : Nat, a < H.size → ¬ A a → H1[a]? = H[a]?) : th_L C n d A U H1 := by
  obtain ⟨cf, k, i, f, a, cell, h0, h1, h2, h3, h4, h5, h6, h7, h8, h9⟩ := h
  exact ⟨cf, k, i, f, a, cell, h0, h1, h2, h3, by rw [hq a (Array.getElem?_eq_some_iff.mp h4).1 h9]; exact h4, h5, h6, h7, h8, h9⟩
theorem th_L.of {C n d : String} {A : Nat → Prop} {s : State} {args : Array Value} (h : (Cond.laysStatic C n d).before args s = true) (hA : ∀ a : Nat, a < s.heap.size → ¬ A a) : th_L C n d A s s.heap := by
  obtain ⟨c, k, i, f, a, cell, hc, hi, hst, ha, hcell, hs, hcls, hlt, hty⟩ := Cond.laysStatic_spec h
  exact ⟨c, k, i, f, a, cell, hc, hi, hst, ha, hcell, hs, hcls, hlt, hty, hA a (Array.getElem?_eq_some_iff.mp hcell).1⟩
theorem th_L.use {C n d : String} {A : Nat → Prop} {s : State} {args : Array Value} (h : th_L C n d A s s.heap) : (Cond.laysStatic C n d).before args s = true := by
  obtain ⟨c, k, i, f, a, cell, hc, hi, hst, ha, hcell, hs, hcls, hlt, hty, -⟩ := h
  exact Cond.laysStatic_of hc hi hst ha hcell hs hcls hlt hty
def st_Z (N0 : Nat) (adK adV : Nat → Nat) (U : State) : Prop := vk_S st_n st_len st_byt adK adV (fun q => N0 ≤ q) U U.heap ∧ va_Z "java/lang/String" "COMPACT_STRINGS" "Z" (.int 1) (fun q => N0 ≤ q) U U.heap ∧ va_Zq "jdk/internal/util/Preconditions" "SIOOBE_FORMATTER" "Ljava/util/function/BiFunction;" (fun q => N0 ≤ q) U U.heap ∧ (∀ j q, st_own[j]? = some q → vk_R q.1 q.2.1 q.2.2 (adK j) U) ∧ va_Zq "java/lang/Throwable" "UNASSIGNED_STACK" "[Ljava/lang/StackTraceElement;" (fun q => N0 ≤ q) U U.heap ∧ va_Zq "java/lang/Throwable" "SUPPRESSED_SENTINEL" "Ljava/util/List;" (fun q => N0 ≤ q) U U.heap ∧ th_L "java/lang/Throwable" "UNASSIGNED_STACK" "[Ljava/lang/StackTraceElement;" (fun q => N0 ≤ q) U U.heap ∧ th_L "java/lang/Throwable" "SUPPRESSED_SENTINEL" "Ljava/util/List;" (fun q => N0 ≤ q) U U.heap
theorem st_Z1 {N0 : Nat} {adK adV : Nat → Nat} (U : State) (g : JFrame) (mk : MethodId) (a : Array Value) (h : st_Z N0 adK adV U) : st_Z N0 adK adV (U.calling g mk a) :=
  ⟨vk_S.moved (u := U) (U := U.calling g mk a) (Vm.Alike.refl U.vm) h.1, va_Z.moved (u := U) (U := U.calling g mk a) (Vm.Alike.refl U.vm) h.2.1, va_Zq.moved (u := U) (U := U.calling g mk a) (Vm.Alike.refl U.vm) h.2.2.1, fun j q hq => vk_R.same (u := U) (U := U.calling g mk a) rfl (h.2.2.2.1 j q hq), va_Zq.moved (u := U) (U := U.calling g mk a) (Vm.Alike.refl U.vm) h.2.2.2.2.1, va_Zq.moved (u := U) (U := U.calling g mk a) (Vm.Alike.refl U.vm) h.2.2.2.2.2.1, th_L.moved (u := U) (U := U.calling g mk a) (Vm.Alike.refl U.vm) h.2.2.2.2.2.2.1, th_L.moved (u := U) (U := U.calling g mk a) (Vm.Alike.refl U.vm) h.2.2.2.2.2.2.2⟩
theorem st_Z2 {N0 : Nat} {adK adV : Nat → Nat} (s U : State) (H1 : Heap) (locs1 : List Loc) (h : st_Z N0 adK adV s) (hS : va_S (fun q => N0 ≤ q) s.heap H1 locs1) (hU : U.heap = H1) (hW : s.WarmedH U.vm) : st_Z N0 adK adV U := by
  subst hU
  exact ⟨(vk_S.moved hW.alike h.1).kept hS.2.1, (va_Z.moved hW.alike h.2.1).kept hS.2.1, (va_Zq.moved hW.alike h.2.2.1).kept hS.2.1, fun j q hq => vk_R.warm hW (h.2.2.2.1 j q hq), (va_Zq.moved hW.alike h.2.2.2.2.1).kept hS.2.1, (va_Zq.moved hW.alike h.2.2.2.2.2.1).kept hS.2.1, (th_L.moved hW.alike h.2.2.2.2.2.2.1).kept hS.2.1, (th_L.moved hW.alike h.2.2.2.2.2.2.2).kept hS.2.1⟩
def st_Q (v : Option Value) : Array Value → State → Outcome → State → Prop := fun _ st oc t => oc = .returned v ∧ t.heap = st.heap
section STA
variable {p : Program} {l : Launch} {e : Env} {R : Room} {s : State} {m : MethodId} {args : Array Value} {below : List Frame} {meth : Method} {c : Code} {H : Heap} {locs : List Loc} {cells slots : Nat} {Q : State → Prop} {pc : Nat} {ls : Array Slot} {st0 rest : List Value} {a : Array Value} {v : Option Value}
theorem st_back (hr : va_Run p l e R s m args below meth c H locs cells slots 0 0 (F0 m pc ls st0) rest (st_Q v a) (fun _ => False))
    (kk : W p l e R s m args below meth c H locs cells slots Q (F0 m (pc + 3) ls (v.toList ++ rest))) : W p l e R s m args below meth c H locs cells slots Q (F0 m pc ls st0) := by
  intro T hT X
  obtain ⟨v', st₀, t, T', L, h0, X', hL, e1, e2, ⟨hv, hh⟩, st⟩ := hr T hT X
  cases hv
  have hLn : L = [] := List.eq_nil_iff_forall_not_mem.mpr (fun q hq => hL q hq)
  subst hLn
  obtain ⟨t2, a1, b1⟩ := kk T' (e1.trans (hh.trans h0)) (by simpa using X')
  exact ⟨t2, st t2 a1, b1⟩
end STA
def st_ycoder : MethodName := ⟨"java/lang/String", "coder", "()B"⟩
set_option maxRecDepth 200000 in
theorem st_ccoder : Cond.code st_ycoder prog_17_method_152_code 1 (some .byte) ∈ tb_gd := tb_gd_in (i := 596) rfl rfl
def st_wcoder : List Cond := Cond.code st_ycoder prog_17_method_152_code 1 (some .byte) :: tb_gd
def st_ylat : MethodName := ⟨"java/lang/String", "isLatin1", "()Z"⟩
set_option maxRecDepth 200000 in
theorem st_clat : Cond.code st_ylat prog_17_method_154_code 1 (some .boolean) ∈ tb_gd := tb_gd_in (i := 606) rfl rfl
def st_wlat : List Cond := Cond.code st_ylat prog_17_method_154_code 1 (some .boolean) :: tb_gd
def st_ylen : MethodName := ⟨"java/lang/String", "length", "()I"⟩
set_option maxRecDepth 200000 in
theorem st_clen : Cond.code st_ylen prog_17_method_54_code 1 (some .int) ∈ tb_gd := tb_gd_in (i := 592) rfl rfl
def st_wlen : List Cond := Cond.code st_ylen prog_17_method_54_code 1 (some .int) :: tb_gd
def st_ychr : MethodName := ⟨"java/lang/String", "charAt", "(I)C"⟩
set_option maxRecDepth 200000 in
theorem st_cchr : Cond.code st_ychr prog_17_method_56_code 2 (some .char) ∈ tb_gd := tb_gd_in (i := 602) rfl rfl
def st_wchr : List Cond := Cond.code st_ychr prog_17_method_56_code 2 (some .char) :: tb_gd
def st_ylch : MethodName := ⟨"java/lang/StringLatin1", "charAt", "([BI)C"⟩
set_option maxRecDepth 200000 in
theorem st_clch : Cond.code st_ylch prog_18_method_2_code 2 (some .char) ∈ tb_gd := tb_gd_in (i := 609) rfl rfl
def st_wlch : List Cond := Cond.code st_ylch prog_18_method_2_code 2 (some .char) :: tb_gd
def st_ychk : MethodName := ⟨"java/lang/String", "checkIndex", "(II)V"⟩
set_option maxRecDepth 200000 in
theorem st_cchk : Cond.code st_ychk prog_17_method_155_code 2 none ∈ tb_gd := tb_gd_in (i := 612) rfl rfl
def st_wchk : List Cond := Cond.code st_ychk prog_17_method_155_code 2 none :: tb_gd
def st_ypre : MethodName := ⟨"jdk/internal/util/Preconditions", "checkIndex", "(IILjava/util/function/BiFunction;)I"⟩
set_option maxRecDepth 200000 in
theorem st_cpre : Cond.code st_ypre prog_22_method_11_code 3 (some .int) ∈ tb_gd := tb_gd_in (i := 617) rfl rfl
def st_wpre : List Cond := Cond.code st_ypre prog_22_method_11_code 3 (some .int) :: tb_gd
theorem st_f38 : Cond.fieldLink "java/lang/String" 38 "java/lang/String" "COMPACT_STRINGS" "Z" ∈ tb_gd := tb_gd_in (i := 597) (by decide +kernel) rfl
theorem st_f9 : Cond.fieldLink "java/lang/String" 9 "java/lang/String" "value" "[B" ∈ tb_gd := tb_gd_in (i := 1129) (by decide +kernel) rfl
theorem st_f15 : Cond.fieldLink "java/lang/String" 15 "java/lang/String" "coder" "B" ∈ tb_gd := tb_gd_in (i := 1130) (by decide +kernel) rfl
theorem st_f1053 : Cond.fieldLink "java/lang/String" 1053 "jdk/internal/util/Preconditions" "SIOOBE_FORMATTER" "Ljava/util/function/BiFunction;" ∈ tb_gd := tb_gd_in (i := 613) (by decide +kernel) rfl
theorem st_l335coder : Cond.methodLink "java/lang/String" 335 st_ycoder ∈ tb_gd := tb_gd_in (i := 593) (by decide +kernel) rfl
theorem st_l492lat : Cond.methodLink "java/lang/String" 492 st_ylat ∈ tb_gd := tb_gd_in (i := 603) (by decide +kernel) rfl
theorem st_l495lch : Cond.methodLink "java/lang/String" 495 st_ylch ∈ tb_gd := tb_gd_in (i := 607) (by decide +kernel) rfl
theorem st_l9chk : Cond.methodLink "java/lang/StringLatin1" 9 st_ychk ∈ tb_gd := tb_gd_in (i := 610) (by decide +kernel) rfl
theorem st_l1059pre : Cond.methodLink "java/lang/String" 1059 st_ypre ∈ tb_gd := tb_gd_in (i := 615) (by decide +kernel) rfl
theorem st_l97len : Cond.methodLink "ConditionDesk$Tokens" 97 st_ylen ∈ tb_gd := tb_gd_in (i := 589) (by decide +kernel) rfl
theorem st_l101chr : Cond.methodLink "ConditionDesk$Tokens" 101 st_ychr ∈ tb_gd := tb_gd_in (i := 599) (by decide +kernel) rfl
theorem st_icoder : Cond.instanceMethod st_ycoder ∈ tb_gd := tb_gd_in (i := 594) (by decide +kernel) rfl
theorem st_scoder : Cond.selects "java/lang/String" st_ycoder st_ycoder ∈ tb_gd := tb_gd_in (i := 595) (by decide +kernel) rfl
theorem st_ilat : Cond.instanceMethod st_ylat ∈ tb_gd := tb_gd_in (i := 604) (by decide +kernel) rfl
theorem st_slat : Cond.selects "java/lang/String" st_ylat st_ylat ∈ tb_gd := tb_gd_in (i := 605) (by decide +kernel) rfl
theorem st_ilen : Cond.instanceMethod st_ylen ∈ tb_gd := tb_gd_in (i := 590) (by decide +kernel) rfl
theorem st_slen : Cond.selects "java/lang/String" st_ylen st_ylen ∈ tb_gd := tb_gd_in (i := 591) (by decide +kernel) rfl
theorem st_ichr : Cond.instanceMethod st_ychr ∈ tb_gd := tb_gd_in (i := 600) (by decide +kernel) rfl
theorem st_schr : Cond.selects "java/lang/String" st_ychr st_ychr ∈ tb_gd := tb_gd_in (i := 601) (by decide +kernel) rfl
theorem st_tlch : Cond.static st_ylch ∈ tb_gd := tb_gd_in (i := 608) (by decide +kernel) rfl
theorem st_tchk : Cond.static st_ychk ∈ tb_gd := tb_gd_in (i := 611) (by decide +kernel) rfl
theorem st_tpre : Cond.static st_ypre ∈ tb_gd := tb_gd_in (i := 616) (by decide +kernel) rfl
theorem st_nS : Cond.initialized "java/lang/String" ∈ tb_gd := tb_gd_in (i := 94) (by decide +kernel) rfl
theorem st_nL : Cond.initialized "java/lang/StringLatin1" ∈ tb_gd := tb_gd_in (i := 95) (by decide +kernel) rfl
theorem st_nP : Cond.initialized "jdk/internal/util/Preconditions" ∈ tb_gd := tb_gd_in (i := 96) (by decide +kernel) rfl
theorem st_l31 : ∀ j, j < st_n → st_len.getD j 0 < 2 ^ 31 := by decide +kernel
def st_rm (d : Nat) : Room := { frames := d, cells := 0, slots := 0, locals := 40 * d }
theorem st_hws {s : State} {args : Array Value} {Ts : List Cond} {y : MethodName} {b : ByteArray} {n : Nat} {r : Option FieldType} (hts : ∀ w ∈ Ts, w.before args s = true) (hgd : ∀ w ∈ tb_gd, w ∈ Ts) (hc : Cond.code y b n r ∈ tb_gd) : ∀ w ∈ Cond.code y b n r :: tb_gd, ∀ (a' : Array Value) (U : State), s.WarmedH U.vm → w.before a' U = true := fun w hw a' U hW => by
  have hg : w ∈ tb_gd := (List.mem_cons.mp hw).elim (fun e => e ▸ hc) id
  exact word_at hW (good_of_word (tb_good w hg)) (hts w (hgd w hg))
theorem st_dcoder0 : decode prog_17_method_152_code 0 = .ok (.getstatic 38, 3) := by decide +kernel
theorem st_dcoder3 : decode prog_17_method_152_code 3 = .ok (.ifCond .eq 10, 3) := by decide +kernel
theorem st_dcoder6 : decode prog_17_method_152_code 6 = .ok (.aload_n 0, 1) := by decide +kernel
theorem st_dcoder7 : decode prog_17_method_152_code 7 = .ok (.getfield 15, 3) := by decide +kernel
theorem st_dcoder10 : decode prog_17_method_152_code 10 = .ok (.goto 4, 3) := by decide +kernel
theorem st_dcoder14 : decode prog_17_method_152_code 14 = .ok (.ireturn, 1) := by decide +kernel
theorem st_dlat0 : decode prog_17_method_154_code 0 = .ok (.getstatic 38, 3) := by decide +kernel
theorem st_dlat3 : decode prog_17_method_154_code 3 = .ok (.ifCond .eq 14, 3) := by decide +kernel
theorem st_dlat6 : decode prog_17_method_154_code 6 = .ok (.aload_n 0, 1) := by decide +kernel
theorem st_dlat7 : decode prog_17_method_154_code 7 = .ok (.getfield 15, 3) := by decide +kernel
theorem st_dlat10 : decode prog_17_method_154_code 10 = .ok (.ifCond .ne 7, 3) := by decide +kernel
theorem st_dlat13 : decode prog_17_method_154_code 13 = .ok (.iconst 1, 1) := by decide +kernel
theorem st_dlat14 : decode prog_17_method_154_code 14 = .ok (.goto 4, 3) := by decide +kernel
theorem st_dlat18 : decode prog_17_method_154_code 18 = .ok (.ireturn, 1) := by decide +kernel
theorem st_dlen0 : decode prog_17_method_54_code 0 = .ok (.aload_n 0, 1) := by decide +kernel
theorem st_dlen1 : decode prog_17_method_54_code 1 = .ok (.getfield 9, 3) := by decide +kernel
theorem st_dlen4 : decode prog_17_method_54_code 4 = .ok (.arraylength, 1) := by decide +kernel
theorem st_dlen5 : decode prog_17_method_54_code 5 = .ok (.aload_n 0, 1) := by decide +kernel
theorem st_dlen6 : decode prog_17_method_54_code 6 = .ok (.invokevirtual 335, 3) := by decide +kernel
theorem st_dlen9 : decode prog_17_method_54_code 9 = .ok (.ishr, 1) := by decide +kernel
theorem st_dlen10 : decode prog_17_method_54_code 10 = .ok (.ireturn, 1) := by decide +kernel
theorem st_dpre0 : decode prog_22_method_11_code 0 = .ok (.iload_n 0, 1) := by decide +kernel
theorem st_dpre1 : decode prog_22_method_11_code 1 = .ok (.ifCond .lt 8, 3) := by decide +kernel
theorem st_dpre4 : decode prog_22_method_11_code 4 = .ok (.iload_n 0, 1) := by decide +kernel
theorem st_dpre5 : decode prog_22_method_11_code 5 = .ok (.iload_n 1, 1) := by decide +kernel
theorem st_dpre6 : decode prog_22_method_11_code 6 = .ok (.if_icmp .lt 10, 3) := by decide +kernel
theorem st_dpre16 : decode prog_22_method_11_code 16 = .ok (.iload_n 0, 1) := by decide +kernel
theorem st_dpre17 : decode prog_22_method_11_code 17 = .ok (.ireturn, 1) := by decide +kernel
theorem st_dchk0 : decode prog_17_method_155_code 0 = .ok (.iload_n 0, 1) := by decide +kernel
theorem st_dchk1 : decode prog_17_method_155_code 1 = .ok (.iload_n 1, 1) := by decide +kernel
theorem st_dchk2 : decode prog_17_method_155_code 2 = .ok (.getstatic 1053, 3) := by decide +kernel
theorem st_dchk5 : decode prog_17_method_155_code 5 = .ok (.invokestatic 1059, 3) := by decide +kernel
theorem st_dchk8 : decode prog_17_method_155_code 8 = .ok (.pop, 1) := by decide +kernel
theorem st_dchk9 : decode prog_17_method_155_code 9 = .ok (.return_, 1) := by decide +kernel
theorem st_dlch0 : decode prog_18_method_2_code 0 = .ok (.iload_n 1, 1) := by decide +kernel
theorem st_dlch1 : decode prog_18_method_2_code 1 = .ok (.aload_n 0, 1) := by decide +kernel
theorem st_dlch2 : decode prog_18_method_2_code 2 = .ok (.arraylength, 1) := by decide +kernel
theorem st_dlch3 : decode prog_18_method_2_code 3 = .ok (.invokestatic 9, 3) := by decide +kernel
theorem st_dlch6 : decode prog_18_method_2_code 6 = .ok (.aload_n 0, 1) := by decide +kernel
theorem st_dlch7 : decode prog_18_method_2_code 7 = .ok (.iload_n 1, 1) := by decide +kernel
theorem st_dlch8 : decode prog_18_method_2_code 8 = .ok (.baload, 1) := by decide +kernel
theorem st_dlch9 : decode prog_18_method_2_code 9 = .ok (.sipush 255, 3) := by decide +kernel
theorem st_dlch12 : decode prog_18_method_2_code 12 = .ok (.iand, 1) := by decide +kernel
theorem st_dlch13 : decode prog_18_method_2_code 13 = .ok (.i2c, 1) := by decide +kernel
theorem st_dlch14 : decode prog_18_method_2_code 14 = .ok (.ireturn, 1) := by decide +kernel
theorem st_dchr0 : decode prog_17_method_56_code 0 = .ok (.aload_n 0, 1) := by decide +kernel
theorem st_dchr1 : decode prog_17_method_56_code 1 = .ok (.invokevirtual 492, 3) := by decide +kernel
theorem st_dchr4 : decode prog_17_method_56_code 4 = .ok (.ifCond .eq 12, 3) := by decide +kernel
theorem st_dchr7 : decode prog_17_method_56_code 7 = .ok (.aload_n 0, 1) := by decide +kernel
theorem st_dchr8 : decode prog_17_method_56_code 8 = .ok (.getfield 9, 3) := by decide +kernel
theorem st_dchr11 : decode prog_17_method_56_code 11 = .ok (.iload_n 1, 1) := by decide +kernel
theorem st_dchr12 : decode prog_17_method_56_code 12 = .ok (.invokestatic 495, 3) := by decide +kernel
theorem st_dchr15 : decode prog_17_method_56_code 15 = .ok (.ireturn, 1) := by decide +kernel
section STB
variable {l : Launch} {N0 : Nat} {adK adV : Nat → Nat}
set_option maxHeartbeats 4000000 in
set_option maxRecDepth 100000 in
theorem st_mcoder {j : Nat} (hj : j < st_n) : Met l st_ycoder st_wcoder (st_rm 1) (va_Pc ([.ref (adK j)]) (st_Z N0 adK adV)) (st_Q (some (.int 0))) 0 0 (fun _ => False) := by
  refine va_MetF (cc := prog_17_method_152_code) (maxL := 1) (ret := (some .byte)) (by decide +kernel) rfl ?_
  intro p e s m args below meth c s₁ B hml hv
  obtain ⟨rfl, hZ⟩ := hv
  have hx := B.exec
  have hb := B.bytes
  have hr := B.returns
  have hts := atoms_spec (ws := st_wcoder) B.pre
  have hown : s.vm.findClass "java/lang/String" = some m.cls := findClass_of_methodNamed B.named
  have hlocks := B.notSynchronized
  have hgd : ∀ w ∈ tb_gd, w ∈ st_wcoder := fun w hw => List.mem_cons_of_mem _ hw
  have hg : ∀ w ∈ tb_gd, w.before _ s = true := fun w hw => hts w (hgd w hw)
  have hS : va_S (fun q => N0 ≤ q) s.heap s.heap [] := va_S.rf
  have hl := lv_entry ([.ref (adK j)]) (n := 1) (Nat.le_of_ble_eq_true rfl)
  rw [lg_entry_eq]
  generalize (lg_sl ([.ref (adK j)]) ++ List.replicate (1 - (lg_sl ([.ref (adK j)])).length) Slot.unset).toArray = ls at hl ⊢
  have hl : lv_has ls 1 [(0, .ref (adK j))] := hl
  refine va_gets hx hb hZ.2.1 hS hown (hg _ st_f38) (fun _ h => h) st_dcoder0 ?_
  refine lv_if_eq (tgt := 13) hx hb st_dcoder3 (by decide) (fun h => absurd h (by decide)) (fun _ => ?_)
  refine lv_aload_n hx hb st_dcoder6 rfl (lv_at hl 0 rfl) ?_
  refine vk_getf hx hb (hZ.1.1 j hj).2.1 hS hown (hg _ st_f15) (fun _ h => h) st_dcoder7 ?_
  refine lv_goto (tgt := 14) hx hb st_dcoder10 (by decide) ?_
  exact W.zret hx hb hr rfl (fun t ht _ => ⟨rfl, ht⟩) (fun _ h => by cases h) st_dcoder14
set_option maxHeartbeats 4000000 in
set_option maxRecDepth 100000 in
theorem st_mlat {j : Nat} (hj : j < st_n) : Met l st_ylat st_wlat (st_rm 1) (va_Pc ([.ref (adK j)]) (st_Z N0 adK adV)) (st_Q (some (.int 1))) 0 0 (fun _ => False) := by
  refine va_MetF (cc := prog_17_method_154_code) (maxL := 1) (ret := (some .boolean)) (by decide +kernel) rfl ?_
  intro p e s m args below meth c s₁ B hml hv
  obtain ⟨rfl, hZ⟩ := hv
  have hx := B.exec
  have hb := B.bytes
  have hr := B.returns
  have hts := atoms_spec (ws := st_wlat) B.pre
  have hown : s.vm.findClass "java/lang/String" = some m.cls := findClass_of_methodNamed B.named
  have hlocks := B.notSynchronized
  have hgd : ∀ w ∈ tb_gd, w ∈ st_wlat := fun w hw => List.mem_cons_of_mem _ hw
  have hg : ∀ w ∈ tb_gd, w.before _ s = true := fun w hw => hts w (hgd w hw)
  have hS : va_S (fun q => N0 ≤ q) s.heap s.heap [] := va_S.rf
  have hl := lv_entry ([.ref (adK j)]) (n := 1) (Nat.le_of_ble_eq_true rfl)
  rw [lg_entry_eq]
  generalize (lg_sl ([.ref (adK j)]) ++ List.replicate (1 - (lg_sl ([.ref (adK j)])).length) Slot.unset).toArray = ls at hl ⊢
  have hl : lv_has ls 1 [(0, .ref (adK j))] := hl
  refine va_gets hx hb hZ.2.1 hS hown (hg _ st_f38) (fun _ h => h) st_dlat0 ?_
  refine lv_if_eq (tgt := 17) hx hb st_dlat3 (by decide) (fun h => absurd h (by decide)) (fun _ => ?_)
  refine lv_aload_n hx hb st_dlat6 rfl (lv_at hl 0 rfl) ?_
  refine vk_getf hx hb (hZ.1.1 j hj).2.1 hS hown (hg _ st_f15) (fun _ h => h) st_dlat7 ?_
  refine lv_if_ne (tgt := 17) hx hb st_dlat10 (by decide) (fun h => absurd rfl h) (fun _ => ?_)
  refine lv_iconst (v := 1) hx hb st_dlat13 (by decide) ?_
  refine lv_goto (tgt := 18) hx hb st_dlat14 (by decide) ?_
  exact W.zret hx hb hr rfl (fun t ht _ => ⟨rfl, ht⟩) (fun _ h => by cases h) st_dlat18
set_option maxHeartbeats 4000000 in
set_option maxRecDepth 100000 in
theorem st_mlen {j : Nat} (hj : j < st_n) : Met l st_ylen st_wlen (st_rm 2) (va_Pc ([.ref (adK j)]) (st_Z N0 adK adV)) (st_Q (some (.int (nI (st_len.getD j 0))))) 0 0 (fun _ => False) := by
  refine va_MetF (cc := prog_17_method_54_code) (maxL := 1) (ret := (some .int)) (by decide +kernel) rfl ?_
  intro p e s m args below meth c s₁ B hml hv
  obtain ⟨rfl, hZ⟩ := hv
  have hx := B.exec
  have hb := B.bytes
  have hr := B.returns
  have hts := atoms_spec (ws := st_wlen) B.pre
  have hown : s.vm.findClass "java/lang/String" = some m.cls := findClass_of_methodNamed B.named
  have hlocks := B.notSynchronized
  have hgd : ∀ w ∈ tb_gd, w ∈ st_wlen := fun w hw => List.mem_cons_of_mem _ hw
  have hg : ∀ w ∈ tb_gd, w.before _ s = true := fun w hw => hts w (hgd w hw)
  have hS : va_S (fun q => N0 ≤ q) s.heap s.heap [] := va_S.rf
  have hl := lv_entry ([.ref (adK j)]) (n := 1) (Nat.le_of_ble_eq_true rfl)
  rw [lg_entry_eq]
  generalize (lg_sl ([.ref (adK j)]) ++ List.replicate (1 - (lg_sl ([.ref (adK j)])).length) Slot.unset).toArray = ls at hl ⊢
  have hl : lv_has ls 1 [(0, .ref (adK j))] := hl
  refine lv_aload_n hx hb st_dlen0 rfl (lv_at hl 0 rfl) ?_
  refine vk_getf hx hb (hZ.1.1 j hj).2.2.1 hS hown (hg _ st_f9) (fun _ h => h) st_dlen1 ?_
  refine va_tlen hx hb (hZ.1.1 j hj).2.2.2 hS rfl st_dlen4 ?_
  refine lv_aload_n hx hb st_dlen5 rfl (lv_at hl 0 rfl) ?_
  refine st_back (va_runV (As := []) (rest := [.int (Int32.ofNat (st_len.getD j 0))]) ⟨hx, hb, hml, hown, hts⟩ (st_mcoder (l := l) hj) ⟨⟨rfl, rfl, Nat.le_of_ble_eq_true rfl, Nat.le_of_ble_eq_true rfl, st_hws hts hgd st_ccoder, List.mem_cons_self, hg _ st_ccoder, hg _ st_nS, ⟨by decide, by decide⟩, fun sig h9 => (by rw [show parseMethodDescriptor st_ycoder.desc = _ from rfl] at h9; cases h9; rfl), hg _ st_l335coder⟩, hg _ st_icoder, hg _ st_scoder⟩ ⟨fun a U g mk q => ⟨q.1, st_Z1 U g mk a q.2⟩, vk_recv hZ.1 hj hS, fun U hU hW => ⟨rfl, st_Z2 s U _ _ hZ hS hU hW⟩⟩ rfl rfl hl.1 rfl (lv_room (Nat.le_of_ble_eq_true rfl)) st_dlen6 ⟨Nat.le_refl _, Nat.le_refl _⟩) ?_
  refine lv_ishr hx hb st_dlen9 ?_
  have e9 : (Int32.ofNat (st_len.getD j 0)) >>> ((0 : Int32) &&& 31) = nI (st_len.getD j 0) := sb_shr0 _
  show W p l e _ s m _ below meth c s.heap [] 0 0 _ (F0 m 10 ls [.int ((Int32.ofNat (st_len.getD j 0)) >>> ((0 : Int32) &&& 31))])
  rw [e9]
  exact W.zret hx hb hr rfl (fun t ht _ => ⟨rfl, ht⟩) (fun _ h => by cases h) st_dlen10
set_option maxHeartbeats 4000000 in
set_option maxRecDepth 100000 in
theorem st_mpren {i n : Int32} (h0 : ¬ i < 0) (h1 : i < n) : Met l st_ypre st_wpre (st_rm 1) (va_Pc ([.int i, .int n, .null]) (st_Z N0 adK adV)) (st_Q (some (.int i))) 0 0 (fun _ => False) := by
  refine va_MetF (cc := prog_22_method_11_code) (maxL := 3) (ret := (some .int)) (by decide +kernel) rfl ?_
  intro p e s m args below meth c s₁ B hml hv
  obtain ⟨rfl, hZ⟩ := hv
  have hx := B.exec
  have hb := B.bytes
  have hr := B.returns
  have hts := atoms_spec (ws := st_wpre) B.pre
  have hown : s.vm.findClass "jdk/internal/util/Preconditions" = some m.cls := findClass_of_methodNamed B.named
  have hlocks := B.notSynchronized
  have hgd : ∀ w ∈ tb_gd, w ∈ st_wpre := fun w hw => List.mem_cons_of_mem _ hw
  have hg : ∀ w ∈ tb_gd, w.before _ s = true := fun w hw => hts w (hgd w hw)
  have hS : va_S (fun q => N0 ≤ q) s.heap s.heap [] := va_S.rf
  have hl := lv_entry ([.int i, .int n, .null]) (n := 3) (Nat.le_of_ble_eq_true rfl)
  rw [lg_entry_eq]
  generalize (lg_sl ([.int i, .int n, .null]) ++ List.replicate (3 - (lg_sl ([.int i, .int n, .null])).length) Slot.unset).toArray = ls at hl ⊢
  have hl : lv_has ls 3 [(0, .int i), (1, .int n), (2, .null)] := hl
  refine lv_iload_n hx hb st_dpre0 rfl (lv_at hl 0 rfl) ?_
  refine lv_if_lt (tgt := 9) hx hb st_dpre1 (by decide) (fun h => absurd h h0) (fun _ => ?_)
  refine lv_iload_n hx hb st_dpre4 rfl (lv_at hl 0 rfl) ?_
  refine lv_iload_n hx hb st_dpre5 rfl (lv_at hl 1 rfl) ?_
  refine lv_icmp_lt (tgt := 16) hx hb st_dpre6 (by decide) (fun _ => ?_) (fun h => absurd h1 h)
  refine lv_iload_n hx hb st_dpre16 rfl (lv_at hl 0 rfl) ?_
  exact W.zret hx hb hr rfl (fun t ht _ => ⟨rfl, ht⟩) (fun _ h => by cases h) st_dpre17
set_option maxHeartbeats 4000000 in
set_option maxRecDepth 100000 in
theorem st_mprer {i n : Int32} {f : Nat} (h0 : ¬ i < 0) (h1 : i < n) : Met l st_ypre st_wpre (st_rm 1) (va_Pc ([.int i, .int n, .ref f]) (st_Z N0 adK adV)) (st_Q (some (.int i))) 0 0 (fun _ => False) := by
  refine va_MetF (cc := prog_22_method_11_code) (maxL := 3) (ret := (some .int)) (by decide +kernel) rfl ?_
  intro p e s m args below meth c s₁ B hml hv
  obtain ⟨rfl, hZ⟩ := hv
  have hx := B.exec
  have hb := B.bytes
  have hr := B.returns
  have hts := atoms_spec (ws := st_wpre) B.pre
  have hown : s.vm.findClass "jdk/internal/util/Preconditions" = some m.cls := findClass_of_methodNamed B.named
  have hlocks := B.notSynchronized
  have hgd : ∀ w ∈ tb_gd, w ∈ st_wpre := fun w hw => List.mem_cons_of_mem _ hw
  have hg : ∀ w ∈ tb_gd, w.before _ s = true := fun w hw => hts w (hgd w hw)
  have hS : va_S (fun q => N0 ≤ q) s.heap s.heap [] := va_S.rf
  have hl := lv_entry ([.int i, .int n, .ref f]) (n := 3) (Nat.le_of_ble_eq_true rfl)
  rw [lg_entry_eq]
  generalize (lg_sl ([.int i, .int n, .ref f]) ++ List.replicate (3 - (lg_sl ([.int i, .int n, .ref f])).length) Slot.unset).toArray = ls at hl ⊢
  have hl : lv_has ls 3 [(0, .int i), (1, .int n), (2, .ref f)] := hl
  refine lv_iload_n hx hb st_dpre0 rfl (lv_at hl 0 rfl) ?_
  refine lv_if_lt (tgt := 9) hx hb st_dpre1 (by decide) (fun h => absurd h h0) (fun _ => ?_)
  refine lv_iload_n hx hb st_dpre4 rfl (lv_at hl 0 rfl) ?_
  refine lv_iload_n hx hb st_dpre5 rfl (lv_at hl 1 rfl) ?_
  refine lv_icmp_lt (tgt := 16) hx hb st_dpre6 (by decide) (fun _ => ?_) (fun h => absurd h1 h)
  refine lv_iload_n hx hb st_dpre16 rfl (lv_at hl 0 rfl) ?_
  exact W.zret hx hb hr rfl (fun t ht _ => ⟨rfl, ht⟩) (fun _ h => by cases h) st_dpre17
set_option maxHeartbeats 4000000 in
set_option maxRecDepth 100000 in
theorem st_mchk {i n : Int32} (h0 : ¬ i < 0) (h1 : i < n) : Met l st_ychk st_wchk (st_rm 2) (va_Pc ([.int i, .int n]) (st_Z N0 adK adV)) (st_Q (none)) 0 0 (fun _ => False) := by
  refine va_MetF (cc := prog_17_method_155_code) (maxL := 2) (ret := none) (by decide +kernel) rfl ?_
  intro p e s m args below meth c s₁ B hml hv
  obtain ⟨rfl, hZ⟩ := hv
  have hx := B.exec
  have hb := B.bytes
  have hr := B.returns
  have hts := atoms_spec (ws := st_wchk) B.pre
  have hown : s.vm.findClass "java/lang/String" = some m.cls := findClass_of_methodNamed B.named
  have hlocks := B.notSynchronized
  have hgd : ∀ w ∈ tb_gd, w ∈ st_wchk := fun w hw => List.mem_cons_of_mem _ hw
  have hg : ∀ w ∈ tb_gd, w.before _ s = true := fun w hw => hts w (hgd w hw)
  have hS : va_S (fun q => N0 ≤ q) s.heap s.heap [] := va_S.rf
  have hl := lv_entry ([.int i, .int n]) (n := 2) (Nat.le_of_ble_eq_true rfl)
  rw [lg_entry_eq]
  generalize (lg_sl ([.int i, .int n]) ++ List.replicate (2 - (lg_sl ([.int i, .int n])).length) Slot.unset).toArray = ls at hl ⊢
  have hl : lv_has ls 2 [(0, .int i), (1, .int n)] := hl
  refine lv_iload_n hx hb st_dchk0 rfl (lv_at hl 0 rfl) ?_
  refine lv_iload_n hx hb st_dchk1 rfl (lv_at hl 1 rfl) ?_
  rcases hZ.2.2.1 with hF | ⟨f, hF⟩
  · refine va_gets hx hb hF hS hown (hg _ st_f1053) (fun _ h => h) st_dchk2 ?_
    refine st_back (va_runS (As := [.int i, .int n, .null]) (rest := []) ⟨hx, hb, hml, hown, hts⟩ (st_mpren (l := l) h0 h1) ⟨⟨rfl, rfl, Nat.le_of_ble_eq_true rfl, Nat.le_of_ble_eq_true rfl, st_hws hts hgd st_cpre, List.mem_cons_self, hg _ st_cpre, hg _ st_nP, ⟨by decide, by decide⟩, fun sig h9 => (by rw [show parseMethodDescriptor st_ypre.desc = _ from rfl] at h9; cases h9; rfl), hg _ st_l1059pre⟩, hg _ st_tpre⟩ ⟨fun a U g mk q => ⟨q.1, st_Z1 U g mk a q.2⟩, fun U hU hW => ⟨rfl, st_Z2 s U _ _ hZ hS hU hW⟩⟩ rfl rfl hl.1 rfl (lv_room (Nat.le_of_ble_eq_true rfl)) st_dchk5 ⟨Nat.le_refl _, Nat.le_refl _⟩) ?_
    refine lv_pop hx hb st_dchk8 rfl ?_
    exact W.vret hx hb hr (fun t ht _ => ⟨rfl, ht⟩) (fun _ h => by cases h) st_dchk9
  · refine va_gets hx hb hF hS hown (hg _ st_f1053) (fun _ h => h) st_dchk2 ?_
    refine st_back (va_runS (As := [.int i, .int n, .ref f]) (rest := []) ⟨hx, hb, hml, hown, hts⟩ (st_mprer (l := l) h0 h1) ⟨⟨rfl, rfl, Nat.le_of_ble_eq_true rfl, Nat.le_of_ble_eq_true rfl, st_hws hts hgd st_cpre, List.mem_cons_self, hg _ st_cpre, hg _ st_nP, ⟨by decide, by decide⟩, fun sig h9 => (by rw [show parseMethodDescriptor st_ypre.desc = _ from rfl] at h9; cases h9; rfl), hg _ st_l1059pre⟩, hg _ st_tpre⟩ ⟨fun a U g mk q => ⟨q.1, st_Z1 U g mk a q.2⟩, fun U hU hW => ⟨rfl, st_Z2 s U _ _ hZ hS hU hW⟩⟩ rfl rfl hl.1 rfl (lv_room (Nat.le_of_ble_eq_true rfl)) st_dchk5 ⟨Nat.le_refl _, Nat.le_refl _⟩) ?_
    refine lv_pop hx hb st_dchk8 rfl ?_
    exact W.vret hx hb hr (fun t ht _ => ⟨rfl, ht⟩) (fun _ h => by cases h) st_dchk9
set_option maxHeartbeats 4000000 in
set_option maxRecDepth 100000 in
theorem st_mlch {j : Nat} {i : Int32} (hj : j < st_n) (hi : vp_in i (st_len.getD j 0)) : Met l st_ylch st_wlch (st_rm 3) (va_Pc ([.ref (adV j), .int i]) (st_Z N0 adK adV)) (st_Q (some (.int (((st_byt.getD j []).getD i.toNatClampNeg 0 &&& 255).toUInt32 % 65536).toInt32))) 0 0 (fun _ => False) := by
  refine va_MetF (cc := prog_18_method_2_code) (maxL := 2) (ret := (some .char)) (by decide +kernel) rfl ?_
  intro p e s m args below meth c s₁ B hml hv
  obtain ⟨rfl, hZ⟩ := hv
  have hx := B.exec
  have hb := B.bytes
  have hr := B.returns
  have hts := atoms_spec (ws := st_wlch) B.pre
  have hown : s.vm.findClass "java/lang/StringLatin1" = some m.cls := findClass_of_methodNamed B.named
  have hlocks := B.notSynchronized
  have hgd : ∀ w ∈ tb_gd, w ∈ st_wlch := fun w hw => List.mem_cons_of_mem _ hw
  have hg : ∀ w ∈ tb_gd, w.before _ s = true := fun w hw => hts w (hgd w hw)
  have hS : va_S (fun q => N0 ≤ q) s.heap s.heap [] := va_S.rf
  have hl := lv_entry ([.ref (adV j), .int i]) (n := 2) (Nat.le_of_ble_eq_true rfl)
  rw [lg_entry_eq]
  generalize (lg_sl ([.ref (adV j), .int i]) ++ List.replicate (2 - (lg_sl ([.ref (adV j), .int i])).length) Slot.unset).toArray = ls at hl ⊢
  have hl : lv_has ls 2 [(0, .ref (adV j)), (1, .int i)] := hl
  have h31 : st_len.getD j 0 < 2 ^ 31 := st_l31 j hj
  obtain ⟨z, hz, rfl⟩ := vp_in_of hi h31
  have h0 : ¬ nI z < 0 := nI_pos (by omega)
  have h1 : nI z < Int32.ofNat (st_len.getD j 0) := nI_lt hz h31
  refine lv_iload_n hx hb st_dlch0 rfl (lv_at hl 1 rfl) ?_
  refine lv_aload_n hx hb st_dlch1 rfl (lv_at hl 0 rfl) ?_
  refine va_tlen hx hb (hZ.1.1 j hj).2.2.2 hS rfl st_dlch2 ?_
  refine st_back (va_runS (As := [.int (nI z), .int (Int32.ofNat (st_len.getD j 0))]) (rest := []) ⟨hx, hb, hml, hown, hts⟩ (st_mchk (l := l) h0 h1) ⟨⟨rfl, rfl, Nat.le_of_ble_eq_true rfl, Nat.le_of_ble_eq_true rfl, st_hws hts hgd st_cchk, List.mem_cons_self, hg _ st_cchk, hg _ st_nS, ⟨by decide, by decide⟩, fun sig h9 => (by rw [show parseMethodDescriptor st_ychk.desc = _ from rfl] at h9; cases h9; rfl), hg _ st_l9chk⟩, hg _ st_tchk⟩ ⟨fun a U g mk q => ⟨q.1, st_Z1 U g mk a q.2⟩, fun U hU hW => ⟨rfl, st_Z2 s U _ _ hZ hS hU hW⟩⟩ rfl rfl hl.1 rfl (lv_room (Nat.le_of_ble_eq_true rfl)) st_dlch3 ⟨Nat.le_refl _, Nat.le_refl _⟩) ?_
  refine lv_aload_n hx hb st_dlch6 rfl (lv_at hl 0 rfl) ?_
  refine lv_iload_n hx hb st_dlch7 rfl (lv_at hl 1 rfl) ?_
  refine va_tb hx hb (hZ.1.1 j hj).2.2.2 hS hi rfl st_dlch8 ?_
  refine lv_sipush (v := 255) hx hb st_dlch9 (by decide) ?_
  refine lv_iand hx hb st_dlch12 ?_
  refine lv_i2c hx hb st_dlch13 rfl ?_
  exact W.zret hx hb hr (pk_nc _) (fun t ht _ => ⟨rfl, ht⟩) (fun _ h => by cases h) st_dlch14
set_option maxHeartbeats 4000000 in
set_option maxRecDepth 100000 in
theorem st_mchr {j : Nat} {i : Int32} (hj : j < st_n) (hi : vp_in i (st_len.getD j 0)) : Met l st_ychr st_wchr (st_rm 4) (va_Pc ([.ref (adK j), .int i]) (st_Z N0 adK adV)) (st_Q (some (.int (((st_byt.getD j []).getD i.toNatClampNeg 0 &&& 255).toUInt32 % 65536).toInt32))) 0 0 (fun _ => False) := by
  refine va_MetF (cc := prog_17_method_56_code) (maxL := 2) (ret := (some .char)) (by decide +kernel) rfl ?_
  intro p e s m args below meth c s₁ B hml hv
  obtain ⟨rfl, hZ⟩ := hv
  have hx := B.exec
  have hb := B.bytes
  have hr := B.returns
  have hts := atoms_spec (ws := st_wchr) B.pre
  have hown : s.vm.findClass "java/lang/String" = some m.cls := findClass_of_methodNamed B.named
  have hlocks := B.notSynchronized
  have hgd : ∀ w ∈ tb_gd, w ∈ st_wchr := fun w hw => List.mem_cons_of_mem _ hw
  have hg : ∀ w ∈ tb_gd, w.before _ s = true := fun w hw => hts w (hgd w hw)
  have hS : va_S (fun q => N0 ≤ q) s.heap s.heap [] := va_S.rf
  have hl := lv_entry ([.ref (adK j), .int i]) (n := 2) (Nat.le_of_ble_eq_true rfl)
  rw [lg_entry_eq]
  generalize (lg_sl ([.ref (adK j), .int i]) ++ List.replicate (2 - (lg_sl ([.ref (adK j), .int i])).length) Slot.unset).toArray = ls at hl ⊢
  have hl : lv_has ls 2 [(0, .ref (adK j)), (1, .int i)] := hl
  refine lv_aload_n hx hb st_dchr0 rfl (lv_at hl 0 rfl) ?_
  refine st_back (va_runV (As := []) (rest := []) ⟨hx, hb, hml, hown, hts⟩ (st_mlat (l := l) hj) ⟨⟨rfl, rfl, Nat.le_of_ble_eq_true rfl, Nat.le_of_ble_eq_true rfl, st_hws hts hgd st_clat, List.mem_cons_self, hg _ st_clat, hg _ st_nS, ⟨by decide, by decide⟩, fun sig h9 => (by rw [show parseMethodDescriptor st_ylat.desc = _ from rfl] at h9; cases h9; rfl), hg _ st_l492lat⟩, hg _ st_ilat, hg _ st_slat⟩ ⟨fun a U g mk q => ⟨q.1, st_Z1 U g mk a q.2⟩, vk_recv hZ.1 hj hS, fun U hU hW => ⟨rfl, st_Z2 s U _ _ hZ hS hU hW⟩⟩ rfl rfl hl.1 rfl (lv_room (Nat.le_of_ble_eq_true rfl)) st_dchr1 ⟨Nat.le_refl _, Nat.le_refl _⟩) ?_
  refine lv_if_eq (tgt := 16) hx hb st_dchr4 (by decide) (fun h => absurd h (by decide)) (fun _ => ?_)
  refine lv_aload_n hx hb st_dchr7 rfl (lv_at hl 0 rfl) ?_
  refine vk_getf hx hb (hZ.1.1 j hj).2.2.1 hS hown (hg _ st_f9) (fun _ h => h) st_dchr8 ?_
  refine lv_iload_n hx hb st_dchr11 rfl (lv_at hl 1 rfl) ?_
  refine st_back (va_runS (As := [.ref (adV j), .int i]) (rest := []) ⟨hx, hb, hml, hown, hts⟩ (st_mlch (l := l) hj hi) ⟨⟨rfl, rfl, Nat.le_of_ble_eq_true rfl, Nat.le_of_ble_eq_true rfl, st_hws hts hgd st_clch, List.mem_cons_self, hg _ st_clch, hg _ st_nL, ⟨by decide, by decide⟩, fun sig h9 => (by rw [show parseMethodDescriptor st_ylch.desc = _ from rfl] at h9; cases h9; rfl), hg _ st_l495lch⟩, hg _ st_tlch⟩ ⟨fun a U g mk q => ⟨q.1, st_Z1 U g mk a q.2⟩, fun U hU hW => ⟨rfl, st_Z2 s U _ _ hZ hS hU hW⟩⟩ rfl rfl hl.1 rfl (lv_room (Nat.le_of_ble_eq_true rfl)) st_dchr12 ⟨Nat.le_refl _, Nat.le_refl _⟩) ?_
  exact W.zret hx hb hr (pk_nc _) (fun t ht _ => ⟨rfl, ht⟩) (fun _ h => by cases h) st_dchr15
end STB
end
section
/-! Intrinsic steps of the abstract machine. Printed by wip/whole/gen_xt.py. -/
def tb_klL : List ((Nat × Nat) × Int64 × Nat) := [((6, 61), (4294967296 : Int64), 566), ((7, 125), (256 : Int64), 385), ((7, 136), (-1 : Int64), 402), ((7, 138), (63 : Int64), 428), ((8, 122), (-1 : Int64), 444), ((9, 128), (16 : Int64), 995), ((9, 130), (10 : Int64), 996), ((9, 132), (4294967296 : Int64), 997), ((9, 134), (32 : Int64), 1002), ((9, 136), (25456 : Int64), 1003), ((9, 142), (6580592 : Int64), 1008), ((9, 144), (500069396323 : Int64), 1009), ((9, 146), (1702132066 : Int64), 1010), ((9, 148), (1718378856 : Int64), 1011), ((9, 150), (6581359 : Int64), 1012), ((9, 152), (28258992578979939 : Int64), 1013), ((9, 182), (7 : Int64), 965), ((9, 196), (33 : Int64), 1040), ((9, 201), (255 : Int64), 1049), ((9, 243), (-1 : Int64), 1097), ((9, 256), (63 : Int64), 1109), ((9, 262), (1000 : Int64), 1054), ((9, 273), (5 : Int64), 1122), ((10, 65), (4294967295 : Int64), 1127)]
def tb_kl (o x : Nat) : Option Int64 := (tb_klL.find? (fun q => q.1.1 == o && q.1.2 == x)).map (fun q => q.2.1)
theorem tb_klA : ∀ q ∈ tb_klL, lw_tbl[q.2.2]? = some (Cond.constantLong (tb_nm q.1.1) q.1.2 q.2.1) := by decide +kernel
def tb_obL : List ((Nat × Nat) × Nat) := [((0, 3), 149), ((1, 1), 247), ((2, 3), 130), ((3, 1), 184), ((4, 3), 155), ((5, 3), 113), ((6, 3), 198), ((7, 3), 253), ((8, 1), 105), ((9, 1), 827)]
def tb_ob (o x : Nat) : Option Nat := (tb_obL.find? (fun q => q.1.1 == o && q.1.2 == x)).map (fun q => q.2)
theorem tb_obA : ∀ q ∈ tb_obL, lw_tbl[q.2]? = some (Cond.methodLink (tb_nm q.1.1) q.1.2 objectInit) := by decide +kernel
def tb_acL : List ((Nat × Nat) × Nat) := [((4, 32), 746), ((7, 61), 433)]
def tb_ac (o x : Nat) : Option Nat := (tb_acL.find? (fun q => q.1.1 == o && q.1.2 == x)).map (fun q => q.2)
theorem tb_acA : ∀ q ∈ tb_acL, lw_tbl[q.2]? = some (Cond.methodLink (tb_nm q.1.1) q.1.2 arraycopyName) := by decide +kernel
theorem xi_oi : Cond.instanceMethod objectInit ∈ tb_gd := tb_gd_in (i := 106) (by decide +kernel) rfl
set_option maxRecDepth 200000 in
theorem xi_oc : Cond.code objectInit ⟨#[0xb1]⟩ 1 none ∈ tb_gd := tb_gd_in (i := 107) rfl rfl
theorem xi_an : Cond.native arraycopyName ∈ tb_gd := tb_gd_in (i := 435) (by decide +kernel) rfl
theorem xi_as : Cond.static arraycopyName ∈ tb_gd := tb_gd_in (i := 434) (by decide +kernel) rfl
theorem xi_ai : Cond.initialized "java/lang/System" ∈ tb_gd := tb_gd_in (i := 98) (by decide +kernel) rfl
theorem xi_ml : Cond.methodLink "ConditionDesk$Tokens" 63 Lib.MathLoose.min_long.x ∈ tb_gd := tb_gd_in (i := 567) (by decide +kernel) rfl
theorem xi_ms : Cond.static Lib.MathLoose.min_long.x ∈ tb_gd := tb_gd_in (i := 568) (by decide +kernel) rfl
theorem xi_mi : Cond.initialized "java/lang/Math" ∈ tb_gd := tb_gd_in (i := 93) (by decide +kernel) rfl
set_option maxRecDepth 200000 in
theorem xi_mc : Cond.code Lib.MathLoose.min_long.x Lib.MathLoose.min_long.code 4 (some .long) ∈ tb_gd := tb_gd_in (i := 569) rfl rfl
def xm_cat (st : List Value) : Nat := (st.map (fun v => v.category)).sum
def xi_cp (tt : List FieldType) (A : xm_H) : List Value → xm_P
  | .int n :: .int dp :: .ref b :: .int sp :: .ref a :: rest => if xm_cat rest ≤ 8 ∧ ¬ sp < 0 ∧ ¬ dp < 0 ∧ ¬ n < 0 then (match A[a]?, A[b]? with
    | some (.inl (t0, n0, .inl f)), some (.inl (t1, n1, .inl g)) => if tt[t0]? = some .int ∧ tt[t1]? = some .int ∧ sp.toNatClampNeg + n.toNatClampNeg ≤ n0 ∧ dp.toNatClampNeg + n.toNatClampNeg ≤ n1 then some (rest, A.set b (.inl (t1, n1, .inl (va_cpy f g sp.toNatClampNeg dp.toNatClampNeg n.toNatClampNeg)))) else none
    | some (.inl (t0, n0, .inr (.inl f))), some (.inl (t1, n1, .inr (.inl g))) => if tt[t0]? = some .long ∧ tt[t1]? = some .long ∧ sp.toNatClampNeg + n.toNatClampNeg ≤ n0 ∧ dp.toNatClampNeg + n.toNatClampNeg ≤ n1 then some (rest, A.set b (.inl (t1, n1, .inr (.inl (va_cpy f g sp.toNatClampNeg dp.toNatClampNeg n.toNatClampNeg))))) else none
    | _, _ => none) else none
  | _ => none
def xi_lit (a : Nat) : Option Nat := if xm_K0 ≤ a ∧ a - xm_K0 < st_n then some (a - xm_K0) else none
def tb_xo (o : Nat) (i : Jvm.ClassFile.Instr) (n : Nat) (st : List Value) (A : xm_H) : xm_P :=
  match i with
  | .ldc2_w x => if n = 3 then (tb_kl o x).map (fun v => (.long v :: st, A)) else none
  | .ldc x => if n = 2 then (tb_sl o x).map (fun j => (.ref (xm_K0 + j) :: st, A)) else none
  | .invokespecial x => if n = 3 then (match st with
    | .ref _ :: rest => if (tb_ob o x).isSome = true ∧ xm_cat rest ≤ 8 then some (rest, A) else none
    | _ => none) else none
  | .invokestatic x => if n = 3 then (if o = 6 ∧ x = 63 then (match st with
    | .long b :: .long a :: rest => if xm_cat rest ≤ 8 then some (.long (if b < a then b else a) :: rest, A) else none
    | _ => none) else if (tb_ac o x).isSome = true then xi_cp tb_tt A st else none) else none
  | .invokevirtual x => if n = 3 ∧ o = 6 then (if x = 97 then (match st with
    | .ref q :: rest => if xm_cat rest ≤ 8 then (xi_lit q).map (fun j => (.int (nI (st_len.getD j 0)) :: rest, A)) else none
    | _ => none) else if x = 101 then (match st with
    | .int z :: .ref q :: rest => if xm_cat rest ≤ 8 then (match xi_lit q with
      | some j => (xm_ix z (st_len.getD j 0)).map (fun k => (.int (((st_byt.getD j []).getD k 0 &&& 255).toUInt32 % 65536).toInt32 :: rest, A))
      | none => none) else none
    | _ => none) else none) else none
  | _ => none
def tb_xt (k : Nat) : Jvm.ClassFile.Instr → Nat → List Value → xm_H → xm_P := tb_xo (tb_oc k)
theorem xi_cp_s {tt : List FieldType} {A A' : xm_H} {st st' : List Value} (h : xi_cp tt A st = some (st', A')) : ∃ n dp b sp a t0 n0 t1 n1, st = .int n :: .int dp :: .ref b :: .int sp :: .ref a :: st' ∧ xm_cat st' ≤ 8 ∧ ¬ sp < 0 ∧ ¬ dp < 0 ∧ ¬ n < 0 ∧ sp.toNatClampNeg + n.toNatClampNeg ≤ n0 ∧ dp.toNatClampNeg + n.toNatClampNeg ≤ n1 ∧ ((∃ f g, A[a]? = some (.inl (t0, n0, .inl f)) ∧ A[b]? = some (.inl (t1, n1, .inl g)) ∧ tt[t0]? = some .int ∧ tt[t1]? = some .int ∧ A.set b (.inl (t1, n1, .inl (va_cpy f g sp.toNatClampNeg dp.toNatClampNeg n.toNatClampNeg))) = A') ∨ (∃ f g, A[a]? = some (.inl (t0, n0, .inr (.inl f))) ∧ A[b]? = some (.inl (t1, n1, .inr (.inl g))) ∧ tt[t0]? = some .long ∧ tt[t1]? = some .long ∧ A.set b (.inl (t1, n1, .inr (.inl (va_cpy f g sp.toNatClampNeg dp.toNatClampNeg n.toNatClampNeg)))) = A')) := by
  unfold xi_cp at h
  split at h
  · obtain ⟨⟨h1, h2, h3, h4⟩, h⟩ := xm_if h
    split at h
    · obtain ⟨⟨h5, h6, h7, h8⟩, h⟩ := xm_if h
      simp only [Option.some.injEq, Prod.mk.injEq] at h
      obtain ⟨rfl, rfl⟩ := h
      exact ⟨_, _, _, _, _, _, _, _, _, rfl, h1, h2, h3, h4, h7, h8, Or.inl ⟨_, _, by assumption, by assumption, h5, h6, rfl⟩⟩
    · obtain ⟨⟨h5, h6, h7, h8⟩, h⟩ := xm_if h
      simp only [Option.some.injEq, Prod.mk.injEq] at h
      obtain ⟨rfl, rfl⟩ := h
      exact ⟨_, _, _, _, _, _, _, _, _, rfl, h1, h2, h3, h4, h7, h8, Or.inr ⟨_, _, by assumption, by assumption, h5, h6, rfl⟩⟩
    · cases h
  · cases h
theorem tb_xo_len {o : Nat} {i : Jvm.ClassFile.Instr} {n : Nat} {st st' : List Value} {A A' : xm_H} (h : tb_xo o i n st A = some (st', A')) : A'.length = A.length := by
  cases i
  case ldc2_w x => obtain ⟨-, h⟩ := xm_if h; obtain ⟨v, -, h⟩ := xm_map h; cases h; rfl
  case ldc x => obtain ⟨-, h⟩ := xm_if h; obtain ⟨v, -, h⟩ := xm_map h; cases h; rfl
  case invokespecial x =>
    simp only [tb_xo] at h
    obtain ⟨-, h⟩ := xm_if h
    split at h
    · obtain ⟨-, h⟩ := xm_if h; cases h; rfl
    · cases h
  case invokestatic x =>
    simp only [tb_xo] at h
    obtain ⟨-, h⟩ := xm_if h
    split at h
    · split at h
      · obtain ⟨-, h⟩ := xm_if h; cases h; rfl
      · cases h
    · obtain ⟨-, h⟩ := xm_if h
      obtain ⟨_, _, _, _, _, _, _, _, _, -, -, -, -, -, -, -, ⟨_, _, -, -, -, -, rfl⟩ | ⟨_, _, -, -, -, -, rfl⟩⟩ := xi_cp_s h
      · exact List.length_set
      · exact List.length_set
  case invokevirtual x =>
    simp only [tb_xo] at h
    obtain ⟨-, h⟩ := xm_if h
    split at h
    · split at h
      · obtain ⟨-, h⟩ := xm_if h; obtain ⟨v, -, h⟩ := xm_map h; cases h; rfl
      · cases h
    · obtain ⟨-, h⟩ := xm_if h
      split at h
      · obtain ⟨-, h⟩ := xm_if h
        split at h
        · obtain ⟨v, -, h⟩ := xm_map h; cases h; rfl
        · cases h
      · cases h
  all_goals exact absurd h (by simp [tb_xo])
theorem xi_lit_s {a j : Nat} (h : xi_lit a = some j) : xm_K0 ≤ a ∧ a = xm_K0 + j ∧ j < st_n := by
  unfold xi_lit at h
  obtain ⟨⟨h1, h2⟩, h⟩ := xm_if h
  have h3 := Option.some.inj h
  subst h3
  exact ⟨h1, by omega, h2⟩
theorem xm_cat_m (r : Nat → Nat) (st : List Value) : xm_cat (st.map (xm_v r)) = xm_cat st := by
  unfold xm_cat
  rw [List.map_map]
  simp only [Function.comp_def, xm_v_cat]
theorem xi_nw : nativeFrameWords "java/lang/System" "arraycopy" 5 ≤ 1000 := by decide +kernel
set_option maxRecDepth 100000 in
theorem xi_n1 {a b L : Nat} (h : a ≤ 8) (h1 : b ≤ 1000) (h2 : 2064 ≤ L) : a + (b + 11) ≤ L := by omega
set_option maxRecDepth 100000 in
theorem xi_n2 {a L : Nat} (h : a ≤ 8) (h2 : 2064 ≤ L) : a + 15 ≤ L := by omega
set_option maxRecDepth 100000 in
theorem xi_n3 {a L : Nat} (h : a ≤ 8) (h2 : 2064 ≤ L) : 2 * 0 + a + 12 ≤ L := by omega
set_option maxRecDepth 100000 in
theorem xi_n4 {d : Nat} : 2064 ≤ 64 * (d + 1) + 2000 := by omega
set_option maxRecDepth 100000 in
theorem xi_n5 {d a k : Nat} (ha : a ≤ 3) (hk : k ≤ 4) : 8 + (a + 11) + 40 * k ≤ 64 * (d + 1) + 2000 := by omega
section XTA
variable {p : Program} {l : Launch} {e : Env} {s : State} {m : MethodId} {args : Array Value} {below : List Frame} {meth : Method} {c : Code} {Q : State → Prop} {D : va_G} {tys : xm_T} {N0 : Nat} {adK adV : Nat → Nat} {k d c1 s1 : Nat}
set_option maxHeartbeats 4000000 in
set_option maxRecDepth 100000 in
theorem tb_XT {Ad : Nat → Prop} (hTT : xm_TT tb_tt tys) (hk : tb_mok k = true) (hAdN : ∀ q, Ad q → N0 ≤ q) (S : CallFix p m c (tb_mb k) (tb_mL k) s args (xm_ws tb_gd tb_my tb_mb tb_mL tb_mr k) (tb_my k).cls) (hG : tb_G (st_Z N0 adK adV) s) (hK : va_K D tb_cl tys s) (hN0 : N0 ≤ s.heap.size) : xm_XT p l e (xm_rm (d + 1) c1 s1) s m args below meth c Q (tb_mb k) (tb_mL k) D tb_cl tys Ad (fun j => adK (j - xm_K0)) (tb_xt k) := by
  intro i n pc st A st' A' r H locs lsR cells slots hrl h hdg hl hcl hsl hP hD hS kk
  have hx := S.1
  have hb := S.2.1
  have hml := S.2.2.1
  have hown := S.2.2.2.1
  have hts := S.2.2.2.2
  obtain ⟨-, -, hcls, -, -, -, -, -⟩ := tb_own hk
  have hgd : ∀ w ∈ tb_gd, w ∈ xm_ws tb_gd tb_my tb_mb tb_mL tb_mr k := fun w hw => List.mem_cons_of_mem _ hw
  have hg : ∀ w ∈ tb_gd, w.before args s = true := fun w hw => hts w (hgd w hw)
  have hZ := hG.2.2
  have hSN := xm_SN hAdN hS
  have h64 : 2064 ≤ (xm_rm (d + 1) c1 s1).locals := xi_n4
  have hfr1 : 1 ≤ (xm_rm (d + 1) c1 s1).frames := by show 1 ≤ d + 1 + 20; omega
  have hlit : ∀ j, r (xm_K0 + j) = adK j := fun j => by
    rw [hrl _ (Nat.le_add_right _ _)]
    show adK (xm_K0 + j - xm_K0) = adK j
    rw [Nat.add_sub_cancel_left]
  cases i
  case ldc2_w x =>
    obtain ⟨rfl, h0⟩ := xm_if h
    obtain ⟨v, hv, h1⟩ := xm_map h0
    cases h1
    obtain ⟨⟨⟨o, x'⟩, v', i'⟩, hm, hp, rfl⟩ := tb_find hv
    obtain ⟨rfl, rfl⟩ := tb_key hp
    exact lv_ldc2 hx hb hown (by rw [hcls]; exact hg _ (tb_gd_in (tb_klA _ hm) rfl)) hdg (kk H locs hP hD hS)
  case ldc x =>
    obtain ⟨rfl, h0⟩ := xm_if h
    obtain ⟨v, hv, h1⟩ := xm_map h0
    cases h1
    obtain ⟨⟨⟨o, x'⟩, j⟩, hm, hp, rfl⟩ := tb_find hv
    obtain ⟨rfl, rfl⟩ := tb_key hp
    have hq : ∀ q ∈ tb_slL, ∃ t, st_own[q.2]? = some (tb_nm q.1.1, q.1.2, t) := fun q hq => by
      have h9 : ∀ q ∈ tb_slL, (st_own[q.2]?).map (fun z => (z.1, z.2.1)) = some (tb_nm q.1.1, q.1.2) := by decide +kernel
      have h8 := h9 q hq
      cases h7 : st_own[q.2]? with
      | none => rw [h7] at h8; cases h8
      | some z =>
        rw [h7] at h8
        obtain ⟨z1, z2, z3⟩ := z
        cases h8
        exact ⟨z3, rfl⟩
    obtain ⟨t, ht⟩ := hq _ hm
    have hR := hZ.2.2.2.1 _ _ ht
    dsimp only at hR
    refine va_ldcS hx hb hown (by rw [hcls]; exact hR) hdg ?_
    have k9 := kk H locs hP hD hS
    have e9 : xm_v r (.ref (xm_K0 + j)) = .ref (adK j) := by show Value.ref (r _) = _; rw [hlit]
    rw [List.map_cons, e9] at k9
    exact k9
  case invokespecial x =>
    simp only [tb_xt, tb_xo] at h
    obtain ⟨rfl, h0⟩ := xm_if h
    split at h0
    · obtain ⟨⟨h1, h2⟩, h3⟩ := xm_if h0
      cases h3
      obtain ⟨v, hv⟩ := Option.isSome_iff_exists.mp h1
      obtain ⟨⟨⟨o, x'⟩, i'⟩, hm, hp, rfl⟩ := tb_find hv
      obtain ⟨rfl, rfl⟩ := tb_key hp
      exact W.objInit hx hb hown (by rw [hcls]; exact hg _ (tb_gd_in (tb_obA _ hm) rfl)) (hg _ xi_oi) (hg _ xi_oc) rfl (by rw [hml]; exact hl) rfl hdg hfr1 (xi_n3 (by rw [show ((st'.map (xm_v r)).map fun v => v.category).sum = xm_cat (st'.map (xm_v r)) from rfl, xm_cat_m]; exact h2) h64) (kk H locs hP hD hS)
    · cases h0
  case invokestatic x =>
    simp only [tb_xt, tb_xo] at h
    obtain ⟨rfl, h0⟩ := xm_if h
    split at h0
    · rename_i hox
      obtain ⟨ho, rfl⟩ := hox
      split at h0
      · obtain ⟨h2, h3⟩ := xm_if h0
        cases h3
        refine va_mmin_long hx hb (by rw [hml]; exact hl.symm) hown (by rw [hcls, ho]; exact hg _ xi_ml) (hg _ xi_ms) (hg _ xi_mi) (hg _ xi_mc) hfr1 (xi_n2 ?_ h64) hcl hsl hdg (kk H locs hP hD hS)
        exact Nat.le_trans (Nat.le_of_eq (xm_cat_m r _)) h2
      · cases h0
    · obtain ⟨h1, h2⟩ := xm_if h0
      obtain ⟨v, hv⟩ := Option.isSome_iff_exists.mp h1
      obtain ⟨⟨⟨o, x'⟩, i'⟩, hm, hp, rfl⟩ := tb_find hv
      obtain ⟨rfl, rfl⟩ := tb_key hp
      have hlk : (Cond.methodLink (tb_my k).cls x' arraycopyName).before args s = true := by rw [hcls]; exact hg _ (tb_gd_in (tb_acA _ hm) rfl)
      obtain ⟨n, dp, b, sp, a, t0, n0, t1, n1, rfl, hcat, q1, q2, q3, q4, q5, ⟨f, g, ha, hb2, ht0, ht1, rfl⟩ | ⟨f, g, ha, hb2, ht0, ht1, rfl⟩⟩ := xi_cp_s h2
      · have he := xm_w_set tys r A b (.inl (t1, n1, .inl (va_cpy f g sp.toNatClampNeg dp.toNatClampNeg n.toNatClampNeg)))
        exact va_copyi hx hb (by rw [hml]; exact hl.symm) hown hlk (hg _ xi_an) (hg _ xi_as) (hg _ xi_ai) hK hP hD hS a b t0 t1 (xm_w_get ha) (xm_w_get hb2) (hTT t0 _ ht0) (hTT t1 _ ht1) rfl q1 q2 q3 q4 q5 (fun _ _ => rfl) hfr1 (xi_n1 (Nat.le_trans (Nat.le_of_eq (xm_cat_m r _)) hcat) xi_nw h64) hdg (fun H1 locs1 a1 a2 a3 => kk H1 locs1 (he ▸ a1) (he ▸ a2) a3)
      · have he := xm_w_set tys r A b (.inl (t1, n1, .inr (.inl (va_cpy f g sp.toNatClampNeg dp.toNatClampNeg n.toNatClampNeg))))
        exact va_copyl hx hb (by rw [hml]; exact hl.symm) hown hlk (hg _ xi_an) (hg _ xi_as) (hg _ xi_ai) hK hP hD hS a b t0 t1 (xm_w_get ha) (xm_w_get hb2) (hTT t0 _ ht0) (hTT t1 _ ht1) rfl q1 q2 q3 q4 q5 (fun _ _ => rfl) hfr1 (xi_n1 (Nat.le_trans (Nat.le_of_eq (xm_cat_m r _)) hcat) xi_nw h64) hdg (fun H1 locs1 a1 a2 a3 => kk H1 locs1 (he ▸ a1) (he ▸ a2) a3)
  case invokevirtual x =>
    simp only [tb_xt, tb_xo] at h
    obtain ⟨⟨rfl, ho⟩, h0⟩ := xm_if h
    have hcl6 : (tb_my k).cls = "ConditionDesk$Tokens" := by rw [hcls, ho]; rfl
    split at h0
    · rename_i hx9
      subst hx9
      split at h0
      · rename_i q rest
        obtain ⟨hcat, h1⟩ := xm_if h0
        obtain ⟨j, hj, h2⟩ := xm_map h1
        cases h2
        obtain ⟨hq0, rfl, hjn⟩ := xi_lit_s hj
        have hrr : r (xm_K0 + j) = adK j := hlit j
        refine st_back (v := some (.int (nI (st_len.getD j 0)))) (va_runV (As := []) (b := adK j) (rest := rest.map (xm_v r)) (C := "java/lang/String") (own := (tb_my k).cls) S (st_mlen (l := l) (N0 := N0) (adK := adK) (adV := adV) hjn) ⟨⟨rfl, rfl, (by show 2 + 1 ≤ d + 1 + 20; omega), (by show 8 + (1 + 11) + 40 * 2 ≤ 64 * (d + 1) + 2000; exact xi_n5 (by decide) (by decide)), st_hws hts hgd st_clen, List.mem_cons_self, hg _ st_clen, hg _ st_nS, ⟨by decide, by decide⟩, fun sig h9 => (by rw [show parseMethodDescriptor st_ylen.desc = _ from rfl] at h9; cases h9; rfl), (by rw [hcl6]; exact hg _ st_l97len)⟩, hg _ st_ilen, hg _ st_slen⟩ ⟨fun a U g mk q => ⟨q.1, st_Z1 U g mk a q.2⟩, vk_recv hZ.1 hjn hSN, fun U hU hW => ⟨rfl, st_Z2 s U _ _ hZ hSN hU hW⟩⟩ rfl rfl hl (by show List.map (xm_v r) (.ref (xm_K0 + j) :: rest) = _; rw [List.map_cons]; show Value.ref (r (xm_K0 + j)) :: _ = _; rw [hrr]; rfl) (lv_room (Nat.le_trans (Nat.le_of_eq (xm_cat_m r rest)) hcat)) hdg ⟨hcl, hsl⟩) ?_
        exact kk H locs hP hD hS
      · cases h0
    · obtain ⟨hx9, h00⟩ := xm_if h0
      clear h0
      subst hx9
      split at h00
      · rename_i z q rest
        obtain ⟨hcat, h1⟩ := xm_if h00
        split at h1
        · rename_i j hj
          obtain ⟨kx, hkx, h2⟩ := xm_map h1
          cases h2
          obtain ⟨hin, rfl, -⟩ := xm_ix_s hkx
          obtain ⟨hq0, rfl, hjn⟩ := xi_lit_s hj
          have hrr : r (xm_K0 + j) = adK j := hlit j
          refine st_back (v := some (.int (((st_byt.getD j []).getD z.toNatClampNeg 0 &&& 255).toUInt32 % 65536).toInt32)) (va_runV (As := [.int z]) (b := adK j) (rest := rest.map (xm_v r)) (C := "java/lang/String") (own := (tb_my k).cls) S (st_mchr (l := l) (N0 := N0) (adK := adK) (adV := adV) hjn hin) ⟨⟨rfl, rfl, (by show 4 + 1 ≤ d + 1 + 20; omega), (by show 8 + (2 + 11) + 40 * 4 ≤ 64 * (d + 1) + 2000; exact xi_n5 (by decide) (by decide)), st_hws hts hgd st_cchr, List.mem_cons_self, hg _ st_cchr, hg _ st_nS, ⟨by decide, by decide⟩, fun sig h9 => (by rw [show parseMethodDescriptor st_ychr.desc = _ from rfl] at h9; cases h9; rfl), (by rw [hcl6]; exact hg _ st_l101chr)⟩, hg _ st_ichr, hg _ st_schr⟩ ⟨fun a U g mk q => ⟨q.1, st_Z1 U g mk a q.2⟩, vk_recv hZ.1 hjn hSN, fun U hU hW => ⟨rfl, st_Z2 s U _ _ hZ hSN hU hW⟩⟩ rfl rfl hl (by show List.map (xm_v r) (.int z :: .ref (xm_K0 + j) :: rest) = _; rw [List.map_cons, List.map_cons]; show Value.int z :: Value.ref (r (xm_K0 + j)) :: _ = _; rw [hrr]; rfl) (lv_room (Nat.le_trans (Nat.le_of_eq (xm_cat_m r rest)) hcat)) hdg ⟨hcl, hsl⟩) ?_
          exact kk H locs hP hD hS
        · cases h1
      · cases h00
  all_goals exact absurd h (by simp [tb_xt, tb_xo])
end XTA
end
section
/-! Throws of the class. Printed by wip/whole/gen_throw.py. -/
/-- throws: method, place; which (1: IllegalArgumentException, 2: IllegalStateException); the pool's entries -/
def tb_thL : List ((Nat × Nat) × Nat × Nat × Nat × Nat) := [((39, 10), 1, 53, 55, 57), ((85, 10), 1, 53, 55, 57), ((86, 10), 1, 53, 79, 57), ((88, 11), 1, 53, 88, 57), ((90, 21), 1, 53, 93, 57), ((90, 38), 2, 95, 97, 99), ((91, 10), 1, 53, 55, 57), ((91, 27), 2, 95, 97, 99), ((92, 19), 1, 53, 110, 57), ((92, 36), 2, 95, 97, 99)]
def tb_th (k pc : Nat) : Option Nat := (tb_thL.find? (fun q => q.1.1 == k && q.1.2 == pc)).map (fun q => q.2.1)
def th_X (x : Nat) : String := if x = 1 then "java/lang/IllegalArgumentException" else "java/lang/IllegalStateException"
def th_up : List String := ["java/lang/RuntimeException", "java/lang/Exception"]
def th_ok (w : Cond) : Prop := w ∈ tb_gd ∨ (w ∈ lw_tbl ∧ tb_isN w = true) ∨ w = .isRef (.static "java/lang/Throwable" "UNASSIGNED_STACK" "[Ljava/lang/StackTraceElement;") ∨ w = .isRef (.static "java/lang/Throwable" "SUPPRESSED_SENTINEL" "Ljava/util/List;") ∨ w = .castable "java/lang/IllegalArgumentException" "java/lang/IllegalArgumentException" ∨ w = .castable "java/lang/IllegalStateException" "java/lang/IllegalStateException" ∨ w = .laysStatic "java/lang/Throwable" "UNASSIGNED_STACK" "[Ljava/lang/StackTraceElement;" ∨ w = .laysStatic "java/lang/Throwable" "SUPPRESSED_SENTINEL" "Ljava/util/List;"
set_option maxRecDepth 200000 in
set_option maxHeartbeats 4000000 in
theorem th_a1 : ∀ w ∈ Jvm.Bundle.ownAtoms "ConditionDesk" 57 "java/lang/IllegalArgumentException" th_up, th_ok w := List.forall_mem_cons.mpr ⟨Or.inl (tb_gd_in (i := 89) rfl rfl), List.forall_mem_cons.mpr ⟨Or.inl (tb_gd_in (i := 479) rfl rfl), List.forall_mem_cons.mpr ⟨Or.inl (tb_gd_in (i := 488) rfl rfl), List.forall_mem_cons.mpr ⟨Or.inl (tb_gd_in (i := 491) rfl rfl), List.forall_mem_cons.mpr ⟨Or.inl (tb_gd_in (i := 494) rfl rfl), List.forall_mem_cons.mpr ⟨Or.inl (tb_gd_in (i := 496) rfl rfl), List.forall_mem_cons.mpr ⟨Or.inl (tb_gd_in (i := 480) rfl rfl), List.forall_mem_cons.mpr ⟨Or.inl (tb_gd_in (i := 481) rfl rfl), List.forall_mem_cons.mpr ⟨Or.inl (tb_gd_in (i := 106) rfl rfl), List.forall_mem_cons.mpr ⟨Or.inl (tb_gd_in (i := 107) rfl rfl), List.forall_mem_cons.mpr ⟨Or.inl (tb_gd_in (i := 482) rfl rfl), List.forall_mem_cons.mpr ⟨Or.inl (tb_gd_in (i := 487) rfl rfl), List.forall_mem_cons.mpr ⟨Or.inl (tb_gd_in (i := 492) rfl rfl), List.forall_mem_cons.mpr ⟨Or.inl (tb_gd_in (i := 512) rfl rfl), List.forall_mem_cons.mpr ⟨Or.inl (tb_gd_in (i := 469) rfl rfl), List.forall_mem_cons.mpr ⟨Or.inl (tb_gd_in (i := 513) rfl rfl), List.forall_mem_cons.mpr ⟨Or.inl (tb_gd_in (i := 471) rfl rfl), List.forall_mem_cons.mpr ⟨Or.inl (tb_gd_in (i := 514) rfl rfl), List.forall_mem_cons.mpr ⟨Or.inl (tb_gd_in (i := 473) rfl rfl), List.forall_mem_cons.mpr ⟨Or.inl (tb_gd_in (i := 483) rfl rfl), List.forall_mem_cons.mpr ⟨Or.inr (Or.inr (Or.inr (Or.inr (Or.inr (Or.inr (Or.inl rfl)))))), List.forall_mem_cons.mpr ⟨Or.inl (tb_gd_in (i := 485) rfl rfl), List.forall_mem_cons.mpr ⟨Or.inr (Or.inr (Or.inr (Or.inr (Or.inr (Or.inr (Or.inr rfl)))))), List.forall_mem_cons.mpr ⟨Or.inl (tb_gd_in (i := 475) rfl rfl), List.forall_mem_cons.mpr ⟨Or.inl (tb_gd_in (i := 508) rfl rfl), List.forall_mem_cons.mpr ⟨Or.inl (tb_gd_in (i := 509) rfl rfl), List.forall_mem_cons.mpr ⟨Or.inl (tb_gd_in (i := 511) rfl rfl), List.forall_mem_cons.mpr ⟨Or.inl (tb_gd_in (i := 475) rfl rfl), List.forall_mem_cons.mpr ⟨Or.inl (tb_gd_in (i := 499) rfl rfl), List.forall_mem_cons.mpr ⟨Or.inl (tb_gd_in (i := 500) rfl rfl), List.forall_mem_cons.mpr ⟨Or.inl (tb_gd_in (i := 501) rfl rfl), List.forall_mem_cons.mpr ⟨Or.inl (tb_gd_in (i := 502) rfl rfl), List.forall_mem_cons.mpr ⟨Or.inr (Or.inl ⟨List.mem_of_getElem? (i := 461) rfl, rfl⟩), List.forall_mem_cons.mpr ⟨Or.inl (tb_gd_in (i := 502) rfl rfl), List.forall_mem_cons.mpr ⟨Or.inl (tb_gd_in (i := 503) rfl rfl), List.forall_mem_cons.mpr ⟨Or.inl (tb_gd_in (i := 504) rfl rfl), List.forall_mem_cons.mpr ⟨Or.inl (tb_gd_in (i := 505) rfl rfl), List.forall_mem_cons.mpr ⟨Or.inr (Or.inl ⟨List.mem_of_getElem? (i := 463) rfl, rfl⟩), List.forall_mem_cons.mpr ⟨Or.inl (tb_gd_in (i := 505) rfl rfl), List.forall_mem_cons.mpr ⟨Or.inl (tb_gd_in (i := 506) rfl rfl), List.forall_mem_cons.mpr ⟨Or.inl (tb_gd_in (i := 507) rfl rfl), List.forall_mem_cons.mpr ⟨Or.inl (tb_gd_in (i := 508) rfl rfl), List.forall_mem_cons.mpr ⟨Or.inr (Or.inl ⟨List.mem_of_getElem? (i := 465) rfl, rfl⟩), List.forall_mem_cons.mpr ⟨Or.inl (tb_gd_in (i := 498) rfl rfl), List.forall_mem_cons.mpr ⟨Or.inl (tb_gd_in (i := 458) rfl rfl), List.forall_mem_cons.mpr ⟨Or.inr (Or.inr (Or.inr (Or.inr (Or.inl rfl)))), List.forall_mem_cons.mpr ⟨Or.inl (tb_gd_in (i := 466) rfl rfl), List.forall_mem_cons.mpr ⟨Or.inl (tb_gd_in (i := 467) rfl rfl), List.forall_mem_cons.mpr ⟨Or.inl (tb_gd_in (i := 468) rfl rfl), List.forall_mem_cons.mpr ⟨Or.inl (tb_gd_in (i := 470) rfl rfl), List.forall_mem_cons.mpr ⟨Or.inl (tb_gd_in (i := 472) rfl rfl), List.forall_mem_cons.mpr ⟨Or.inl (tb_gd_in (i := 474) rfl rfl), List.forall_mem_cons.mpr ⟨Or.inr (Or.inr (Or.inl rfl)), List.forall_mem_cons.mpr ⟨Or.inr (Or.inr (Or.inr (Or.inl rfl))), List.forall_mem_cons.mpr ⟨Or.inl (tb_gd_in (i := 478) rfl rfl), List.forall_mem_cons.mpr ⟨Or.inl (tb_gd_in (i := 477) rfl rfl), List.forall_mem_cons.mpr ⟨Or.inl (tb_gd_in (i := 476) rfl rfl), fun _ h => absurd h List.not_mem_nil⟩⟩⟩⟩⟩⟩⟩⟩⟩⟩⟩⟩⟩⟩⟩⟩⟩⟩⟩⟩⟩⟩⟩⟩⟩⟩⟩⟩⟩⟩⟩⟩⟩⟩⟩⟩⟩⟩⟩⟩⟩⟩⟩⟩⟩⟩⟩⟩⟩⟩⟩⟩⟩⟩⟩⟩⟩
theorem th_c1 : Cond.classLink "ConditionDesk" 53 "java/lang/IllegalArgumentException" ∈ tb_gd := tb_gd_in (i := 457) (by decide +kernel) rfl
theorem th_i1 : Cond.instantiable "java/lang/IllegalArgumentException" 6 ∈ tb_gd := tb_gd_in (i := 458) (by decide +kernel) rfl
theorem th_n1 : Cond.initialized "java/lang/IllegalArgumentException" ∈ tb_gd := tb_gd_in (i := 92) (by decide +kernel) rfl
set_option maxRecDepth 200000 in
set_option maxHeartbeats 4000000 in
theorem th_a2 : ∀ w ∈ Jvm.Bundle.ownAtoms "ConditionDesk" 99 "java/lang/IllegalStateException" th_up, th_ok w := List.forall_mem_cons.mpr ⟨Or.inl (tb_gd_in (i := 89) rfl rfl), List.forall_mem_cons.mpr ⟨Or.inl (tb_gd_in (i := 479) rfl rfl), List.forall_mem_cons.mpr ⟨Or.inl (tb_gd_in (i := 488) rfl rfl), List.forall_mem_cons.mpr ⟨Or.inl (tb_gd_in (i := 491) rfl rfl), List.forall_mem_cons.mpr ⟨Or.inl (tb_gd_in (i := 494) rfl rfl), List.forall_mem_cons.mpr ⟨Or.inl (tb_gd_in (i := 496) rfl rfl), List.forall_mem_cons.mpr ⟨Or.inl (tb_gd_in (i := 480) rfl rfl), List.forall_mem_cons.mpr ⟨Or.inl (tb_gd_in (i := 481) rfl rfl), List.forall_mem_cons.mpr ⟨Or.inl (tb_gd_in (i := 106) rfl rfl), List.forall_mem_cons.mpr ⟨Or.inl (tb_gd_in (i := 107) rfl rfl), List.forall_mem_cons.mpr ⟨Or.inl (tb_gd_in (i := 482) rfl rfl), List.forall_mem_cons.mpr ⟨Or.inl (tb_gd_in (i := 487) rfl rfl), List.forall_mem_cons.mpr ⟨Or.inl (tb_gd_in (i := 492) rfl rfl), List.forall_mem_cons.mpr ⟨Or.inl (tb_gd_in (i := 512) rfl rfl), List.forall_mem_cons.mpr ⟨Or.inl (tb_gd_in (i := 469) rfl rfl), List.forall_mem_cons.mpr ⟨Or.inl (tb_gd_in (i := 513) rfl rfl), List.forall_mem_cons.mpr ⟨Or.inl (tb_gd_in (i := 471) rfl rfl), List.forall_mem_cons.mpr ⟨Or.inl (tb_gd_in (i := 514) rfl rfl), List.forall_mem_cons.mpr ⟨Or.inl (tb_gd_in (i := 473) rfl rfl), List.forall_mem_cons.mpr ⟨Or.inl (tb_gd_in (i := 483) rfl rfl), List.forall_mem_cons.mpr ⟨Or.inr (Or.inr (Or.inr (Or.inr (Or.inr (Or.inr (Or.inl rfl)))))), List.forall_mem_cons.mpr ⟨Or.inl (tb_gd_in (i := 485) rfl rfl), List.forall_mem_cons.mpr ⟨Or.inr (Or.inr (Or.inr (Or.inr (Or.inr (Or.inr (Or.inr rfl)))))), List.forall_mem_cons.mpr ⟨Or.inl (tb_gd_in (i := 475) rfl rfl), List.forall_mem_cons.mpr ⟨Or.inl (tb_gd_in (i := 508) rfl rfl), List.forall_mem_cons.mpr ⟨Or.inl (tb_gd_in (i := 509) rfl rfl), List.forall_mem_cons.mpr ⟨Or.inl (tb_gd_in (i := 511) rfl rfl), List.forall_mem_cons.mpr ⟨Or.inl (tb_gd_in (i := 475) rfl rfl), List.forall_mem_cons.mpr ⟨Or.inl (tb_gd_in (i := 798) rfl rfl), List.forall_mem_cons.mpr ⟨Or.inl (tb_gd_in (i := 799) rfl rfl), List.forall_mem_cons.mpr ⟨Or.inl (tb_gd_in (i := 800) rfl rfl), List.forall_mem_cons.mpr ⟨Or.inl (tb_gd_in (i := 502) rfl rfl), List.forall_mem_cons.mpr ⟨Or.inr (Or.inl ⟨List.mem_of_getElem? (i := 461) rfl, rfl⟩), List.forall_mem_cons.mpr ⟨Or.inl (tb_gd_in (i := 502) rfl rfl), List.forall_mem_cons.mpr ⟨Or.inl (tb_gd_in (i := 503) rfl rfl), List.forall_mem_cons.mpr ⟨Or.inl (tb_gd_in (i := 504) rfl rfl), List.forall_mem_cons.mpr ⟨Or.inl (tb_gd_in (i := 505) rfl rfl), List.forall_mem_cons.mpr ⟨Or.inr (Or.inl ⟨List.mem_of_getElem? (i := 463) rfl, rfl⟩), List.forall_mem_cons.mpr ⟨Or.inl (tb_gd_in (i := 505) rfl rfl), List.forall_mem_cons.mpr ⟨Or.inl (tb_gd_in (i := 506) rfl rfl), List.forall_mem_cons.mpr ⟨Or.inl (tb_gd_in (i := 507) rfl rfl), List.forall_mem_cons.mpr ⟨Or.inl (tb_gd_in (i := 508) rfl rfl), List.forall_mem_cons.mpr ⟨Or.inr (Or.inl ⟨List.mem_of_getElem? (i := 465) rfl, rfl⟩), List.forall_mem_cons.mpr ⟨Or.inl (tb_gd_in (i := 797) rfl rfl), List.forall_mem_cons.mpr ⟨Or.inl (tb_gd_in (i := 788) rfl rfl), List.forall_mem_cons.mpr ⟨Or.inr (Or.inr (Or.inr (Or.inr (Or.inr (Or.inl rfl))))), List.forall_mem_cons.mpr ⟨Or.inl (tb_gd_in (i := 790) rfl rfl), List.forall_mem_cons.mpr ⟨Or.inl (tb_gd_in (i := 490) rfl rfl), List.forall_mem_cons.mpr ⟨Or.inl (tb_gd_in (i := 791) rfl rfl), List.forall_mem_cons.mpr ⟨Or.inl (tb_gd_in (i := 792) rfl rfl), List.forall_mem_cons.mpr ⟨Or.inl (tb_gd_in (i := 793) rfl rfl), List.forall_mem_cons.mpr ⟨Or.inl (tb_gd_in (i := 794) rfl rfl), List.forall_mem_cons.mpr ⟨Or.inr (Or.inr (Or.inl rfl)), List.forall_mem_cons.mpr ⟨Or.inr (Or.inr (Or.inr (Or.inl rfl))), List.forall_mem_cons.mpr ⟨Or.inl (tb_gd_in (i := 478) rfl rfl), List.forall_mem_cons.mpr ⟨Or.inl (tb_gd_in (i := 477) rfl rfl), List.forall_mem_cons.mpr ⟨Or.inl (tb_gd_in (i := 795) rfl rfl), fun _ h => absurd h List.not_mem_nil⟩⟩⟩⟩⟩⟩⟩⟩⟩⟩⟩⟩⟩⟩⟩⟩⟩⟩⟩⟩⟩⟩⟩⟩⟩⟩⟩⟩⟩⟩⟩⟩⟩⟩⟩⟩⟩⟩⟩⟩⟩⟩⟩⟩⟩⟩⟩⟩⟩⟩⟩⟩⟩⟩⟩⟩⟩
theorem th_c2 : Cond.classLink "ConditionDesk" 95 "java/lang/IllegalStateException" ∈ tb_gd := tb_gd_in (i := 787) (by decide +kernel) rfl
theorem th_i2 : Cond.instantiable "java/lang/IllegalStateException" 6 ∈ tb_gd := tb_gd_in (i := 788) (by decide +kernel) rfl
theorem th_n2 : Cond.initialized "java/lang/IllegalStateException" ∈ tb_gd := tb_gd_in (i := 99) (by decide +kernel) rfl
theorem th_isRef {C n d : String} {A : Nat → Prop} {U : State} {args : Array Value} (h : va_Zq C n d A U U.heap) : (Cond.isRef (.static C n d)).before args U = true := by
  rcases h with h | ⟨t, h⟩
  · obtain ⟨cf, kf, fi, f, a, cell, h1, h2, h3, h4, h5, h6, h7, h8⟩ := h
    simp [Cond.before, Cond.holds, Cond.value, Term.eval, State.fieldNamed?, h1, h2, h4, h5, h6, h7]
  · obtain ⟨cf, kf, fi, f, a, cell, h1, h2, h3, h4, h5, h6, h7, h8⟩ := h
    simp [Cond.before, Cond.holds, Cond.value, Term.eval, State.fieldNamed?, h1, h2, h4, h5, h6, h7]
theorem th_cast {X : String} {s : State} {args : Array Value} (h : (Cond.instantiable X 6).before args s = true) : (Cond.castable X X).before args s = true := by
  obtain ⟨c, k, hc, hk, -⟩ := Cond.instantiable_spec h
  simp [Cond.before, Cond.holds, Cond.value, hc, hk, va_asg]
theorem th_hat {N0 : Nat} {adK adV : Nat → Nat} {s : State} {args : Array Value} (hg : ∀ w ∈ tb_gd, w.before args s = true) (hG : tb_G (st_Z N0 adK adV) s) {w : Cond} (h : th_ok w) : w.before args s = true := by
  have hZ := hG.2.2
  rcases h with h | ⟨h, hn⟩ | rfl | rfl | rfl | rfl | rfl | rfl
  · exact hg w h
  · have h1 := hG.1 w h hn
    cases w <;> first | exact va_Nw.use rfl h1 | cases hn
  · exact th_isRef hZ.2.2.2.2.1
  · exact th_isRef hZ.2.2.2.2.2.1
  · exact th_cast (hg _ th_i1)
  · exact th_cast (hg _ th_i2)
  · exact hZ.2.2.2.2.2.2.1.use
  · exact hZ.2.2.2.2.2.2.2.use
section THA
variable {p : Program} {l : Launch} {e : Env} {R : Room} {s : State} {m : MethodId} {args : Array Value} {below : List Frame} {meth : Method} {c : Code} {Q : State → Prop} {cc : ByteArray} {pc nL : Nat} {lsR : Array Slot} {st : List Value}
set_option maxHeartbeats 4000000 in
theorem th_walk {own X tx : String} {names : List String} {ni si ii q : Nat} (hx : p.tables.exec = Jvm.exec) (hb : c.code = cc) (hml : c.maxLocals = nL) (hown : s.vm.findClass own = some m.cls) (hlocks : meth.locks = false) (hexc : c.exceptionTable.isEmpty = true) (htr : e.platform.stackTraces = false) (hl : lsR.size = nL)
    (hd0 : decode cc pc = .ok (.new ni, 3)) (hd3 : decode cc (pc + 3) = .ok (.dup, 1)) (hd4 : decode cc (pc + 4) = .ok (.ldc si, 2)) (hd6 : decode cc (pc + 6) = .ok (.invokespecial ii, 3)) (hd9 : decode cc (pc + 9) = .ok (.athrow, 1))
    (hcl : (Cond.classLink own ni X).before args s = true) (hinst : (Cond.instantiable X 6).before args s = true) (hini : (Cond.initialized X).before args s = true) (hR : vk_R own si tx q s)
    (hat : ∀ a ∈ Jvm.Bundle.ownAtoms own ii X names, a.before args s = true) (hX : Jvm.Bundle.fit X = true) (hnm : ∀ n ∈ names, Jvm.Bundle.fit n = true)
    (hRf : names.length + 3 < R.frames) (hRl : xm_cat st + 1 + (13 * (names.length + 1) + 42) ≤ R.locals) (hRc : 1 ≤ R.cells) (hRs : 6 ≤ R.slots)
    (hQ : ∀ (U : State) (a : Nat) (ce : Cell), U.status = .running → Ended U below (.threw a) → s.WarmedH U.vm → s.sameButNew ({ U with vm := s.vm } : State) [] 1 6 → U.heap[a]? = some ce → s.vm.findClass X = some ce.cls → ce.vm = .none → Q U) :
    W p l e R s m args below meth c s.heap [] 0 0 Q (F0 m pc lsR st) := by
  refine W.newc hx hb hown hcl hinst hini rfl hd0 (by omega) (by omega) (fun cC kC h1 h2 h3 h4 => ?_)
  refine lv_dup hx hb hd3 rfl ?_
  refine va_ldcS hx hb hown hR hd4 ?_
  intro T hT X'
  obtain ⟨U, hsteps, hrun, hend, hW, hsame, ce, hce, K⟩ := X'.ctorThrowS hx htr (own := own) (cls := X) (names := names) (ic := ii) hown hX hnm hat (fun x hx => by cases hx) (a := s.heap.size) (cX := cC) (kX := kC) h1 h2 (by rw [hT]; simp) (Nat.le_refl _) (msg := .ref q) rfl (g := F0 m (pc + 6) lsR (.ref q :: .ref s.heap.size :: .ref s.heap.size :: st)) rfl (by rw [hml]; exact hl) rfl rfl (rest := st) rfl (by rw [hb]; exact hd6) (by rw [hb]; exact hd9)
    (fun x hx => by rw [Array.isEmpty_iff.mp hexc] at hx; cases hx) hRf (by show 2 * 0 + (1 + xm_cat st) + _ ≤ _; omega) (hlocks := hlocks)
  refine ⟨U, hsteps, hQ U _ ce hrun hend hW (by simpa using hsame) hce K.cls K.vm⟩
end THA
theorem th_d39_10 : decode (tb_mb 39) 10 = .ok (.new 53, 3) ∧ decode (tb_mb 39) 13 = .ok (.dup, 1) ∧ decode (tb_mb 39) 14 = .ok (.ldc 55, 2) ∧ decode (tb_mb 39) 16 = .ok (.invokespecial 57, 3) ∧ decode (tb_mb 39) 19 = .ok (.athrow, 1) := by decide +kernel
theorem th_d85_10 : decode (tb_mb 85) 10 = .ok (.new 53, 3) ∧ decode (tb_mb 85) 13 = .ok (.dup, 1) ∧ decode (tb_mb 85) 14 = .ok (.ldc 55, 2) ∧ decode (tb_mb 85) 16 = .ok (.invokespecial 57, 3) ∧ decode (tb_mb 85) 19 = .ok (.athrow, 1) := by decide +kernel
theorem th_d86_10 : decode (tb_mb 86) 10 = .ok (.new 53, 3) ∧ decode (tb_mb 86) 13 = .ok (.dup, 1) ∧ decode (tb_mb 86) 14 = .ok (.ldc 79, 2) ∧ decode (tb_mb 86) 16 = .ok (.invokespecial 57, 3) ∧ decode (tb_mb 86) 19 = .ok (.athrow, 1) := by decide +kernel
theorem th_d88_11 : decode (tb_mb 88) 11 = .ok (.new 53, 3) ∧ decode (tb_mb 88) 14 = .ok (.dup, 1) ∧ decode (tb_mb 88) 15 = .ok (.ldc 88, 2) ∧ decode (tb_mb 88) 17 = .ok (.invokespecial 57, 3) ∧ decode (tb_mb 88) 20 = .ok (.athrow, 1) := by decide +kernel
theorem th_d90_21 : decode (tb_mb 90) 21 = .ok (.new 53, 3) ∧ decode (tb_mb 90) 24 = .ok (.dup, 1) ∧ decode (tb_mb 90) 25 = .ok (.ldc 93, 2) ∧ decode (tb_mb 90) 27 = .ok (.invokespecial 57, 3) ∧ decode (tb_mb 90) 30 = .ok (.athrow, 1) := by decide +kernel
theorem th_d90_38 : decode (tb_mb 90) 38 = .ok (.new 95, 3) ∧ decode (tb_mb 90) 41 = .ok (.dup, 1) ∧ decode (tb_mb 90) 42 = .ok (.ldc 97, 2) ∧ decode (tb_mb 90) 44 = .ok (.invokespecial 99, 3) ∧ decode (tb_mb 90) 47 = .ok (.athrow, 1) := by decide +kernel
theorem th_d91_10 : decode (tb_mb 91) 10 = .ok (.new 53, 3) ∧ decode (tb_mb 91) 13 = .ok (.dup, 1) ∧ decode (tb_mb 91) 14 = .ok (.ldc 55, 2) ∧ decode (tb_mb 91) 16 = .ok (.invokespecial 57, 3) ∧ decode (tb_mb 91) 19 = .ok (.athrow, 1) := by decide +kernel
theorem th_d91_27 : decode (tb_mb 91) 27 = .ok (.new 95, 3) ∧ decode (tb_mb 91) 30 = .ok (.dup, 1) ∧ decode (tb_mb 91) 31 = .ok (.ldc 97, 2) ∧ decode (tb_mb 91) 33 = .ok (.invokespecial 99, 3) ∧ decode (tb_mb 91) 36 = .ok (.athrow, 1) := by decide +kernel
theorem th_d92_19 : decode (tb_mb 92) 19 = .ok (.new 53, 3) ∧ decode (tb_mb 92) 22 = .ok (.dup, 1) ∧ decode (tb_mb 92) 23 = .ok (.ldc 110, 2) ∧ decode (tb_mb 92) 25 = .ok (.invokespecial 57, 3) ∧ decode (tb_mb 92) 28 = .ok (.athrow, 1) := by decide +kernel
theorem th_d92_36 : decode (tb_mb 92) 36 = .ok (.new 95, 3) ∧ decode (tb_mb 92) 39 = .ok (.dup, 1) ∧ decode (tb_mb 92) 40 = .ok (.ldc 97, 2) ∧ decode (tb_mb 92) 42 = .ok (.invokespecial 99, 3) ∧ decode (tb_mb 92) 45 = .ok (.athrow, 1) := by decide +kernel
def th_D (q : (Nat × Nat) × Nat × Nat × Nat × Nat) : Prop := decode (tb_mb q.1.1) q.1.2 = .ok (.new q.2.2.1, 3) ∧ decode (tb_mb q.1.1) (q.1.2 + 3) = .ok (.dup, 1) ∧ decode (tb_mb q.1.1) (q.1.2 + 4) = .ok (.ldc q.2.2.2.1, 2) ∧ decode (tb_mb q.1.1) (q.1.2 + 6) = .ok (.invokespecial q.2.2.2.2, 3) ∧ decode (tb_mb q.1.1) (q.1.2 + 9) = .ok (.athrow, 1)
theorem th_dA : ∀ q ∈ tb_thL, th_D q := List.forall_mem_cons.mpr ⟨th_d39_10, List.forall_mem_cons.mpr ⟨th_d85_10, List.forall_mem_cons.mpr ⟨th_d86_10, List.forall_mem_cons.mpr ⟨th_d88_11, List.forall_mem_cons.mpr ⟨th_d90_21, List.forall_mem_cons.mpr ⟨th_d90_38, List.forall_mem_cons.mpr ⟨th_d91_10, List.forall_mem_cons.mpr ⟨th_d91_27, List.forall_mem_cons.mpr ⟨th_d92_19, List.forall_mem_cons.mpr ⟨th_d92_36, fun _ h => absurd h List.not_mem_nil⟩⟩⟩⟩⟩⟩⟩⟩⟩⟩
theorem th_sA : ∀ q ∈ tb_thL, (st_own.any (fun z => z.1 == "ConditionDesk" && z.2.1 == q.2.2.2.1)) = true ∧ tb_oc q.1.1 = 8 ∧ (q.2.1 = 1 ∧ q.2.2.1 = 53 ∧ q.2.2.2.2 = 57 ∨ q.2.1 = 2 ∧ q.2.2.1 = 95 ∧ q.2.2.2.2 = 99) := by decide +kernel
end
section
/-! A read-only run: the heap and what was written stay as they are; it returns, or throws. -/
def xm_hr (tt : List FieldType) (fr : Nat → Option (Nat × Nat × Bool)) (i : Jvm.ClassFile.Instr) (n : Nat) (st : List Value) (A : xm_H) : Option (List Value) :=
  match i with
  | .getfield x => if n = 3 then (xm_gf (fr x) A st).map (fun q => q.1) else none
  | .iaload => if n = 1 then (xm_ai tt .int A st).map (fun q => q.1) else none
  | .aaload => if n = 1 then (xm_aq tt A st).map (fun q => q.1) else none
  | .arraylength => if n = 1 then (xm_an tt A st).map (fun q => q.1) else none
  | _ => none
section XRA
variable {p : Program} {l : Launch} {e : Env} {R : Room} {s : State} {m : MethodId} {args : Array Value} {below : List Frame} {meth : Method} {c : Code} {H : Heap} {locs : List Loc} {cells slots : Nat} {Q : State → Prop}
variable {cc : ByteArray} {pc n : Nat} {lsR : Array Slot} {r : Nat → Nat} {st st' : List Value} {A : xm_H}
variable {cl : List vw_C} {tt : List FieldType} {fr : Nat → Option (Nat × Nat × Bool)} {Ts : List Cond} {own : String} {D : va_G} {tys : xm_T}
set_option maxHeartbeats 4000000 in
theorem xm_hr_ok {i : Jvm.ClassFile.Instr} (hx : p.tables.exec = Jvm.exec) (hb : c.code = cc) (h : xm_hr tt fr i n st A = some st') (hdg : decode cc pc = .ok (i, n)) (hts : ∀ w ∈ Ts, w.before args s = true) (hown : s.vm.findClass own = some m.cls)
    (hFR : xm_FR cl Ts own args s fr) (hTT : xm_TT tt tys) (hK : va_K D cl tys s) (hP : va_P D cl (xm_w tys r A) H)
    (k : W p l e R s m args below meth c H locs cells slots Q (F0 m (pc + n) lsR (st'.map (xm_v r)))) : W p l e R s m args below meth c H locs cells slots Q (F0 m pc lsR (st.map (xm_v r))) := by
  cases i
  case getfield x =>
    obtain ⟨rfl, h0⟩ := xm_if h
    obtain ⟨⟨_, A'⟩, h1, rfl⟩ := xm_map h0
    obtain ⟨a, t, ci, kk, b, fs, v, rfl, hq, ha, hv, rfl, rfl⟩ := xm_gf_s h1
    obtain ⟨C, T, N, hc, hk, hin, hl0, hl1⟩ := hFR _ _ _ _ hq
    cases b with
    | false => exact va_get (v := xm_v r v) hx hb hts hin hown hK hP a (xm_w_get ha) hc kk hk (hl0 rfl) (fun _ h9 => h9) (by rw [List.getElem?_map, hv]; rfl) hdg k
    | true =>
      obtain ⟨host, hl⟩ := hl1 rfl
      exact va_getN (v := xm_v r v) hx hb hts hin hown hK hP a (xm_w_get ha) hc kk hk hl (fun _ h9 => h9) (by rw [List.getElem?_map, hv]; rfl) hdg k
  case iaload =>
    obtain ⟨rfl, h0⟩ := xm_if h
    obtain ⟨⟨_, A'⟩, h1, rfl⟩ := xm_map h0
    obtain ⟨j, a, u, t, N, f, rfl, ha, ht, hin, rfl, rfl⟩ := xm_ai_s h1
    exact va_iald hx hb hK hP a t (xm_w_get ha) (hTT t _ ht) hin hdg k
  case aaload =>
    obtain ⟨rfl, h0⟩ := xm_if h
    obtain ⟨⟨_, A'⟩, h1, rfl⟩ := xm_map h0
    obtain ⟨j, a, u, t, N, f, C, rfl, ha, ht, hin, rfl, rfl⟩ := xm_aq_s h1
    have hlt : j.toNatClampNeg < N := Nat.not_le.mp fun q => hin (Or.inr q)
    refine va_aldq hx hb hK hP a t (xm_w_get ha) (hTT t _ ht) hin hdg ?_
    have e9 : va_rf (if j.toNatClampNeg < N then (f j.toNatClampNeg).map r else none) = xm_v r (va_rf (f j.toNatClampNeg)) := by
      rw [if_pos hlt]
      cases f j.toNatClampNeg <;> rfl
    show W p l e R s m args below meth c H locs cells slots Q (F0 m (pc + 1) lsR (va_rf (if j.toNatClampNeg < N then (f j.toNatClampNeg).map r else none) :: u.map (xm_v r)))
    rw [e9]
    exact k
  case arraylength =>
    obtain ⟨rfl, h0⟩ := xm_if h
    obtain ⟨⟨_, A'⟩, h1, rfl⟩ := xm_map h0
    obtain ⟨a, u, t, x, rfl, ha, ht, rfl, rfl⟩ := xm_an_s h1
    have hty : tt[t]? = some tt[t] := List.getElem?_eq_getElem ht
    obtain ⟨N, f | f | f | f | f⟩ := x
    · exact va_alen hx hb hK hP a t (xm_w_get ha) (hTT t _ hty) rfl hdg k
    · exact va_alen hx hb hK hP a t (xm_w_get ha) (hTT t _ hty) rfl hdg k
    · exact va_alen hx hb hK hP a t (xm_w_get ha) (hTT t _ hty) rfl hdg k
    · exact va_alen hx hb hK hP a t (xm_w_get ha) (hTT t _ hty) rfl hdg k
    · exact va_alen hx hb hK hP a t (xm_w_get ha) (hTT t _ hty) rfl hdg k
  all_goals exact absurd h (by simp [xm_hr])
end XRA
section XRB
variable {p : Program} {l : Launch} {e : Env} {R : Room} {s : State} {m : MethodId} {args : Array Value} {below : List Frame} {meth : Method} {c : Code} {H : Heap} {locs : List Loc} {cells slots : Nat} {Q : State → Prop}
variable {cc : ByteArray} {pc n nL d : Nat} {lsR : Array Slot} {r : Nat → Nat} {st rest As : List Value} {A : xm_H} {k : Nat} {v : Option Value}
variable {cl : List vw_C} {Ts gd : List Cond} {own : String} {D : va_G} {tys : xm_T} {my : Nat → MethodName} {mb : Nat → ByteArray} {mL : Nat → Nat} {mr : Nat → Option FieldType} {oc : Nat → Nat} {cr : Nat → Option (Nat × Nat × Bool × Nat)} {Pc Qc : Array Value → State → Prop}
set_option maxHeartbeats 4000000 in
/-- a virtual call of a method that reads alone -/
theorem xm_cr_ok {i : Jvm.ClassFile.Instr} {Pc : Array Value → State → Prop} (S : CallFix p m c cc nL s args Ts own) (h : xm_ca oc cr i n st A = some (k, As, rest)) (hvi : ∃ x, i = .invokevirtual x) (hdg : decode cc pc = .ok (i, n)) (hCR : xm_CR own args s gd my mb mL mr cl oc cr) (hgd : ∀ w ∈ gd, w ∈ Ts) (hgood : ∀ w ∈ gd, goodWord w = true)
    (hM : Met l (my k) (xm_ws gd my mb mL mr k) (xm_rm d 0 0) Pc (st_Q (v.map (xm_v r))) 0 0 (fun _ => False)) (hblind : FrameBlind Pc) (hpre : ∀ U : State, U.heap = H → s.WarmedH U.vm → Pc (As.map (xm_v r)).toArray U)
    (hRf : d + 21 ≤ R.frames) (hRl : 64 * d + 2064 ≤ R.locals) (hRc : cells ≤ R.cells) (hRs : slots ≤ R.slots) (hl : lsR.size = nL) (hK : va_K D cl tys s) (hP : va_P D cl (xm_w tys r A) H)
    (kk : W p l e R s m args below meth c H locs cells slots Q (F0 m (pc + 3) lsR ((v.map (xm_v r)).toList ++ rest.map (xm_v r)))) : W p l e R s m args below meth c H locs cells slots Q (F0 m pc lsR (st.map (xm_v r))) := by
  obtain ⟨x, rfl⟩ := hvi
  have hts := S.2.2.2.2
  have hgw : ∀ w ∈ xm_ws gd my mb mL mr k, Cond.code (my k) (mb k) (mL k) (mr k) ∈ gd → w ∈ gd := fun w hw hc => (List.mem_cons.mp hw).elim (fun e => e ▸ hc) (fun h => h)
  simp only [xm_ca] at h
  obtain ⟨rfl, h0⟩ := xm_if h
  split at h0
  · rename_i k' b na hcr
    split at h0
    · rename_i ob As' rest' hsv
      split at h0
      · rename_i cj fs hob
        obtain ⟨rfl, h1⟩ := xm_if h0
        simp only [Option.some.injEq, Prod.mk.injEq] at h1
        obtain ⟨rfl, rfl, rfl⟩ := h1
        obtain ⟨hst, hlen, hcat⟩ := xm_sv_s hsv
        obtain ⟨hcode, hmL, hMH, hna, hini, hl0, hl1, hk0, -, -⟩ := hCR x _ _ _ _ hcr
        obtain ⟨hinst, hsel, q, hq, hq1⟩ := hk0 rfl
        have hws : ∀ w ∈ xm_ws gd my mb mL mr k', ∀ (a' : Array Value) (U : State), s.WarmedH U.vm → w.before a' U = true := fun w hw a' U hW => word_at hW (good_of_word (hgood w (hgw w hw hcode))) (hts w (hgd w (hgw w hw hcode)))
        have hcw : (Cond.code (my k') (mb k') (mL k') (mr k')).before args s = true := hts _ (hgd _ hcode)
        have hsig : ∀ sig, parseMethodDescriptor (my k').desc = some sig → na = sig.parameters.length := fun sig h2 => by rw [h2] at hna; exact (Option.some.inj hna).symm
        have hstk : (F0 m pc lsR (st.map (xm_v r))).stack = (As'.map (xm_v r)).reverse ++ .ref (r ob) :: rest'.map (xm_v r) := by
          show st.map (xm_v r) = _
          rw [hst, List.map_append, List.map_reverse, List.map_cons]
          rfl
        have hrecv := va_recv hK hP hq (xm_w_get hob)
        rw [hq1] at hrecv
        have hRl' : 8 + (mL k' + 11) + (64 * d + 2000) ≤ R.locals := xm_loc hmL hRl
        have hct : 2 * (F0 m pc lsR (st.map (xm_v r))).monitorRoom + ((rest'.map (xm_v r)).map fun v => v.category).sum ≤ 8 := lv_room (Nat.le_trans (Nat.le_of_eq (xm_cat_m r rest')) hcat)
        cases b with
        | false => exact st_back (va_runV (As := As'.map (xm_v r)) (rest := rest'.map (xm_v r)) S hM ⟨⟨rfl, rfl, hRf, hRl', hws, List.mem_cons_self, hcw, hini, hMH, hsig, hl0 rfl⟩, hinst, hsel⟩ ⟨hblind, hrecv, hpre⟩ rfl (by rw [List.length_map]; exact hlen) hl hstk hct hdg ⟨hRc, hRs⟩) kk
        | true =>
          obtain ⟨host, hlk⟩ := hl1 rfl
          exact st_back (va_runVN (As := As'.map (xm_v r)) (rest := rest'.map (xm_v r)) S hM ⟨⟨⟨rfl, rfl, hRf, hRl', hws, List.mem_cons_self⟩, hcw, hini, hMH, hsig, hlk⟩, hinst, hsel⟩ ⟨hblind, hrecv, hpre⟩ rfl (by rw [List.length_map]; exact hlen) hl hstk hct hdg ⟨hRc, hRs⟩) kk
      · cases h0
    · cases h0
  · cases h0
end XRB
section XRC
variable (call : Nat → xm_H → List Value → Option (Option Value ⊕ Nat)) (th : Nat → Option Nat) (tt : List FieldType) (fr : Nat → Option (Nat × Nat × Bool)) (oc : Nat → Nat) (cr : Nat → Option (Nat × Nat × Bool × Nat)) (cc : ByteArray) (nL : Nat) (ret : Option FieldType) (A : xm_H)
def xm_rr : Nat → Nat → xm_L → List Value → Option (Option Value ⊕ Nat)
  | 0, _, _, _ => none
  | f + 1, pc, ls, st => match decode cc pc with
    | .error _ => none
    | .ok (i, n) => match xm_pu nL i n ls st with
      | some q => xm_rr f (pc + n) q.1 q.2
      | none => match xm_br i n pc st with
        | some q => if q.1 = true then xm_rr f q.2.1 ls q.2.2 else xm_rr f (pc + n) ls q.2.2
        | none => match xm_hr tt fr i n st A with
          | some q => xm_rr f (pc + n) ls q
          | none => match xm_re ret i n st with
            | some v => some (.inl v)
            | none => (match i with
              | .invokevirtual _ => (match xm_ca oc cr i n st A with
                | some q => (match call q.1 A q.2.1 with
                  | some (.inl v) => xm_rr f (pc + 3) ls (v.toList ++ q.2.2)
                  | _ => none)
                | none => none)
              | _ => (match th pc with
                | some x => if xm_cat st ≤ 8 then some (.inr x) else none
                | none => none))
end XRC
section XRD
variable {p : Program} {l : Launch} {e : Env} {R : Room} {s : State} {m : MethodId} {args : Array Value} {below : List Frame} {meth : Method} {c : Code} {Q : State → Prop}
variable {cc : ByteArray} {nL d : Nat} {Ts gd : List Cond} {own : String} {D : va_G} {tys : xm_T} {my : Nat → MethodName} {mb : Nat → ByteArray} {mL : Nat → Nat} {mr : Nat → Option FieldType}
variable {call : Nat → xm_H → List Value → Option (Option Value ⊕ Nat)} {th : Nat → Option Nat} {cl : List vw_C} {tt : List FieldType} {fr : Nat → Option (Nat × Nat × Bool)} {oc : Nat → Nat} {cr : Nat → Option (Nat × Nat × Bool × Nat)} {ret : Option FieldType} {A : xm_H} {r : Nat → Nat} {o : Option Value ⊕ Nat}
set_option maxHeartbeats 8000000 in
theorem xm_rr_ok {Pk : List Value → Array Value → State → Prop} (S : CallFix p m c cc nL s args Ts own) (hFR : xm_FR cl Ts own args s fr) (hTT : xm_TT tt tys) (hCR : xm_CR own args s gd my mb mL mr cl oc cr) (hgd : ∀ w ∈ gd, w ∈ Ts) (hgood : ∀ w ∈ gd, goodWord w = true)
    (hcall : ∀ k As v, call k A As = some (.inl v) → Met l (my k) (xm_ws gd my mb mL mr k) (xm_rm d 0 0) (Pk As) (st_Q (v.map (xm_v r))) 0 0 (fun _ => False)) (hblind : ∀ As, FrameBlind (Pk As)) (hpre : ∀ (As : List Value) (U : State), U.heap = s.heap → s.WarmedH U.vm → Pk As (As.map (xm_v r)).toArray U)
    (hRf : d + 21 ≤ R.frames) (hRl : 64 * d + 2064 ≤ R.locals) (hK : va_K D cl tys s) (hP : va_P D cl (xm_w tys r A) s.heap)
    (hret : ∀ v, o = .inl v → ∀ (i : Jvm.ClassFile.Instr) (n pc : Nat) (st : List Value) (lsR : Array Slot), decode cc pc = .ok (i, n) → xm_re ret i n st = some v → W p l e R s m args below meth c s.heap [] 0 0 Q (F0 m pc lsR (st.map (xm_v r))))
    (hthr : ∀ x, o = .inr x → ∀ (pc : Nat) (st : List Value) (lsR : Array Slot), th pc = some x → lsR.size = nL → xm_cat st ≤ 8 → W p l e R s m args below meth c s.heap [] 0 0 Q (F0 m pc lsR (st.map (xm_v r)))) :
    ∀ (f pc : Nat) (ls : xm_L) (st : List Value) (lsR : Array Slot), xm_rr call th tt fr oc cr cc nL ret A f pc ls st = some o → lv_has lsR nL (xm_lm r ls) → W p l e R s m args below meth c s.heap [] 0 0 Q (F0 m pc lsR (st.map (xm_v r))) := by
  have hx := S.1
  have hb := S.2.1
  have hown := S.2.2.2.1
  have hts := S.2.2.2.2
  intro f
  induction f with
  | zero => intro pc ls st lsR h; cases h
  | succ f ih =>
    intro pc ls st lsR h hl
    rw [xm_rr] at h
    split at h
    · cases h
    · rename_i i n hdg
      split at h
      · rename_i q hq
        exact xm_pu_ok hx hb hq hdg hl (fun lsR' hl' => ih _ _ _ lsR' h hl')
      · split at h
        · rename_i q hq
          obtain ⟨b, t, st'⟩ := q
          refine xm_br_ok hx hb hq hdg (fun hbt => ?_) (fun hbf => ?_)
          · rw [if_pos hbt] at h
            exact ih _ _ _ lsR h hl
          · rw [if_neg (by rw [hbf]; exact Bool.false_ne_true)] at h
            exact ih _ _ _ lsR h hl
        · split at h
          · rename_i q hq
            exact xm_hr_ok hx hb hq hdg hts hown hFR hTT hK hP (ih _ _ _ lsR h hl)
          · split at h
            · rename_i v hv
              simp only [Option.some.injEq] at h
              exact hret v h.symm i n pc st lsR hdg hv
            · split at h
              · split at h
                · rename_i q hq
                  obtain ⟨k, As, rest⟩ := q
                  split at h
                  · rename_i v hc
                    refine xm_cr_ok S hq ⟨_, rfl⟩ hdg hCR hgd hgood (hcall _ _ _ hc) (hblind _) (hpre _) hRf hRl (Nat.zero_le _) (Nat.zero_le _) hl.1 hK hP ?_
                    have ev : (v.map (xm_v r)).toList ++ rest.map (xm_v r) = (v.toList ++ rest).map (xm_v r) := by
                      rw [List.map_append]
                      cases v <;> rfl
                    rw [ev]
                    exact ih _ _ _ lsR h hl
                  · cases h
                · cases h
              · split at h
                · rename_i x hth
                  obtain ⟨hcat, h⟩ := xm_if h
                  simp only [Option.some.injEq] at h
                  exact hthr x h.symm pc st lsR hth hl.1 hcat
                · cases h
end XRD
end
section
/-! Contracts by read-only runs: a method that returns and changes nothing; a method that throws. -/
def tb_eo (F : Nat) : Nat → Nat → xm_H → List Value → Option (Option Value ⊕ Nat)
  | 0, _, _, _ => none
  | d + 1, k, A, As => if tb_mok k = true ∧ (lg_sl As).length ≤ tb_mL k then xm_rr (tb_eo F d) (tb_th k) tb_tt (tb_fr (tb_oc k)) tb_oc (tb_cr (tb_oc k)) (tb_mb k) (tb_mL k) (tb_mr k) A F 0 (lv_args 0 As) [] else none
/-- the end of a method that threw an exception of the class X: one cell of six slots came, nothing else changed -/
def xm_QT (X : String) : Array Value → State → Outcome → State → Prop := fun _ st oc t => ∃ (a : Nat) (ce : Cell), oc = .threw a ∧ st.WarmedH t.vm ∧ st.sameButNew ({ t with vm := st.vm } : State) [] 1 6 ∧ t.heap[a]? = some ce ∧ st.vm.findClass X = some ce.cls ∧ ce.vm = .none
section ROA
variable {F : Nat} {l : Launch} {D : va_G} {tys : xm_T} {N0 : Nat} {adK adV : Nat → Nat}
set_option maxHeartbeats 4000000 in
theorem tb_eo_ret (hTT : xm_TT tb_tt tys) : ∀ (d k : Nat) (A : xm_H) (As : List Value) (v : Option Value) (r : Nat → Nat) (sz : Nat), tb_eo F d k A As = some (.inl v) →
    Met l (tb_my k) (xm_ws tb_gd tb_my tb_mb tb_mL tb_mr k) (xm_rm d 0 0) (xm_Pc D tb_cl tys N0 (tb_G (st_Z N0 adK adV)) r A sz As) (st_Q (v.map (xm_v r))) 0 0 (fun _ => False) := by
  intro d
  induction d with
  | zero => intro k A As v r sz h; cases h
  | succ d ih =>
    intro k A As v r sz h
    rw [tb_eo] at h
    obtain ⟨⟨hok, hlen⟩, h⟩ := xm_if h
    obtain ⟨-, -, -, -, -, -, hpl, -⟩ := tb_own hok
    refine Met.ofW (cc := tb_mb k) (maxL := tb_mL k) (ret := tb_mr k) hpl rfl ?_
    intro p e s m args below meth c s₁ B hml hv
    obtain ⟨rfl, ⟨hN0, hsz⟩, hP, hK, hD, hG⟩ := hv
    subst hsz
    have hts := atoms_spec (ws := xm_ws tb_gd tb_my tb_mb tb_mL tb_mr k) B.pre
    have hown : s.vm.findClass (tb_my k).cls = some m.cls := findClass_of_methodNamed B.named
    obtain ⟨hFR, hNR, hQR, hTA, hCR⟩ := tb_SF (st_Z N0 adK adV) k _ s hok hts hG
    have S : CallFix p m c (tb_mb k) (tb_mL k) s (As.map (xm_v r)).toArray (xm_ws tb_gd tb_my tb_mb tb_mL tb_mr k) (tb_my k).cls := ⟨B.exec, B.bytes, hml, hown, hts⟩
    have hl := lv_entry (As.map (xm_v r)) (n := tb_mL k) (by rw [xm_sl_m]; exact hlen)
    rw [lg_entry_eq]
    generalize (lg_sl (As.map (xm_v r)) ++ List.replicate (tb_mL k - (lg_sl (As.map (xm_v r))).length) Slot.unset).toArray = ls at hl ⊢
    rw [xm_args_m] at hl
    have hS0 : va_S (fun q => N0 ≤ q) s.heap s.heap [] := va_S.rf
    refine xm_rr_ok (d := d) (r := r) (A := A) (o := .inl v) (Pk := fun As => xm_Pc D tb_cl tys N0 (tb_G (st_Z N0 adK adV)) r A s.heap.size As) S hFR hTT hCR (fun w hw => List.mem_cons_of_mem _ hw) tb_good (fun k' As' v' hc => ih k' A As' v' r s.heap.size hc) (fun As' => xm_Pc_blind (tb_G1 st_Z1)) (fun As' U hU hW => ⟨rfl, ⟨hN0, by rw [hU]⟩, by rw [hU]; exact hP, va_K.moved hW.alike hK, hD, tb_G2 st_Z2 s U s.heap [] hG hS0 hU hW⟩) (Nat.le_refl _) (Nat.le_refl _) hK hP ?_ ?_ F 0 (lv_args 0 As) [] ls h hl
    · intro v' hv' i n pc st lsR hdg hre
      cases hv'
      exact xm_re_ok B.exec B.bytes hre hdg B.returns B.notSynchronized (fun t ht hW => ⟨rfl, ht⟩) (fun q hq => by cases hq)
    · intro x hx
      cases hx
theorem th_find {si : Nat} (h : st_own.any (fun z => z.1 == "ConditionDesk" && z.2.1 == si) = true) : ∃ (j : Nat) (tx : String), st_own[j]? = some ("ConditionDesk", si, tx) := by
  obtain ⟨z, hz, h1⟩ := List.any_eq_true.mp h
  obtain ⟨j, hj⟩ := List.getElem?_of_mem hz
  obtain ⟨z1, z2, z3⟩ := z
  simp only [Bool.and_eq_true, beq_iff_eq] at h1
  obtain ⟨rfl, rfl⟩ := h1
  exact ⟨j, z3, hj⟩
theorem th_fit1 : Jvm.Bundle.fit "java/lang/IllegalArgumentException" = true := by decide +kernel
theorem th_fit2 : Jvm.Bundle.fit "java/lang/IllegalStateException" = true := by decide +kernel
theorem th_fitU : ∀ n ∈ th_up, Jvm.Bundle.fit n = true := by decide +kernel
set_option maxRecDepth 100000 in
theorem th_rl {d a : Nat} (h : a ≤ 8) : a + 1 + (13 * (2 + 1) + 42) ≤ 64 * (d + 1) + 2000 := by omega
set_option maxHeartbeats 4000000 in
theorem tb_eo_thr (hfl : l.flags = flags0) (hTT : xm_TT tb_tt tys) (d k : Nat) (A : xm_H) (As : List Value) (x : Nat) (r : Nat → Nat) (sz : Nat) (h : tb_eo F (d + 1) k A As = some (.inr x)) :
    MetFree l (tb_my k) (headSpec (xm_ws tb_gd tb_my tb_mb tb_mL tb_mr k) (xm_rm (d + 1) 1 6)) (xm_Pc D tb_cl tys N0 (tb_G (st_Z N0 adK adV)) r A sz As) (fun _ _ _ _ _ => True) (xm_QT (th_X x)) := by
  rw [tb_eo] at h
  obtain ⟨⟨hok, hlen⟩, h⟩ := xm_if h
  obtain ⟨-, -, hcls, -, -, -, hpl, -⟩ := tb_own hok
  refine MetFree.of_bodyS (code := tb_mb k) (maxLocals := tb_mL k) (ret := tb_mr k) hpl ?_ ?_
  · intro args s m h hn
    obtain ⟨meth, c, h1, h2, h3, h4, h5, h6, -, -⟩ := Cond.code_spec hn (atoms_spec (ws := xm_ws tb_gd tb_my tb_mb tb_mL tb_mr k) h _ List.mem_cons_self)
    exact ⟨meth, c, h1, h2, h3, h4, h5, h6⟩
  · intro p e s m args below meth c s₁ B hml hv _
    obtain ⟨rfl, ⟨hN0, hsz⟩, hP, hK, hD, hG⟩ := hv
    subst hsz
    have hts := atoms_spec (ws := xm_ws tb_gd tb_my tb_mb tb_mL tb_mr k) B.pre
    have hgd : ∀ w ∈ tb_gd, w.before (As.map (xm_v r)).toArray s = true := fun w hw => hts w (List.mem_cons_of_mem _ hw)
    have hown : s.vm.findClass (tb_my k).cls = some m.cls := findClass_of_methodNamed B.named
    obtain ⟨hFR, hNR, hQR, hTA, hCR⟩ := tb_SF (st_Z N0 adK adV) k _ s hok hts hG
    have S : CallFix p m c (tb_mb k) (tb_mL k) s (As.map (xm_v r)).toArray (xm_ws tb_gd tb_my tb_mb tb_mL tb_mr k) (tb_my k).cls := ⟨B.exec, B.bytes, hml, hown, hts⟩
    have hexc : c.exceptionTable.isEmpty = true := B.noHandlers (hts _ List.mem_cons_self)
    have htr : e.platform.stackTraces = false := Launch.traces_off hfl B.admits
    have hh0 : s₁.heap = s.heap := by rw [B.state]; rfl
    have hS0 : va_S (fun q => N0 ≤ q) s.heap s.heap [] := va_S.rf
    have key : W p l e (xm_rm (d + 1) 1 6) s m (As.map (xm_v r)).toArray below meth c s.heap [] 0 0 (fun t => ∃ o, t.status = .running ∧ Ended t below o ∧ xm_QT (th_X x) (As.map (xm_v r)).toArray s o t) (entryFrame m (As.map (xm_v r)).toArray (tb_mL k)) := by
      have hl := lv_entry (As.map (xm_v r)) (n := tb_mL k) (by rw [xm_sl_m]; exact hlen)
      rw [lg_entry_eq]
      generalize (lg_sl (As.map (xm_v r)) ++ List.replicate (tb_mL k - (lg_sl (As.map (xm_v r))).length) Slot.unset).toArray = ls at hl ⊢
      rw [xm_args_m] at hl
      refine xm_rr_ok (d := d) (r := r) (A := A) (o := .inr x) (Pk := fun As => xm_Pc D tb_cl tys N0 (tb_G (st_Z N0 adK adV)) r A s.heap.size As) S hFR hTT hCR (fun w hw => List.mem_cons_of_mem _ hw) tb_good (fun k' As' v' hc => tb_eo_ret hTT d k' A As' v' r s.heap.size hc) (fun As' => xm_Pc_blind (tb_G1 st_Z1)) (fun As' U hU hW => ⟨rfl, ⟨hN0, by rw [hU]⟩, by rw [hU]; exact hP, va_K.moved hW.alike hK, hD, tb_G2 st_Z2 s U s.heap [] hG hS0 hU hW⟩) (Nat.le_refl _) (Nat.le_refl _) hK hP ?_ ?_ F 0 (lv_args 0 As) [] ls h hl
      · intro v' hv'
        cases hv'
      · intro x' hx' pc st lsR hth hsz hcat
        cases hx'
        obtain ⟨⟨⟨k0, pc0⟩, x0, ni, si, ii⟩, hm, hp, hxx⟩ := tb_find hth
        obtain ⟨rfl, rfl⟩ := tb_key hp
        dsimp only at hxx
        subst hxx
        obtain ⟨d0, d3, d4, d6, d9⟩ := th_dA _ hm
        obtain ⟨hs1, hs2, hs3⟩ := th_sA _ hm
        dsimp only at d0 d3 d4 d6 d9 hs1 hs2 hs3
        obtain ⟨j, tx, hj⟩ := th_find hs1
        have hR := hG.2.2.2.2.2.1 j _ hj
        dsimp only at hR
        have hcl8 : (tb_my k0).cls = "ConditionDesk" := by rw [hcls, hs2]; rfl
        have hc8 : xm_cat (st.map (xm_v r)) ≤ 8 := Nat.le_trans (Nat.le_of_eq (xm_cat_m r st)) hcat
        rcases hs3 with ⟨rfl, rfl, rfl⟩ | ⟨rfl, rfl, rfl⟩
        · exact th_walk (own := (tb_my k0).cls) (X := "java/lang/IllegalArgumentException") (names := th_up) B.exec B.bytes hml hown B.notSynchronized hexc htr hsz d0 d3 d4 d6 d9 (by rw [hcl8]; exact hgd _ th_c1) (hgd _ th_i1) (hgd _ th_n1) (by rw [hcl8]; exact hR) (fun w hw => th_hat hgd hG (th_a1 w (by rw [← hcl8]; exact hw))) th_fit1 th_fitU (by show 2 + 3 < d + 1 + 20; omega) (th_rl hc8) (Nat.le_refl _) (Nat.le_refl _)
            (fun U a ce u1 u2 u3 u4 u5 u6 u7 => ⟨_, u1, u2, a, ce, rfl, u3, u4, u5, u6, u7⟩)
        · exact th_walk (own := (tb_my k0).cls) (X := "java/lang/IllegalStateException") (names := th_up) B.exec B.bytes hml hown B.notSynchronized hexc htr hsz d0 d3 d4 d6 d9 (by rw [hcl8]; exact hgd _ th_c2) (hgd _ th_i2) (hgd _ th_n2) (by rw [hcl8]; exact hR) (fun w hw => th_hat hgd hG (th_a2 w (by rw [← hcl8]; exact hw))) th_fit2 th_fitU (by show 2 + 3 < d + 1 + 20; omega) (th_rl hc8) (Nat.le_refl _) (Nat.le_refl _)
            (fun U a ce u1 u2 u3 u4 u5 u6 u7 => ⟨_, u1, u2, a, ce, rfl, u3, u4, u5, u6, u7⟩)
    obtain ⟨t, a1, o, b1, b2, b3⟩ := key s₁ hh0 (Stand.of_body B)
    exact ⟨t, o, a1, b1, b2, b3⟩
end ROA
end
section
/-! Catching in the law's helpers: the first fitting row of a method's table, whose class entry may be resolved or not yet. -/
section CTA
variable {e : Env} {S : State} {f : JFrame} {a : Addr}
/-- the search ends at pc, and leaves the tables v -/
def ct_F (e : Env) (S : State) (f : JFrame) (a : Addr) (pc : Nat) (v : Vm) : Prop := ∀ (Q : Handler → Pre) (E : CtlPost) (d : Bool) (acts : List Action), wp (findHandler f a) Q E e d acts S ↔ Q (.found pc) d acts (S.setVm v)
/-- one row that covers the place -/
theorem ct_row {Q : Handler → Pre} {E : CtlPost} {d : Bool} {acts : List Action} {x : ExceptionTableEntry} {t : List ExceptionTableEntry} {c : ClassId} {cell : Cell} (hx : covers x f.pc = true) (h0 : x.catchType ≠ 0) (hl : S.vm.ClassLinks e.platform f.method.cls x.catchType c)
    (hcell : S.heap[a]? = some cell) (hobj : cell.vm = .none) (hk : ∃ k, S.vm.classes[cell.cls]? = some k) :
    wp (findHandler.go f a (x :: t)) Q E e d acts S ↔ (if S.vm.assignable cell.cls c = true then Q (.found x.handlerPc) d acts (S.setVm (S.vm.noted f.method.cls x.catchType (.cls c))) else wp (findHandler.go f a t) Q E e d acts (S.setVm (S.vm.noted f.method.cls x.catchType (.cls c)))) := by
  have hcv : (decide (x.startPc ≤ f.pc) && decide (f.pc < x.endPc)) = true := hx
  obtain ⟨g1, g2⟩ := (resolveClass_links e.toSetting hl).op (op := VmOp.resolveClass f.method.cls x.catchType) rfl
  obtain ⟨dk, cf, nm, ck, -, -, -, -, -, hck, -, -⟩ := hl.here
  have hal : S.vm.Alike (S.vm.noted f.method.cls x.catchType (.cls c)) := (Vm.Alike.refl S.vm).noted _ _ _
  obtain ⟨q1, hq1⟩ := hk
  obtain ⟨z1, hz1, -⟩ := hal.2.2 _ _ hq1
  obtain ⟨z2, hz2, -⟩ := hal.2.2 _ _ hck
  have hno : ∀ k, cell.vm ≠ .statics k := fun k hk => by rw [hobj] at hk; cases hk
  have has := hal.assignable cell.cls c
  cases hb : S.vm.assignable cell.cls c <;> rw [hb] at has <;> simp [findHandler.go, hcv, h0, g1, g2, hcell, hno, hz1, hz2, has, VmOp.dirties, VmOp.acts]
theorem ct_step {r : List Frame} {pc : Nat} {v : Vm} (h : ct_F e S f a pc v) : (stepThrowing e S a (.java f :: r)).1 = (S.setVm v).setFrames (.java { f with pc := pc, stack := [.ref a] } :: r) := by
  simp only [stepThrowing, searchFrame, vmDo]
  generalize hr : Sem.go _ e false [] S = res
  obtain ⟨as, rfl, ha⟩ := Sem.eq_ok_of hr (a := Handler.found pc) (s' := S.setVm v) (acts' := []) (by simp [h _ _ _ _])
  rfl
end CTA
/-- a row of a table as a word has it -/
def ct_q (x : ExceptionTableEntry) : Nat × Nat × Nat × Nat := (x.startPc, x.endPc, x.handlerPc, x.catchType)
section CTB
variable {p : Program} {l : Launch} {e : Env} {R : Room} {s : State} {m : MethodId} {args : Array Value} {below : List Frame} {meth : Method} {c : Code} {T : State} {locs : List Loc} {cells slots : Nat}
/-- the rows 'hh' of a table lead an exception of class number 'cx', thrown at pc, to the place 'h': rows of other classes come before -/
def ct_to (s : State) (pl : Platform) (d : ClassId) (cx : ClassId) (pc h : Nat) : List (Nat × Nat × Nat × Nat) → Prop
  | [] => False
  | (a, b, t, k) :: hh => a ≤ pc ∧ pc < b ∧ k ≠ 0 ∧ ∃ cc, s.vm.ClassLinks pl d k cc ∧ (s.vm.assignable cx cc = true ∧ h = t ∨ s.vm.assignable cx cc = false ∧ ct_to s pl d cx pc h hh)
theorem ct_go {f : JFrame} {a : Addr} {cell : Cell} {h : Nat} (hobj : cell.vm = .none) (hk : ∃ k, s.vm.classes[cell.cls]? = some k) : ∀ (tb : List ExceptionTableEntry) (S : State), s.WarmedH S.vm → S.heap[a]? = some cell → ct_to s e.platform f.method.cls cell.cls f.pc h (tb.map ct_q) →
    ∃ v, s.WarmedH v ∧ ∀ (Q : Handler → Pre) (E : CtlPost) (d : Bool) (acts : List Action), wp (findHandler.go f a tb) Q E e d acts S ↔ Q (.found h) d acts (S.setVm v)
  | [], S, _, _, ht => ht.elim
  | x :: tb, S, hW, hcell, ht => by
    obtain ⟨h1, h2, h3, cc, hl, hend⟩ := ht
    obtain ⟨dk, cf, nm, ck, hdk, -, -, -, -, hck, -, hopen⟩ := hl.here
    have hk' : ∃ k, S.vm.classes[cell.cls]? = some k := by
      obtain ⟨k, hk0⟩ := hk
      obtain ⟨z, hz, -⟩ := hW.alike.2.2 _ _ hk0
      exact ⟨z, hz⟩
    have hW' : s.WarmedH (S.vm.noted f.method.cls x.catchType (.cls cc)) := hW.noted hdk hopen (State.rightAt_cls hl)
    have hcv : covers x f.pc = true := by
      show (decide (x.startPc ≤ f.pc) && decide (f.pc < x.endPc)) = true
      rw [Bool.and_eq_true]
      exact ⟨decide_eq_true h1, decide_eq_true h2⟩
    rcases hend with ⟨ha, rfl⟩ | ⟨ha, ht'⟩
    · refine ⟨_, hW', fun Q E d acts => ?_⟩
      rw [ct_row hcv h3 (hW.classLinks hl) hcell hobj hk', if_pos (by rw [hW.alike.assignable]; exact ha)]
    · obtain ⟨v, hv, hq⟩ := ct_go hobj hk tb (S.setVm (S.vm.noted f.method.cls x.catchType (.cls cc))) hW' hcell ht'
      refine ⟨v, hv, fun Q E d acts => ?_⟩
      rw [ct_row hcv h3 (hW.classLinks hl) hcell hobj hk', if_neg (by rw [hW.alike.assignable, ha]; exact Bool.false_ne_true)]
      exact hq Q E d acts
/-- caught: the walk goes on at the handler -/
theorem ct_at (X : Stand p l e R s m args below meth c T locs cells slots) {g : JFrame} (hg : g.method = m) {a : Addr} {cell : Cell} {h : Nat} (hcell : T.heap[a]? = some cell) (hobj : cell.vm = .none) (hk : ∃ k, s.vm.classes[cell.cls]? = some k) (ht : ct_to s e.platform m.cls cell.cls g.pc h (c.exceptionTable.toList.map ct_q)) :
    ∃ v, Stand p l e R s m args below meth c (T.setVm v) locs cells slots ∧ ∀ target, Steps p.tables e below ((T.setVm v).setTop { g with pc := h, stack := [.ref a] }) target → Steps p.tables e below ((T.setTop g).pushFrame (.throwing a)) target := by
  subst hg
  obtain ⟨v, hv, hq⟩ := ct_go (e := e) (f := g) hobj hk c.exceptionTable.toList ((T.setTop g).pushFrame (.throwing a)) X.warmed hcell ht
  have hF : ct_F e ((T.setTop g).pushFrame (.throwing a)) g a h v := fun Q E d acts => by
    exact (W.findHandler_eq (s := (T.setTop g).pushFrame (.throwing a)) (meth := meth) (code := c) X.method' X.code).trans (hq Q E d acts)
  refine ⟨v, X.noted hv, fun target hrest => ?_⟩
  obtain ⟨hgo, hw⟩ := X.here.throwing (g := g) a
  refine Steps.head hgo hw ?_
  rw [stepThread_throwing (frames_entered X.here.top _), ct_step hF]
  obtain ⟨g₀, hg0⟩ := Option.isSome_iff_exists.mp X.here.top
  obtain ⟨r, hr⟩ := State.topJava?_eq_some.mp hg0
  have hr2 : (T.setVm v).frames = .java g₀ :: r := hr
  rw [State.setTop_of_frames _ hr2] at hrest
  have e1 : (((T.setTop g).pushFrame (.throwing a)).setVm v).setFrames (.java { g with pc := h, stack := [.ref a] } :: T.frames.tail) = (T.setVm v).setFrames (.java { g with pc := h, stack := [.ref a] } :: r) := by
    rw [hr, List.tail_cons, State.pushFrame, State.setTop_of_frames _ hr, State.setFrames_setFrames]
    show ((T.setVm v).setFrames _).setFrames _ = _
    rw [State.setFrames_setFrames]
  rw [e1]
  exact hrest
end CTB
theorem ct_heap {st t : State} {k n : Nat} (h : st.sameButNew t [] k n) : st.heap.size ≤ t.heap.size ∧ ∀ q, q < st.heap.size → t.heap[q]? = st.heap[q]? := by
  obtain ⟨-, h1, -, -, -, h2⟩ := h
  refine ⟨h1, fun q hq => ?_⟩
  have h3 : st.heap[q]? = some st.heap[q] := Array.getElem?_eq_getElem hq
  obtain ⟨c', g1, g2, g3, g4⟩ := h2 q _ h3
  rw [g1, h3, g2]
  have g5 : c'.slots = st.heap[q].slots := by
    refine Array.ext g3 (fun i hi hj => ?_)
    have := g4 i (by simp)
    rw [Array.getElem?_eq_getElem hi, Array.getElem?_eq_getElem hj] at this
    exact Option.some.inj this
  rw [g5]
section CTC
variable {p : Program} {l : Launch} {e : Env} {R : Room} {s : State} {m : MethodId} {args : Array Value} {below : List Frame} {meth : Method} {c : Code} {H : Heap} {locs : List Loc} {cells slots : Nat} {Q : State → Prop}
variable {cc : ByteArray} {pc nL d : Nat} {lsR : Array Slot} {r : Nat → Nat} {st rest As : List Value} {A : xm_H} {k x hpc : Nat}
variable {cl : List vw_C} {Ts gd : List Cond} {own : String} {D : va_G} {tys : xm_T} {my : Nat → MethodName} {mb : Nat → ByteArray} {mL : Nat → Nat} {mr : Nat → Option FieldType} {oc : Nat → Nat} {cr : Nat → Option (Nat × Nat × Bool × Nat)}
set_option maxHeartbeats 4000000 in
/-- a call that throws, and the throw is caught here -/
theorem ct_call {Pc : Array Value → State → Prop} {XC : String} {cx : ClassId} (S : CallFix p m c cc nL s args Ts own) (h : xm_ca oc cr (.invokevirtual x) 3 st A = some (k, As, rest)) (hb0 : ∀ kd k b na, cr x = some (kd, k, b, na) → b = false) (hdg : decode cc pc = .ok (.invokevirtual x, 3)) (hCR : xm_CR own args s gd my mb mL mr cl oc cr) (hgd : ∀ w ∈ gd, w ∈ Ts) (hgood : ∀ w ∈ gd, goodWord w = true)
    (hM : MetFree l (my k) (headSpec (xm_ws gd my mb mL mr k) (xm_rm d 1 6)) Pc (fun _ _ _ _ _ => True) (xm_QT XC)) (hblind : FrameBlind Pc) (hpre : ∀ U : State, U.heap = H → s.WarmedH U.vm → Pc (As.map (xm_v r)).toArray U)
    (hRf : d + 21 ≤ R.frames) (hRl : 64 * d + 2064 ≤ R.locals) (hRc : cells + 1 ≤ R.cells) (hRs : slots + 6 ≤ R.slots) (hl : lsR.size = nL) (hK : va_K D cl tys s) (hP : va_P D cl (xm_w tys r A) H)
    (hX : s.vm.findClass XC = some cx) (hkx : ∃ kx, s.vm.classes[cx]? = some kx) (ht : ct_to s e.platform m.cls cx pc hpc (c.exceptionTable.toList.map ct_q))
    (kk : ∀ (a : Nat) (H1 : Heap), H.size ≤ H1.size → (∀ q, q < H.size → H1[q]? = H[q]?) → W p l e R s m args below meth c H1 locs (cells + 1) (slots + 6) Q (F0 m hpc lsR [.ref a])) : W p l e R s m args below meth c H locs cells slots Q (F0 m pc lsR (st.map (xm_v r))) := by
  have hts := S.2.2.2.2
  have hgw : ∀ w ∈ xm_ws gd my mb mL mr k, Cond.code (my k) (mb k) (mL k) (mr k) ∈ gd → w ∈ gd := fun w hw hc => (List.mem_cons.mp hw).elim (fun e => e ▸ hc) (fun h => h)
  simp only [xm_ca] at h
  obtain ⟨-, h0⟩ := xm_if h
  split at h0
  · rename_i k' b na hcr
    split at h0
    · rename_i ob As' rest' hsv
      split at h0
      · rename_i cj fs hob
        obtain ⟨rfl, h1⟩ := xm_if h0
        simp only [Option.some.injEq, Prod.mk.injEq] at h1
        obtain ⟨rfl, rfl, rfl⟩ := h1
        obtain rfl := hb0 _ _ _ _ hcr
        obtain ⟨hst, hlen, hcat⟩ := xm_sv_s hsv
        obtain ⟨hcode, hmL, hMH, hna, hini, hl0, hl1, hk0, -, -⟩ := hCR x _ _ _ _ hcr
        obtain ⟨hinst, hsel, q, hq, hq1⟩ := hk0 rfl
        have hws : ∀ w ∈ xm_ws gd my mb mL mr k', ∀ (a' : Array Value) (U : State), s.WarmedH U.vm → w.before a' U = true := fun w hw a' U hW => word_at hW (good_of_word (hgood w (hgw w hw hcode))) (hts w (hgd w (hgw w hw hcode)))
        have hcw : (Cond.code (my k') (mb k') (mL k') (mr k')).before args s = true := hts _ (hgd _ hcode)
        have hsig : ∀ sig, parseMethodDescriptor (my k').desc = some sig → na = sig.parameters.length := fun sig h2 => by rw [h2] at hna; exact (Option.some.inj hna).symm
        have hstk : (F0 m pc lsR (st.map (xm_v r))).stack = (As'.map (xm_v r)).reverse ++ .ref (r ob) :: rest'.map (xm_v r) := by
          show st.map (xm_v r) = _
          rw [hst, List.map_append, List.map_reverse, List.map_cons]
          rfl
        have hrecv := va_recv hK hP hq (xm_w_get hob)
        rw [hq1] at hrecv
        obtain ⟨cellB, hcB, hoB, hclB⟩ := hrecv
        have hRl' : 8 + (mL k' + 11) + (64 * d + 2000) ≤ R.locals := xm_loc hmL hRl
        have hct : 2 * (F0 m pc lsR (rest'.map (xm_v r))).monitorRoom + ((rest'.map (xm_v r)).map fun v => v.category).sum ≤ 8 := lv_room (Nat.le_trans (Nat.le_of_eq (xm_cat_m r rest')) hcat)
        obtain ⟨hx, hb, hml, ho, -⟩ := S
        intro T hT X
        obtain ⟨mk, methM, hnamed, hmethM, hstM, habM⟩ := Cond.instanceMethod_spec hinst
        obtain ⟨methM', cM, hmethM', -, -, -, -, -, -, hsigM⟩ := Cond.code_spec hnamed hcw
        cases hmethM.symm.trans hmethM'
        obtain ⟨c2, r2, m2, q1, q2, q3, q4, kP, hkP, hkPi⟩ := Cond.selects_spec hsel
        cases hclB.symm.trans q1
        cases (State.methodFound?_of_named hnamed hMH).symm.trans q2
        cases hnamed.symm.trans q3
        have hselP : selectMethod e.platform s.vm cellB.cls mk = .method mk := by rw [Launch.admits_selectMethod X.admits]; exact q4
        obtain ⟨vm₁, X₁, hstep₁⟩ := X.invokevirtual hx ho (hl0 rfl) hnamed hmethM hstM hkP hkPi hMH (a := r ob) (cell := cellB) (by rw [hT]; exact hcB) (fun z h => by rw [h] at hoB; cases hoB) hselP hmethM habM hkP hkPi (g := F0 m pc lsR (st.map (xm_v r))) rfl (argsL := As'.map (xm_v r)) (rest := rest'.map (xm_v r)) (by rw [List.length_map, hlen]; exact hsig _ hsigM) hstk (by rw [hb]; exact hdg)
        have hn : (T.setVm vm₁).methodNamed? (my k') = some mk := X₁.named hnamed
        have hcwU : (Cond.code (my k') (mb k') (mL k') (mr k')).before args (T.setVm vm₁) = true := hws _ List.mem_cons_self _ _ X₁.warmed
        obtain ⟨methY, cY, hmY, hcY, -, hlY, -⟩ := Cond.code_spec hn hcwU
        obtain ⟨kY, hkY, -⟩ := className_of_methodNamed hn
        have hiniU : (Cond.initialized (my k').cls).before args (T.setVm vm₁) = true := word_at X₁.warmed (Or.inl (by first | rfl | simp [Cond.onTables, Cond.keeps, Cond.steady])) hini
        have hinitY : kY.init = .initialized := Cond.initialized_spec (findClass_of_methodNamed hn) hkY hiniU
        have hat : At (T.setVm vm₁) (F0 m pc lsR (rest'.map (xm_v r))).method c below := X₁.here
        have happ := Spec.appliesLoose_calling (S := headSpec (xm_ws gd my mb mL mr k') (xm_rm d 1 6)) (e := e) (g := F0 m pc lsR (rest'.map (xm_v r))) (args := (Value.ref (r ob) :: As'.map (xm_v r)).toArray) hat (by rw [hb]; exact hdg) hn hkY hinitY
          (X₁.room_calling (g := F0 m pc lsR (rest'.map (xm_v r))) (R' := xm_rm d 1 6) (hl.trans hml.symm) hmY hcY hRf (by rw [hlY]; exact Nat.le_trans (Nat.add_le_add_right (Nat.add_le_add_right hct _) _) hRl') hRc hRs) (atoms_intro fun w hw => hws w hw _ _ X₁.warmed)
        obtain ⟨mid, hmid⟩ := hat.above
        have hfr : ((T.setVm vm₁).setTop (F0 m pc lsR (rest'.map (xm_v r)))).frames = (.java (F0 m pc lsR (rest'.map (xm_v r))) :: mid) ++ below := by rw [State.frames_setTop' _ hat.top, hmid]; rfl
        obtain ⟨o, s₂, hsteps, -, hend, hq9⟩ := Steps.callFree hM p X.admits X.cas X.clock (acts := []) hfr happ (hblind _ (T.setVm vm₁) _ _ (hpre (T.setVm vm₁) hT X₁.warmed)) trivial
        obtain ⟨ad, ce, rfl, hWt, hsame, hce, hfc, hvn⟩ := hq9
        rw [State.frames_setTop' _ hat.top] at hend
        obtain ⟨g₀, hg0⟩ := X₁.frames_eq
        rw [hg0, List.tail_cons] at hend
        obtain ⟨T', X', hW', hsm, hs2⟩ := X₁.outOfThrown (g := F0 m pc lsR (rest'.map (xm_v r))) (mk := mk) (a := (Value.ref (r ob) :: As'.map (xm_v r)).toArray) rfl hend hWt hsame
        have hce' : T'.heap[ad]? = some ce := by
          have e1 : s₂.heap = T'.heap := by rw [hs2]; exact Stand.throwing_heap T' _ ad
          rw [← e1]; exact hce
        have hcx : s.vm.findClass XC = some ce.cls := by
          rw [← X₁.warmed.alike.findClass]; exact hfc
        cases hX.symm.trans hcx
        rw [List.append_nil] at X'
        obtain ⟨v9, X9, st9⟩ := ct_at X' (g := F0 m pc lsR (rest'.map (xm_v r))) rfl hce' hvn hkx ht
        obtain ⟨hz1, hz2⟩ := ct_heap hsm
        have hH : (T.setVm vm₁).heap = H := hT
        rw [hH] at hz1 hz2
        obtain ⟨t9, a9, b9⟩ := kk ad T'.heap hz1 hz2 (T'.setVm v9) rfl X9
        refine ⟨t9, hstep₁ _ fun acts => ?_, b9⟩
        rw [doInvoke_state]
        refine hsteps.trans ?_
        rw [hs2]
        exact st9 _ a9
      · cases h0
    · cases h0
  · cases h0
end CTC
end
section
/-! The law's seven helpers: what each does, by a run of its body, or by a throw that it catches. -/
def tb_ex (F d : Nat) : Nat → xm_H → List Value → Option xm_R := xm_ex F tb_xt tb_cl tb_tt tb_ft tb_fr tb_ini tb_nr tb_qr tb_ta tb_oc tb_cr tb_mb tb_mL tb_mr tb_mok d
theorem tb_clN : ∀ ci ∈ List.range 10, (tb_cl[ci]?).map (fun q => q.1) = some (tb_nm ci) := by decide +kernel
theorem tb_clM {ci : Nat} {q : vw_C} (h : tb_cl[ci]? = some q) : q.1 = tb_nm ci := by
  have hl : ci < 10 := (List.getElem?_eq_some_iff.mp h).1
  have h1 := tb_clN ci (List.mem_range.mpr hl)
  rw [h] at h1
  exact Option.some.inj h1
theorem tb_NI {k ci : Nat} (hk : tb_mok k = true) (h : tb_ini k = some ci) : (tb_my k).name = "<init>" ∧ ∀ q, tb_cl[ci]? = some q → q.1 = (tb_my k).cls := by
  refine ⟨(tb_own hk).2.2.2.2.2.2.2 ci h, fun q hq => ?_⟩
  rw [(tb_own hk).2.2.1, tb_clM hq]
  unfold tb_ini at h
  split at h
  · rw [Option.some.inj h]
  · cases h
section HLA
variable {F : Nat} {l : Launch} {D : va_G} {tys : xm_T} {N0 : Nat} {adK adV : Nat → Nat}
theorem tb_ex_ok (hTT : xm_TT tb_tt tys) (d k : Nat) (A : xm_H) (As : List Value) (A' : xm_H) (v : Option Value) (c1 s1 : Nat) (r : Nat → Nat) (hr0 : ∀ j, xm_K0 ≤ j → r j = adK (j - xm_K0)) (h : tb_ex F d k A As = some (A', .inl v, c1, s1)) (sz : Nat) :
    Met l (tb_my k) (xm_ws tb_gd tb_my tb_mb tb_mL tb_mr k) (xm_rm d c1 s1) (xm_Pc D tb_cl tys N0 (tb_G (st_Z N0 adK adV)) r A sz As) (xm_Q D tb_cl tys r A.length sz A' v) c1 s1 (xm_ad r A.length sz) :=
  xm_ex_ok (lt := fun j => adK (j - xm_K0)) tb_CL hTT (tb_SF _) tb_good (fun k hk => (tb_own hk).2.2.2.2.2.2.1) (fun k ci hk h => tb_NI hk h) (tb_G1 st_Z1) (tb_G2 st_Z2) (fun k i n st A st' A' h => tb_xo_len h) (fun k d c1 s1 p e s m args below meth c Q Ad hk hAd S hG hK hN0 => tb_XT hTT hk hAd S hG hK hN0) d k A As A' v c1 s1 r hr0 h sz
end HLA

set_option maxHeartbeats 4000000 in
/-- the tables of an owner's pool -/
theorem tb_SFo (Z : State → Prop) (o : Nat) (own : String) (hcls : own = tb_nm o) (args : Array Value) (s : State) (Ts : List Cond) (hsub : ∀ w ∈ tb_gd, w ∈ Ts) (hgd : ∀ w ∈ tb_gd, w.before args s = true) (hG : tb_G Z s) :
    xm_FR tb_cl Ts own args s (tb_fr o) ∧ xm_NR tb_cl Ts own args s (tb_nr o) ∧ xm_QR tb_tt own args s (tb_qr o) ∧ xm_TA args s tb_ta ∧ xm_CR own args s tb_gd tb_my tb_mb tb_mL tb_mr tb_cl tb_oc (tb_cr o) := by
  have hat : ∀ {i : Nat} {w : Cond}, lw_tbl[i]? = some w → goodWord w = true → w.before args s = true := fun h hg => hgd _ (tb_gd_in h hg)
  refine ⟨?_, ?_, ?_, ?_, ?_⟩
  · intro x ci kk b h
    obtain ⟨⟨⟨o', x'⟩, v, i⟩, hm, hp, rfl⟩ := tb_find h
    obtain ⟨rfl, rfl⟩ := tb_key hp
    have hc := tb_frA _ hm
    simp only [tb_frC] at hc
    split at hc
    · rename_i c hcl
      obtain ⟨C, T, N⟩ := c
      simp only [Bool.and_eq_true, decide_eq_true_eq] at hc
      obtain ⟨h1, h2⟩ := hc
      refine ⟨C, T, N, hcl, h1, fun w hw => hsub _ (tb_cl_ws hcl w hw), fun hb => ?_, fun hb => ?_⟩
      · subst hb
        rw [hcls]
        exact hat h2 rfl
      · subst hb
        rw [hcls]
        exact ⟨_, va_Nw.use rfl (hG.1 _ (List.mem_of_getElem? h2) rfl)⟩
    · cases hc
  · intro x ci h C T N hcl
    obtain ⟨⟨⟨o', x'⟩, v, i⟩, hm, hp, rfl⟩ := tb_find h
    obtain ⟨rfl, rfl⟩ := tb_key hp
    have hc := tb_nrA _ hm
    simp only [tb_nrC] at hc
    split at hc
    · rename_i c n hcl2 hn
      have e9 := Option.some.inj (hcl2.symm.trans hcl)
      subst e9
      simp only [Bool.and_eq_true, decide_eq_true_eq] at hc
      obtain ⟨h1, h2, h3⟩ := hc
      refine ⟨fun w hw => hsub _ (tb_cl_ws hcl w hw), ?_, hat h2 rfl, hat h3 rfl⟩
      rw [hcls]
      exact hat h1 rfl
    · cases hc
  · intro x t h
    obtain ⟨⟨⟨o', x'⟩, i⟩, hm, hp, rfl⟩ := tb_find h
    obtain ⟨rfl, rfl⟩ := tb_key hp
    have hc : ∀ q ∈ tb_qrL, lw_tbl[q.2]? = some (Cond.classLink (tb_nm q.1.1) q.1.2 "ConditionDesk$Condition") := by decide +kernel
    refine ⟨"ConditionDesk$Condition", rfl, ?_, hG.2.1⟩
    rw [hcls]
    exact hat (hc _ hm) rfl
  · intro a t h
    have h0 : Cond.arrayClass .int ∈ lw_tbl ∧ Cond.arrayClass .long ∈ lw_tbl ∧ Cond.arrayClass .char ∈ lw_tbl ∧ Cond.arrayClass .boolean ∈ lw_tbl := by decide +kernel
    have hmem : ∀ {w : Cond}, w ∈ lw_tbl → goodWord w = true → w.before args s = true := fun h1 h2 => hgd _ (List.mem_filter.mpr ⟨h1, h2⟩)
    cases a <;> first | exact hmem h0.1 rfl | exact hmem h0.2.1 rfl | exact hmem h0.2.2.1 rfl | exact hmem h0.2.2.2 rfl | cases h
  · intro x kd k' b na h
    obtain ⟨⟨⟨o', x'⟩, v, i⟩, hm, hp, hv⟩ := tb_find h
    obtain ⟨rfl, rfl⟩ := tb_key hp
    dsimp only at hv
    subst hv
    have hc := tb_crA _ hm
    have hd := tb_crB _ hm
    simp only [tb_crC, Bool.and_eq_true, decide_eq_true_eq] at hc
    obtain ⟨hk1, h2, h3, h4, h5⟩ := hc
    have hk1 : k' < 136 := hk1
    obtain ⟨-, hin, -, hL, hm1, hm2, -, -⟩ := tb_own (k := k') (decide_eq_true hk1)
    refine ⟨tb_gd_in (tb_mA k' hk1) rfl, hL, ⟨hm1, hm2⟩, h3, hat hin rfl, fun hb => ?_, fun hb => ?_, fun hkd => ?_, fun hkd => ?_, fun hkd => ?_⟩
    · subst hb
      rw [hcls]
      exact hat h2 rfl
    · subst hb
      rw [hcls]
      exact ⟨_, va_Nw.use rfl (hG.1 _ (List.mem_of_getElem? h2) rfl)⟩
    · subst hkd
      simp only [tb_crD, Bool.and_eq_true, decide_eq_true_eq] at hd
      obtain ⟨d1, d2, d3⟩ := hd
      refine ⟨hat d1 rfl, hat d2 rfl, ?_⟩
      cases hq : tb_cl[tb_oc k']? with
      | none => rw [hq] at d3; cases d3
      | some q => rw [hq] at d3; exact ⟨q, rfl, Option.some.inj d3⟩
    · subst hkd
      simp only [tb_crD, decide_eq_true_eq] at hd
      exact hat hd rfl
    · subst hkd
      simp only [tb_crD, Bool.and_eq_true, decide_eq_true_eq] at hd
      exact ⟨h4.mp rfl, hat hd.1 rfl, hd.2⟩

def hl_t : List (MethodName × ByteArray × Nat × List (Nat × Nat × Nat × Nat)) := [(⟨"ConditionDeskLaw", "compile", "(LConditionDesk;I[J)I"⟩, method_3_code, 4, [(0, 9, 12, 13)]), (⟨"ConditionDeskLaw", "drop", "(LConditionDesk;I[J)I"⟩, method_4_code, 4, [(0, 16, 19, 13)]), (⟨"ConditionDeskLaw", "set", "(LConditionDesk;II)I"⟩, method_5_code, 4, [(0, 6, 9, 13)]), (⟨"ConditionDeskLaw", "poke", "(LConditionDesk;II)I"⟩, method_6_code, 4, [(0, 6, 9, 13)]), (⟨"ConditionDeskLaw", "ignore", "(LConditionDesk;II[J)I"⟩, method_7_code, 5, [(0, 10, 13, 13), (0, 10, 17, 30)]), (⟨"ConditionDeskLaw", "ask", "(LConditionDesk;I[J)I"⟩, method_8_code, 4, [(0, 9, 12, 13), (0, 9, 15, 30)]), (⟨"ConditionDeskLaw", "about", "(LConditionDesk;II[J)I"⟩, method_9_code, 5, [(0, 9, 12, 13), (0, 9, 16, 30)])]
def hl_0 : MethodName × ByteArray × Nat × List (Nat × Nat × Nat × Nat) := (⟨"", "", ""⟩, ⟨#[]⟩, 0, [])
def hl_y (j : Nat) : MethodName := (hl_t.getD j hl_0).1
def hl_b (j : Nat) : ByteArray := (hl_t.getD j hl_0).2.1
def hl_L (j : Nat) : Nat := (hl_t.getD j hl_0).2.2.1
def hl_h (j : Nat) : List (Nat × Nat × Nat × Nat) := (hl_t.getD j hl_0).2.2.2
def hl_ws (j : Nat) : List Cond := Cond.codeWith (hl_y j) (hl_b j) (hl_L j) (some .int) (hl_h j) :: tb_gd
set_option maxRecDepth 200000 in
theorem hl_c0 : Cond.codeWith (hl_y 0) (hl_b 0) (hl_L 0) (some .int) (hl_h 0) ∈ tb_gd := tb_gd_in (i := 447) rfl rfl
set_option maxRecDepth 200000 in
theorem hl_c1 : Cond.codeWith (hl_y 1) (hl_b 1) (hl_L 1) (some .int) (hl_h 1) ∈ tb_gd := tb_gd_in (i := 749) rfl rfl
set_option maxRecDepth 200000 in
theorem hl_c2 : Cond.codeWith (hl_y 2) (hl_b 2) (hl_L 2) (some .int) (hl_h 2) ∈ tb_gd := tb_gd_in (i := 756) rfl rfl
set_option maxRecDepth 200000 in
theorem hl_c3 : Cond.codeWith (hl_y 3) (hl_b 3) (hl_L 3) (some .int) (hl_h 3) ∈ tb_gd := tb_gd_in (i := 768) rfl rfl
set_option maxRecDepth 200000 in
theorem hl_c4 : Cond.codeWith (hl_y 4) (hl_b 4) (hl_L 4) (some .int) (hl_h 4) ∈ tb_gd := tb_gd_in (i := 780) rfl rfl
set_option maxRecDepth 200000 in
theorem hl_c5 : Cond.codeWith (hl_y 5) (hl_b 5) (hl_L 5) (some .int) (hl_h 5) ∈ tb_gd := tb_gd_in (i := 805) rfl rfl
set_option maxRecDepth 200000 in
theorem hl_c6 : Cond.codeWith (hl_y 6) (hl_b 6) (hl_L 6) (some .int) (hl_h 6) ∈ tb_gd := tb_gd_in (i := 812) rfl rfl
theorem hl_cw : ∀ j, j < 7 → Cond.codeWith (hl_y j) (hl_b j) (hl_L j) (some .int) (hl_h j) ∈ tb_gd
  | 0, _ => hl_c0
  | 1, _ => hl_c1
  | 2, _ => hl_c2
  | 3, _ => hl_c3
  | 4, _ => hl_c4
  | 5, _ => hl_c5
  | 6, _ => hl_c6
  | j + 7, h => absurd h (by omega)
theorem hl_cls : ∀ j, j < 7 → (hl_y j).cls = "ConditionDeskLaw" := by
  intro j hj
  have h : ∀ j ∈ List.range 7, (hl_y j).cls = "ConditionDeskLaw" := by decide +kernel
  exact h j (List.mem_range.mpr hj)
theorem hl_nm : "ConditionDeskLaw" = tb_nm 10 := by decide +kernel
theorem hl_pl : plainName "ConditionDeskLaw" = true := by decide +kernel
/-- no exception of one class is one of the other -/
def ct_N (U : State) : Prop := ∃ c t, U.vm.findClass "java/lang/IllegalStateException" = some c ∧ U.vm.findClass "java/lang/IllegalArgumentException" = some t ∧ U.vm.assignable c t = false
theorem ct_N.moved {u U : State} (h : u.vm.Alike U.vm) (hN : ct_N u) : ct_N U := by
  obtain ⟨c, t, h1, h2, h3⟩ := hN
  exact ⟨c, t, by rw [h.findClass]; exact h1, by rw [h.findClass]; exact h2, by rw [h.assignable]; exact h3⟩
def hl_G (N0 : Nat) (adK adV : Nat → Nat) (U : State) : Prop := tb_G (st_Z N0 adK adV) U ∧ ct_N U
theorem hl_G1 {N0 : Nat} {adK adV : Nat → Nat} (U : State) (g : JFrame) (mk : MethodId) (a : Array Value) (h : hl_G N0 adK adV U) : hl_G N0 adK adV (U.calling g mk a) := ⟨tb_G1 st_Z1 U g mk a h.1, ct_N.moved (u := U) (U := U.calling g mk a) (Vm.Alike.refl U.vm) h.2⟩
theorem hl_G2 {N0 : Nat} {adK adV : Nat → Nat} (s U : State) (H1 : Heap) (locs1 : List Loc) (h : hl_G N0 adK adV s) (hS : va_S (fun q => N0 ≤ q) s.heap H1 locs1) (hU : U.heap = H1) (hW : s.WarmedH U.vm) : hl_G N0 adK adV U := ⟨tb_G2 st_Z2 s U H1 locs1 h.1 hS hU hW, ct_N.moved hW.alike h.2⟩
def xm_t0 : Jvm.ClassFile.Instr → Nat → List Value → xm_H → xm_P := fun _ _ _ _ => none
/-- a helper's body, where its callee returns -/
def hl_rn (F d j : Nat) (A : xm_H) (As : List Value) : Option xm_R := if (lg_sl As).length ≤ hl_L j then xm_rn (tb_ex F d) xm_t0 xm_x0 tb_cl tb_tt tb_ft (tb_fr 10) none (tb_nr 10) (tb_qr 10) tb_ta tb_oc (tb_cr 10) (hl_b j) (hl_L j) (some .int) F 0 (lv_args 0 As) [] A 0 0 else none
section HLB
variable {F : Nat} {l : Launch} {D : va_G} {tys : xm_T} {N0 : Nat} {adK adV : Nat → Nat}
set_option maxHeartbeats 4000000 in
theorem hl_ret (hTT : xm_TT tb_tt tys) (d j : Nat) (hj : j < 7) (A : xm_H) (As : List Value) (A' : xm_H) (v : Option Value) (c1 s1 : Nat) (r : Nat → Nat) (hr0 : ∀ j, xm_K0 ≤ j → r j = adK (j - xm_K0)) (h : hl_rn F d j A As = some (A', .inl v, c1, s1)) (sz : Nat) :
    Met l (hl_y j) (hl_ws j) (xm_rm (d + 1) c1 s1) (xm_Pc D tb_cl tys N0 (hl_G N0 adK adV) r A sz As) (xm_Q D tb_cl tys r A.length sz A' v) c1 s1 (xm_ad r A.length sz) := by
  unfold hl_rn at h
  obtain ⟨hlen, h⟩ := xm_if h
  refine va_MetW (cc := hl_b j) (maxL := hl_L j) (ret := some .int) (hh := hl_h j) (by rw [hl_cls j hj]; exact hl_pl) rfl ?_
  intro p e s m args below meth c s₁ B hml hv
  obtain ⟨rfl, ⟨hN0, hsz⟩, hP, hK, hD, hG⟩ := hv
  subst hsz
  have hAdN : ∀ q, xm_ad r A.length s.heap.size q → N0 ≤ q := xm_ad_sub hD (fun q hq => Nat.le_trans hN0 hq)
  have hD' := xm_ad_D s.heap.size hD
  have hts := atoms_spec (ws := hl_ws j) B.pre
  have hgd : ∀ w ∈ tb_gd, w.before (As.map (xm_v r)).toArray s = true := fun w hw => hts w (List.mem_cons_of_mem _ hw)
  have hown : s.vm.findClass "ConditionDeskLaw" = some m.cls := by rw [← hl_cls j hj]; exact findClass_of_methodNamed B.named
  obtain ⟨hFR, hNR, hQR, hTA, hCR⟩ := tb_SFo (st_Z N0 adK adV) 10 "ConditionDeskLaw" hl_nm (As.map (xm_v r)).toArray s (hl_ws j) (fun w hw => List.mem_cons_of_mem _ hw) hgd hG.1
  have S : CallFix p m c (hl_b j) (hl_L j) s (As.map (xm_v r)).toArray (hl_ws j) "ConditionDeskLaw" := ⟨B.exec, B.bytes, hml, hown, hts⟩
  have hNI' : xm_NI tb_cl "ConditionDeskLaw" meth none := fun ci hci => by cases hci
  have hl := lv_entry (As.map (xm_v r)) (n := hl_L j) (by rw [xm_sl_m]; exact hlen)
  rw [lg_entry_eq]
  generalize (lg_sl (As.map (xm_v r)) ++ List.replicate (hl_L j - (lg_sl (As.map (xm_v r))).length) Slot.unset).toArray = ls at hl ⊢
  rw [xm_args_m] at hl
  have hS : va_S (xm_ad r A.length s.heap.size) s.heap s.heap [] := va_S.rf
  refine xm_rn_ok (lt := fun j => adK (j - xm_K0)) (G := tb_G (st_Z N0 adK adV)) (d := d) (r0 := r) (n0 := A.length) (R := xm_rm (d + 1) c1 s1) (Ts := hl_ws j) S tb_CL hFR hNI' hTT hNR hQR hTA hCR (fun w hw => List.mem_cons_of_mem _ hw) tb_good (tb_G1 st_Z1) (fun H1 locs1 U a b c9 => tb_G2 st_Z2 s U H1 locs1 hG.1 (xm_SN hAdN a) b c9) (xm_ex_mono (fun k i n st A st' A' h => tb_xo_len h) d) hr0 (tb_ex_ok hTT d) (fun _ _ _ _ _ _ h => by cases h) (fun _ _ _ _ _ _ _ _ _ _ _ _ _ _ h => by cases h) (fun _ _ _ _ _ _ _ _ h => by cases h) (fun _ _ _ _ _ _ _ _ _ _ _ _ _ _ _ _ h => by cases h) (Nat.le_refl _) (Nat.le_refl _) (Nat.le_refl _) (Nat.le_refl _) hN0 (fun q hq => Or.inr hq) hAdN hK ?_ F 0 (lv_args 0 As) [] A 0 0 r s.heap [] ls h (Nat.le_refl _) xm_ag.rf (fun _ => rfl) hl hP hD' hS
  · intro v' hv' i n pc st r' H locs lsR hdg hre hag hre2 hP' hD' hS'
    cases hv'
    exact xm_re_ok B.exec B.bytes hre hdg B.returns B.notSynchronized (fun t ht hW => ⟨⟨r', hag, hre2, rfl, by rw [ht]; exact hP', hD'⟩, hS'.F ht⟩) hS'.2.2
end HLB
end
section
/-! The law's helpers where the callee throws. -/
def xm_sr (cc : ByteArray) (nL : Nat) : Nat → Nat → xm_L → List Value → Option (Nat × xm_L × List Value)
  | 0, pc, ls, st => some (pc, ls, st)
  | f + 1, pc, ls, st => match decode cc pc with
    | .error _ => none
    | .ok (i, n) => match xm_pu nL i n ls st with
      | some q => xm_sr cc nL f (pc + n) q.1 q.2
      | none => some (pc, ls, st)
section HTA
variable {p : Program} {l : Launch} {e : Env} {R : Room} {s : State} {m : MethodId} {args : Array Value} {below : List Frame} {meth : Method} {c : Code} {H : Heap} {locs : List Loc} {cells slots : Nat} {Q : State → Prop}
theorem xm_sr_ok {cc : ByteArray} {nL : Nat} {r : Nat → Nat} {pc' : Nat} {ls' : xm_L} {st' : List Value} (hx : p.tables.exec = Jvm.exec) (hb : c.code = cc)
    (k : ∀ lsR', lv_has lsR' nL (xm_lm r ls') → W p l e R s m args below meth c H locs cells slots Q (F0 m pc' lsR' (st'.map (xm_v r)))) : ∀ (f pc : Nat) (ls : xm_L) (st : List Value) (lsR : Array Slot), xm_sr cc nL f pc ls st = some (pc', ls', st') → lv_has lsR nL (xm_lm r ls) → W p l e R s m args below meth c H locs cells slots Q (F0 m pc lsR (st.map (xm_v r))) := by
  intro f
  induction f with
  | zero =>
    intro pc ls st lsR h hl
    simp only [xm_sr, Option.some.injEq, Prod.mk.injEq] at h
    obtain ⟨rfl, rfl, rfl⟩ := h
    exact k lsR hl
  | succ f ih =>
    intro pc ls st lsR h hl
    rw [xm_sr] at h
    split at h
    · cases h
    · rename_i i n hdg
      split at h
      · rename_i q hq
        exact xm_pu_ok hx hb hq hdg hl (fun lsR' hl' => ih _ _ _ lsR' h hl')
      · simp only [Option.some.injEq, Prod.mk.injEq] at h
        obtain ⟨rfl, rfl, rfl⟩ := h
        exact k lsR hl
end HTA
/-- where a table leads an exception (1: IllegalArgumentException, entry 13 of the law's pool; 2: IllegalStateException, entry 30) -/
def hl_to (pc xx : Nat) : List (Nat × Nat × Nat × Nat) → Option Nat
  | [] => none
  | (a, b, t, k) :: hh => if a ≤ pc ∧ pc < b then (if k = 13 then (if xx = 1 then some t else if xx = 2 then hl_to pc xx hh else none) else if k = 30 ∧ xx = 2 then some t else none) else none
theorem hl_ct {s : State} {pl : Platform} {d cI cS cx : ClassId} {pc xx h : Nat} (hI : s.vm.ClassLinks pl d 13 cI) (hS : s.vm.ClassLinks pl d 30 cS) (h1 : xx = 1 → s.vm.assignable cx cI = true) (h2 : xx = 2 → s.vm.assignable cx cI = false ∧ s.vm.assignable cx cS = true) : ∀ hh, hl_to pc xx hh = some h → ct_to s pl d cx pc h hh
  | [], ht => by cases ht
  | (a, b, t, k) :: hh, ht => by
    rw [hl_to] at ht
    obtain ⟨⟨ha, hb⟩, ht2⟩ := xm_if ht
    by_cases hk : k = 13
    · subst hk
      rw [if_pos rfl] at ht2
      by_cases hxx : xx = 1
      · rw [if_pos hxx] at ht2
        exact ⟨ha, hb, by decide, cI, hI, Or.inl ⟨h1 hxx, (Option.some.inj ht2).symm⟩⟩
      · rw [if_neg hxx] at ht2
        obtain ⟨hx2, ht3⟩ := xm_if ht2
        exact ⟨ha, hb, by decide, cI, hI, Or.inr ⟨(h2 hx2).1, hl_ct hI hS h1 h2 hh ht3⟩⟩
    · rw [if_neg hk] at ht2
      obtain ⟨⟨hk2, hx2⟩, ht3⟩ := xm_if ht2
      subst hk2
      exact ⟨ha, hb, by decide, cS, hS, Or.inl ⟨(h2 hx2).2, (Option.some.inj ht3).symm⟩⟩
theorem hl_13 : Cond.classLink "ConditionDeskLaw" 13 "java/lang/IllegalArgumentException" ∈ tb_gd := tb_gd_in (i := 448) (by decide +kernel) rfl
theorem hl_30 : Cond.classLink "ConditionDeskLaw" 30 "java/lang/IllegalStateException" ∈ tb_gd := tb_gd_in (i := 781) (by decide +kernel) rfl
theorem hl_b0 : ∀ x kd k b na, tb_cr 10 x = some (kd, k, b, na) → b = false := by
  intro x kd k b na h
  obtain ⟨⟨⟨o, x'⟩, v, i⟩, hm, hp, hv⟩ := tb_find h
  obtain ⟨rfl, rfl⟩ := tb_key hp
  have hc : ∀ q ∈ tb_crL, q.1.1 = 10 → q.2.1.2.2.1 = false := by decide +kernel
  have := hc _ hm rfl
  dsimp only at hv this
  rw [hv] at this
  exact this
section HTB
variable {F : Nat} {l : Launch} {D : va_G} {tys : xm_T} {N0 : Nat} {adK adV : Nat → Nat}
set_option maxHeartbeats 4000000 in
theorem hl_thr (hfl : l.flags = flags0) (hTT : xm_TT tb_tt tys) (d j : Nat) (hj : j < 7) (A : xm_H) (As : List Value) (r : Nat → Nat) (sz : Nat) {f1 f2 pc x k xx hpc pcr : Nat} {ls ls' : xm_L} {st As' rest : List Value} {rc : Int32} (hlen : (lg_sl As).length ≤ hl_L j)
    (h1 : xm_sr (hl_b j) (hl_L j) f1 0 (lv_args 0 As) [] = some (pc, ls, st)) (h2 : decode (hl_b j) pc = .ok (.invokevirtual x, 3)) (h3 : xm_ca tb_oc (tb_cr 10) (.invokevirtual x) 3 st A = some (k, As', rest))
    (h4 : tb_eo F (d + 1) k A As' = some (.inr xx)) (h5 : xx = 1 ∨ xx = 2) (h6 : hl_to pc xx (hl_h j) = some hpc) (h7 : xm_sr (hl_b j) (hl_L j) f2 hpc [] [.ref 0] = some (pcr, ls', [.int rc])) (h8 : decode (hl_b j) pcr = .ok (.ireturn, 1)) :
    Met l (hl_y j) (hl_ws j) (xm_rm (d + 2) 1 6) (xm_Pc D tb_cl tys N0 (hl_G N0 adK adV) r A sz As) (xm_Q D tb_cl tys r A.length sz A (some (.int rc))) 1 6 (xm_ad r A.length sz) := by
  refine va_MetW (cc := hl_b j) (maxL := hl_L j) (ret := some .int) (hh := hl_h j) (by rw [hl_cls j hj]; exact hl_pl) rfl ?_
  intro p e s m args below meth c s₁ B hml hv
  obtain ⟨rfl, ⟨hN0, hsz⟩, hP, hK, hD, hG⟩ := hv
  subst hsz
  have hD' := xm_ad_D s.heap.size hD
  have hts := atoms_spec (ws := hl_ws j) B.pre
  have hgd : ∀ w ∈ tb_gd, w.before (As.map (xm_v r)).toArray s = true := fun w hw => hts w (List.mem_cons_of_mem _ hw)
  have hown : s.vm.findClass "ConditionDeskLaw" = some m.cls := by rw [← hl_cls j hj]; exact findClass_of_methodNamed B.named
  obtain ⟨hFR, hNR, hQR, hTA, hCR⟩ := tb_SFo (st_Z N0 adK adV) 10 "ConditionDeskLaw" hl_nm (As.map (xm_v r)).toArray s (hl_ws j) (fun w hw => List.mem_cons_of_mem _ hw) hgd hG.1
  have S : CallFix p m c (hl_b j) (hl_L j) s (As.map (xm_v r)).toArray (hl_ws j) "ConditionDeskLaw" := ⟨B.exec, B.bytes, hml, hown, hts⟩
  have hl := lv_entry (As.map (xm_v r)) (n := hl_L j) (by rw [xm_sl_m]; exact hlen)
  rw [lg_entry_eq]
  generalize (lg_sl (As.map (xm_v r)) ++ List.replicate (hl_L j - (lg_sl (As.map (xm_v r))).length) Slot.unset).toArray = ls0 at hl ⊢
  rw [xm_args_m] at hl
  have hS0 : va_S (fun q => N0 ≤ q) s.heap s.heap [] := va_S.rf
  -- the table
  obtain ⟨m9, meth9, c9, hn9, g1, g2, -, -, g5, -, -, -⟩ := Cond.codeWith_spec (hts _ List.mem_cons_self)
  cases B.named.symm.trans hn9
  cases B.method.symm.trans g1
  cases (Stand.of_body B).code.symm.trans g2
  have hpl : e.platform.magicAccessors = ({} : Platform).magicAccessors := by rw [B.admits.platform]
  obtain ⟨cI, hfI, hlI⟩ := Cond.classLink_spec hown (hgd _ hl_13) e.platform hpl
  obtain ⟨cS, hfS, hlS⟩ := Cond.classLink_spec hown (hgd _ hl_30) e.platform hpl
  obtain ⟨a1, a2, b1, b2, b3⟩ := Cond.castable_spec (th_cast (hgd _ th_i1))
  cases hfI.symm.trans b1
  cases hfI.symm.trans b2
  obtain ⟨a3, a4, b4, b5, b6⟩ := Cond.castable_spec (th_cast (hgd _ th_i2))
  cases hfS.symm.trans b4
  cases hfS.symm.trans b5
  obtain ⟨n1, n2, b7, b8, b9⟩ := hG.2
  cases hfS.symm.trans b7
  cases hfI.symm.trans b8
  have hkI : ∃ kx, s.vm.classes[cI]? = some kx := Vm.classAt_of_findClass hfI
  have hkS : ∃ kx, s.vm.classes[cS]? = some kx := Vm.classAt_of_findClass hfS
  obtain ⟨cx, hfx, hkx, q1, q2⟩ : ∃ cx, s.vm.findClass (th_X xx) = some cx ∧ (∃ kx, s.vm.classes[cx]? = some kx) ∧ (xx = 1 → s.vm.assignable cx cI = true) ∧ (xx = 2 → s.vm.assignable cx cI = false ∧ s.vm.assignable cx cS = true) := by
    rcases h5 with rfl | rfl
    · exact ⟨cI, hfI, hkI, ⟨fun _ => b3, fun h => absurd h (by decide)⟩⟩
    · exact ⟨cS, hfS, hkS, ⟨fun h => absurd h (by decide), fun _ => ⟨b9, b6⟩⟩⟩
  refine xm_sr_ok (r := r) B.exec B.bytes (fun lsR' hl' => ?_) f1 0 (lv_args 0 As) [] ls0 h1 hl
  refine ct_call (d := d + 1) (hpc := hpc) S h3 (hl_b0 x) h2 hCR (fun w hw => List.mem_cons_of_mem _ hw) tb_good (tb_eo_thr (D := D) (tys := tys) (N0 := N0) (adK := adK) (adV := adV) hfl hTT d k A As' xx r s.heap.size h4) (xm_Pc_blind (tb_G1 st_Z1)) (fun U hU hW => ⟨rfl, ⟨hN0, by rw [hU]⟩, by rw [hU]; exact hP, va_K.moved hW.alike hK, hD, tb_G2 st_Z2 s U s.heap [] hG.1 hS0 hU hW⟩) (Nat.le_refl _) (Nat.le_refl _) (Nat.le_refl _) (Nat.le_refl _) hl'.1 hK hP hfx hkx
    (by
      have e1 : c.exceptionTable.toList.map ct_q = hl_h j := g5
      rw [e1]
      exact hl_ct hlI hlS q1 q2 _ h6) (fun a H1 z1 z2 => ?_)
  have hP1 : va_P D tb_cl (xm_w tys r A) H1 := hP.kept (fun k q hk => z2 q.1 (hP k q hk).lt)
  have hS1 : va_S (xm_ad r A.length s.heap.size) s.heap H1 [] := ⟨z1, fun q hq _ => z2 q hq, fun q hq => by cases hq⟩
  refine xm_sr_ok (r := fun _ => a) (ls' := ls') (st' := [.int rc]) B.exec B.bytes (fun lsR2 hl2 => ?_) f2 hpc [] [.ref 0] lsR' h7 ⟨hl'.1, hl'.2.1, fun q hq => by cases hq⟩
  exact xm_re_ok (r := fun _ => a) (v := some (.int rc)) (ret := some .int) B.exec B.bytes (by simp [xm_re, narrow]) h8 B.returns B.notSynchronized (fun t ht hW => ⟨⟨r, xm_ag.rf, fun _ => rfl, rfl, by rw [ht]; exact hP1, hD'⟩, hS1.F ht⟩) (fun q hq => by cases hq)
end HTB
end
section
/-! The law's calls of its helpers. -/
def hl_x : List (Nat × Nat × Nat × Nat × Nat) := [(48, 0, 3, 445, 446), (58, 1, 3, 747, 748), (61, 2, 3, 754, 755), (72, 3, 3, 766, 767), (75, 4, 4, 778, 779), (79, 5, 3, 803, 804), (86, 6, 4, 810, 811)]
def hl_xC (q : Nat × Nat × Nat × Nat × Nat) : Bool := decide (q.2.1 < 7) && decide (lw_tbl[q.2.2.2.1]? = some (Cond.methodLink "ConditionDeskLaw" q.1 (hl_y q.2.1))) && decide (lw_tbl[q.2.2.2.2]? = some (Cond.static (hl_y q.2.1))) && decide ((parseMethodDescriptor (hl_y q.2.1).desc).map (fun d => d.parameters.length) = some q.2.2.1) && decide (hl_L q.2.1 ≤ 40)
theorem hl_xA : ∀ q ∈ hl_x, hl_xC q = true := by decide +kernel
theorem hl_ini : Cond.initialized "ConditionDeskLaw" ∈ tb_gd := tb_gd_in (i := 78) (by decide +kernel) rfl
section LCA
variable {p : Program} {l : Launch} {e : Env} {R : Room} {s : State} {m : MethodId} {args : Array Value} {below : List Frame} {meth : Method} {c : Code} {H H0 : Heap} {locs : List Loc} {cells slots : Nat} {Q : State → Prop}
variable {cc : ByteArray} {pc nL d : Nat} {lsR : Array Slot} {r : Nat → Nat} {st rest As : List Value} {A A' : xm_H} {v : Option Value} {c1 s1 x j na i1 i2 : Nat} {Ts : List Cond} {D : va_G} {tys : xm_T} {N0 : Nat} {Ad : Nat → Prop} {G : State → Prop}
set_option maxHeartbeats 4000000 in
theorem hl_call (S : CallFix p m c cc nL s args Ts "ConditionDeskLaw") (hq : (x, j, na, i1, i2) ∈ hl_x) (hss : xm_ss na st = some (As, rest)) (hdg : decode cc pc = .ok (.invokestatic x, 3)) (hgd : ∀ w ∈ tb_gd, w ∈ Ts)
    (hG1 : ∀ (U : State) (g : JFrame) (mk : MethodId) (a : Array Value), G U → G (U.calling g mk a)) (hG2 : ∀ (H1 : Heap) (locs1 : List Loc) (U : State), va_S Ad s.heap H1 locs1 → U.heap = H1 → s.WarmedH U.vm → G U)
    (hM : Met l (hl_y j) (hl_ws j) (xm_rm d c1 s1) (xm_Pc D tb_cl tys N0 G r A H.size As) (xm_Q D tb_cl tys r A.length H.size A' v) c1 s1 (xm_ad r A.length H.size))
    (hRf : d + 21 ≤ R.frames) (hRl : 64 * d + 2064 ≤ R.locals) (hRc : cells + c1 ≤ R.cells) (hRs : slots + s1 ≤ R.slots) (hl : lsR.size = nL) (hN0 : N0 ≤ s.heap.size) (hAd : ∀ q, s.heap.size ≤ q → Ad q) (hAdN : ∀ q, Ad q → N0 ≤ q)
    (hK : va_K D tb_cl tys s) (hP : va_P D tb_cl (xm_w tys r A) H) (hD : va_D Ad (xm_w tys r A)) (hS : va_S Ad s.heap H locs)
    (kk : ∀ (r' : Nat → Nat) (H1 : Heap) (locs1 : List Loc), xm_ag A.length r r' → (A'.length = A.length → r' = r) → va_P D tb_cl (xm_w tys r' A') H1 → va_D Ad (xm_w tys r' A') → va_S Ad s.heap H1 locs1 → W p l e R s m args below meth c H1 locs1 (cells + c1) (slots + s1) Q (F0 m (pc + 3) lsR ((v.map (xm_v r')).toList ++ rest.map (xm_v r)))) : W p l e R s m args below meth c H locs cells slots Q (F0 m pc lsR (st.map (xm_v r))) := by
  have hc := hl_xA _ hq
  simp only [hl_xC, Bool.and_eq_true, decide_eq_true_eq] at hc
  obtain ⟨⟨⟨⟨hj, w1⟩, w2⟩, hna⟩, hmL⟩ := hc
  have hts := S.2.2.2.2
  have hat : ∀ {i : Nat} {w : Cond}, lw_tbl[i]? = some w → goodWord w = true → w.before args s = true := fun h hg => hts _ (hgd _ (tb_gd_in h hg))
  have hlink := hat w1 rfl
  have hstat := hat w2 rfl
  have hcls := hl_cls j hj
  have hini : (Cond.initialized (hl_y j).cls).before args s = true := by rw [hcls]; exact hts _ (hgd _ hl_ini)
  have hMH : (hl_y j).cls ≠ "java/lang/invoke/MethodHandle" ∧ (hl_y j).cls ≠ "java/lang/invoke/VarHandle" := by rw [hcls]; exact ⟨by decide, by decide⟩
  have hcw : (Cond.codeWith (hl_y j) (hl_b j) (hl_L j) (some .int) (hl_h j)).before args s = true := hts _ (hgd _ (hl_cw j hj))
  have hws : ∀ w ∈ hl_ws j, ∀ (a' : Array Value) (U : State), s.WarmedH U.vm → w.before a' U = true := by
    intro w hw a' U hW
    have hg : w ∈ tb_gd := (List.mem_cons.mp hw).elim (fun e => e ▸ hl_cw j hj) (fun h => h)
    exact word_at hW (good_of_word (tb_good w hg)) (hts w (hgd w hg))
  have hblind : FrameBlind (xm_Pc D tb_cl tys N0 G r A H.size As) := xm_Pc_blind hG1
  have hpre : ∀ U : State, U.heap = H → s.WarmedH U.vm → xm_Pc D tb_cl tys N0 G r A H.size As (As.map (xm_v r)).toArray U := fun U hU hW => ⟨rfl, ⟨Nat.le_trans hN0 hS.1, by rw [hU]⟩, by rw [hU]; exact hP, va_K.moved hW.alike hK, hD.weaken (fun _ _ _ z => hAdN _ z), hG2 H locs U hS hU hW⟩
  have hsub : ∀ q, xm_ad r A.length H.size q → Ad q := xm_ad_sub hD (fun q hq => hAd q (Nat.le_trans hS.1 hq))
  obtain ⟨hst, hlen, hcat⟩ := xm_ss_s hss
  have hstk : (F0 m pc lsR (st.map (xm_v r))).stack = (As.map (xm_v r)).reverse ++ rest.map (xm_v r) := by
    show st.map (xm_v r) = _
    rw [hst, List.map_append, List.map_reverse]
  have hct : 2 * (F0 m pc lsR (st.map (xm_v r))).monitorRoom + ((rest.map (xm_v r)).map fun v => v.category).sum ≤ 8 := lv_room (Nat.le_trans (Nat.le_of_eq (xm_cat_m r rest)) hcat)
  have hK9 : Back l R p e below s args (hl_y j) 3 8 (PreOf R c1 s1 (xm_Pc D tb_cl tys N0 G r A H.size As)) (PostOf (xm_Q D tb_cl tys r A.length H.size A' v) c1 s1 (xm_ad r A.length H.size)) :=
    va_backW (bytes := hl_b j) (maxL := hl_L j) (ret := some .int) (hh := hl_h j) hM hblind rfl rfl hRf (xm_loc hmL hRl) hws List.mem_cons_self (fun a' U hW => word_at hW (Or.inl (by first | rfl | simp [Cond.onTables, Cond.keeps, Cond.steady])) hini)
  obtain ⟨hx, hb, hml, ho, -⟩ := S
  refine xm_back (rest := rest.map (xm_v r)) (a := (As.map (xm_v r)).toArray) ?_ hsub hS kk
  intro T hT X
  obtain ⟨mk, methM, cM, hnamed, hmethM, -, -, -, -, -, -, hsigM⟩ := Cond.codeWith_spec hcw
  have hstatic : methM.isStatic = true := Cond.static_spec hnamed hmethM hstat
  obtain ⟨kP, hkP, -⟩ := className_of_methodNamed hnamed
  have hinitP : kP.init = .initialized := Cond.initialized_spec (findClass_of_methodNamed hnamed) hkP hini
  have hpar : (As.map (xm_v r)).length = methM.sig.parameters.length := by
    rw [List.length_map, hlen]
    rw [hsigM] at hna
    exact (Option.some.inj hna).symm
  obtain ⟨vm₁, X₁, hstep₁⟩ := X.invokestatic hx ho hlink hnamed hmethM hstatic hkP hinitP hMH (g := F0 m pc lsR (st.map (xm_v r))) rfl (argsL := As.map (xm_v r)) (rest := rest.map (xm_v r)) hpar hstk (by rw [hb]; exact hdg)
  obtain ⟨v9, ⟨U', l2, c2, s2⟩, X', ⟨g', mk', t, L, e1, e2, hq9, h1, hL, h2, h3⟩, hsteps⟩ := hK9 m meth c ⟨T.setVm vm₁, locs, cells, slots⟩ (F0 m pc lsR (rest.map (xm_v r))) (.invokestatic x) mk (As.map (xm_v r)).toArray X₁ rfl (hl.trans hml.symm) (by rw [hb]; exact hdg) hct (X₁.named hnamed) ⟨hRc, hRs, hpre (T.setVm vm₁) hT X₁.warmed⟩
  dsimp only [Pt.U, Pt.locs, Pt.cells, Pt.slots] at X' e1 e2 h1 h2 h3 hsteps
  subst h1; subst h2; subst h3
  exact ⟨v9, (T.setVm vm₁).calling g' mk' (As.map (xm_v r)).toArray, t, U', L, hT, X', hL, e1, e2, hq9, fun target h => hstep₁ _ fun acts => by rw [doInvoke_state]; exact hsteps.trans h⟩
end LCA
end
section
/-! What holds at the law's entry: the classes, the arrays' classes, the constants. -/
def lx_tm (i : Nat) : Term := .string (st_own.getD i ("", 0, "")).1 (st_own.getD i ("", 0, "")).2.1
def lx_fl : List Cond := flatC (Jvm.Cond.and given_1 narrow_1)
def lx_bs : List Nat := [33, 138, 166, 191, 232, 273, 54, 61, 70, 82, 94, 107, 120]
def lx_ne : List (Nat × Nat × Nat) := [(0, 1, 158), (0, 2, 182), (0, 3, 222), (0, 4, 262), (0, 5, 306), (0, 6, 60), (0, 7, 68), (0, 8, 79), (0, 9, 90), (0, 10, 102), (0, 11, 114), (0, 12, 131), (1, 2, 190), (1, 3, 230), (1, 4, 270), (1, 5, 314), (2, 3, 231), (2, 4, 271), (2, 5, 315), (3, 4, 272), (3, 5, 316), (4, 5, 317), (6, 1, 159), (6, 2, 183), (6, 3, 223), (6, 4, 263), (6, 5, 307), (6, 7, 69), (6, 8, 80), (6, 9, 91), (6, 10, 103), (6, 11, 115), (6, 12, 132), (7, 1, 160), (7, 2, 184), (7, 3, 224), (7, 4, 264), (7, 5, 308), (7, 8, 81), (7, 9, 92), (7, 10, 104), (7, 11, 116), (7, 12, 133), (8, 1, 161), (8, 2, 185), (8, 3, 225), (8, 4, 265), (8, 5, 309), (8, 9, 93), (8, 10, 105), (8, 11, 117), (8, 12, 134), (9, 1, 162), (9, 2, 186), (9, 3, 226), (9, 4, 266), (9, 5, 310), (9, 10, 106), (9, 11, 118), (9, 12, 135), (10, 1, 163), (10, 2, 187), (10, 3, 227), (10, 4, 267), (10, 5, 311), (10, 11, 119), (10, 12, 136), (11, 1, 164), (11, 2, 188), (11, 3, 228), (11, 4, 268), (11, 5, 312), (11, 12, 137), (12, 1, 165), (12, 2, 189), (12, 3, 229), (12, 4, 269), (12, 5, 313)]
theorem lx_f1 : ∀ i ∈ List.range 13, lx_fl[lx_bs.getD i 0]? = some (Cond.exactly (lx_tm i) "java/lang/String") ∧ lx_fl[lx_bs.getD i 0 + 1]? = some (Cond.eq (.field (lx_tm i) "java/lang/String" "coder" "B") (.int 0)) ∧ lx_fl[lx_bs.getD i 0 + 2]? = some (Cond.arrayOf (.field (lx_tm i) "java/lang/String" "value" "[B") .byte) ∧ lx_fl[lx_bs.getD i 0 + 3]? = some (Cond.eq (.length (.field (lx_tm i) "java/lang/String" "value" "[B")) (.int (Int32.ofNat (st_len.getD i 0)))) := by decide +kernel
theorem lx_f2 : ∀ i ∈ List.range 13, ∀ j ∈ List.range (st_len.getD i 0), lx_fl[lx_bs.getD i 0 + 4 + j]? = some (Cond.eq (.elem (.field (lx_tm i) "java/lang/String" "value" "[B") (.int (Int32.ofNat j))) (.int ((st_byt.getD i []).getD j 0))) := by decide +kernel
theorem lx_f3a : ∀ q ∈ lx_ne, lx_fl[q.2.2]? = some (Cond.not (Cond.eq (lx_tm q.1) (lx_tm q.2.1))) := by decide +kernel
theorem lx_f3b : ∀ i ∈ List.range 13, ∀ j ∈ List.range 13, i ≠ j → (lx_ne.any (fun q => q.1 == i && q.2.1 == j)) = true ∨ (lx_ne.any (fun q => q.1 == j && q.2.1 == i)) = true := by decide +kernel
theorem lx_f3c {i j : Nat} (h : (lx_ne.any (fun q => q.1 == i && q.2.1 == j)) = true) : Cond.not (Cond.eq (lx_tm i) (lx_tm j)) ∈ lx_fl := by
  obtain ⟨q, hq, h1⟩ := List.any_eq_true.mp h
  obtain ⟨rfl, rfl⟩ := tb_key h1
  exact List.mem_of_getElem? (lx_f3a q hq)
theorem lx_f3 {i j : Nat} (hi : i < 13) (hj : j < 13) (h : i ≠ j) : Cond.not (Cond.eq (lx_tm i) (lx_tm j)) ∈ lx_fl ∨ Cond.not (Cond.eq (lx_tm j) (lx_tm i)) ∈ lx_fl := (lx_f3b i (List.mem_range.mpr hi) j (List.mem_range.mpr hj) h).imp lx_f3c lx_f3c
theorem lx_f4 : ∀ i ∈ List.range 13, Cond.stringRef (st_own.getD i ("", 0, "")).1 (st_own.getD i ("", 0, "")).2.1 (st_own.getD i ("", 0, "")).2.2 ∈ lw_tbl := by decide +kernel
theorem lx_f5 : Cond.isRef (.static "java/lang/Throwable" "UNASSIGNED_STACK" "[Ljava/lang/StackTraceElement;") ∈ lx_fl ∧ Cond.isRef (.static "java/lang/Throwable" "SUPPRESSED_SENTINEL" "Ljava/util/List;") ∈ lx_fl ∧ Cond.eq (.static "java/lang/String" "COMPACT_STRINGS" "Z") (.int 1) ∈ lx_fl ∧ Cond.isRef (.static "jdk/internal/util/Preconditions" "SIOOBE_FORMATTER" "Ljava/util/function/BiFunction;") ∈ lx_fl ∧ Cond.not (Cond.castable "java/lang/IllegalStateException" "java/lang/IllegalArgumentException") ∈ lx_fl := ⟨List.mem_of_getElem? (i := 4) (by decide +kernel), List.mem_of_getElem? (i := 5) (by decide +kernel), List.mem_of_getElem? (i := 6) (by decide +kernel), List.mem_of_getElem? (i := 7) (by decide +kernel), List.mem_of_getElem? (i := 21) (by decide +kernel)⟩
theorem lx_f6 : Cond.laysStatic "java/lang/Throwable" "UNASSIGNED_STACK" "[Ljava/lang/StackTraceElement;" ∈ lw_tbl ∧ Cond.laysStatic "java/lang/Throwable" "SUPPRESSED_SENTINEL" "Ljava/util/List;" ∈ lw_tbl ∧ Cond.laysStatic "java/lang/String" "COMPACT_STRINGS" "Z" ∈ lw_tbl ∧ Cond.laysStatic "jdk/internal/util/Preconditions" "SIOOBE_FORMATTER" "Ljava/util/function/BiFunction;" ∈ lw_tbl ∧ Cond.initialized "java/lang/Throwable" ∈ lw_tbl ∧ Cond.initialized "java/lang/String" ∈ lw_tbl ∧ Cond.initialized "jdk/internal/util/Preconditions" ∈ lw_tbl := by decide +kernel
theorem lx_f7 : Cond.arrayClass .int ∈ lw_tbl ∧ Cond.arrayClass .long ∈ lw_tbl ∧ Cond.arrayClass .char ∈ lw_tbl ∧ Cond.arrayClass .boolean ∈ lw_tbl ∧ Cond.arrayOver (.object "ConditionDesk$Condition") ∈ lw_tbl := by decide +kernel
def lx_inC (ci : Nat) : Bool := match tb_cl[ci]? with
  | some c => lw_tbl.any (fun w => decide (w = Cond.instantiable c.1 c.2.2))
  | none => true
theorem lx_f8 : ∀ ci ∈ List.range 10, lx_inC ci = true := by decide +kernel
theorem lx_prim {args : Array Value} {s : State} {ty : FieldType} (h : (Cond.arrayClass ty).before args s = true) (hty : ∀ C, ty ≠ .object C) : ∃ cA, ArrOfT s cA ty ∧ va_RA s cA ty := by
  obtain ⟨c, k, comp, h1, h2, h3⟩ := Cond.arrayClass_spec h
  refine ⟨c, fun n z => ⟨fun k h => (by cases h), k, h2, comp, h3⟩, ?_⟩
  cases ty <;> first | exact h1 | exact absurd rfl (hty _)
theorem st_Zx {N0 : Nat} {adK adK' adV : Nat → Nat} {U : State} (h : st_Z N0 adK adV U) (he : ∀ j, j < 13 → adK' j = adK j) : st_Z N0 adK' adV U := by
  refine ⟨⟨fun i hi => ?_, fun i j hi hj hij => ?_⟩, h.2.1, h.2.2.1, fun j q hq => ?_, h.2.2.2.2⟩
  · rw [he i hi]; exact h.1.1 i hi
  · rw [he i hi, he j hj] at hij; exact h.1.2 i j hi hj hij
  · have hj : j < 13 := (List.getElem?_eq_some_iff.mp hq).1
    rw [he j hj]; exact h.2.2.2.1 j q hq
set_option maxHeartbeats 4000000 in
theorem lx_init {s : State} {b : Nat} (hts : ∀ w ∈ lw_tbl, w.before #[Value.ref b] s = true) (hgv : (Jvm.Cond.and given_1 narrow_1).before #[Value.ref b] s = true) :
    ∃ (D : va_G) (tys : xm_T) (adK adV : Nat → Nat), xm_TT tb_tt tys ∧ va_K D tb_cl tys s ∧ hl_G s.heap.size adK adV s ∧ adK 1000 = b := by
  have hfl : ∀ w ∈ lx_fl, w.before #[Value.ref b] s = true := flat_of_before _ hgv
  have hA : ∀ a : Nat, a < s.heap.size → ¬ (fun q : Nat => s.heap.size ≤ q) a := fun a h => Nat.not_le.mpr h
  -- strings
  have hlenB : ∀ i : Nat, i < 13 → st_len.getD i 0 < 2 ^ 31 := by
    intro i hi
    have h : ∀ i ∈ List.range 13, st_len.getD i 0 < 2 ^ 31 := by decide +kernel
    exact h i (List.mem_range.mpr hi)
  obtain ⟨adK, adV, hvS, hev⟩ := vk_Sof (N := 13) (tm := lx_tm) (len := st_len) (byt := st_byt) (A := fun q => s.heap.size ≤ q) (s := s) (args := #[Value.ref b]) hlenB
    (fun i hi => hfl _ (List.mem_of_getElem? (lx_f1 i (List.mem_range.mpr hi)).1)) (fun i hi => hfl _ (List.mem_of_getElem? (lx_f1 i (List.mem_range.mpr hi)).2.1)) (fun i hi => hfl _ (List.mem_of_getElem? (lx_f1 i (List.mem_range.mpr hi)).2.2.1)) (fun i hi => hfl _ (List.mem_of_getElem? (lx_f1 i (List.mem_range.mpr hi)).2.2.2))
    (fun i hi j hj => hfl _ (List.mem_of_getElem? (lx_f2 i (List.mem_range.mpr hi) j (List.mem_range.mpr hj)))) (fun i j hi hj hne => (lx_f3 hi hj hne).imp (hfl _) (hfl _)) hA
  have hvR : ∀ j q, st_own[j]? = some q → vk_R q.1 q.2.1 q.2.2 (adK j) s := by
    intro j q hq
    have hj : j < 13 := (List.getElem?_eq_some_iff.mp hq).1
    have e1 : st_own.getD j ("", 0, "") = q := by rw [List.getD_eq_getElem?_getD, hq]; rfl
    have w1 := hts _ (lx_f4 j (List.mem_range.mpr hj))
    have w2 := hev j hj
    rw [e1] at w1
    unfold lx_tm at w2
    rw [e1] at w2
    exact vk_R.of w1 w2
  -- statics
  have hcs : (Term.static "java/lang/String" "COMPACT_STRINGS" "Z").eval #[Value.ref b] s none [] s = some (.int 1) := by
    have h := hfl _ lx_f5.2.2.1
    cases hv : (Term.static "java/lang/String" "COMPACT_STRINGS" "Z").eval #[Value.ref b] s none [] s with
    | none => simp [Cond.before, Cond.holds, Cond.value, hv] at h
    | some w =>
      have e2 : (Term.int 1).eval #[Value.ref b] s none [] s = some (.int 1) := rfl
      simp only [Cond.before, Cond.holds, Cond.value, hv, e2] at h
      cases w <;> simp at h
      rw [h]
  have hZ : st_Z s.heap.size adK adV s := ⟨hvS, va_Zof (hts _ lx_f6.2.2.1) (hts _ lx_f6.2.2.2.2.2.1) hcs hA, va_Zqof (hts _ lx_f6.2.2.2.1) (hts _ lx_f6.2.2.2.2.2.2) (hfl _ lx_f5.2.2.2.1) hA, hvR, va_Zqof (hts _ lx_f6.1) (hts _ lx_f6.2.2.2.2.1) (hfl _ lx_f5.1) hA, va_Zqof (hts _ lx_f6.2.1) (hts _ lx_f6.2.2.2.2.1) (hfl _ lx_f5.2.1) hA, th_L.of (hts _ lx_f6.1) hA, th_L.of (hts _ lx_f6.2.1) hA⟩
  -- arrays
  obtain ⟨a0, p0, q0⟩ := lx_prim (hts _ lx_f7.1) (fun C h => by cases h)
  obtain ⟨a1, p1, q1⟩ := lx_prim (hts _ lx_f7.2.1) (fun C h => by cases h)
  obtain ⟨a2, p2, q2⟩ := lx_prim (hts _ lx_f7.2.2.1) (fun C h => by cases h)
  obtain ⟨a3, p3, q3⟩ := lx_prim (hts _ lx_f7.2.2.2.1) (fun C h => by cases h)
  have hao := hts _ lx_f7.2.2.2.2
  obtain ⟨comp, a4, k4, g1, -, g3, g4, g5⟩ := Cond.arrayOver_spec hao
  have hty : ∀ (k : Nat) (q : ClassId × FieldType), [(a0, FieldType.int), (a1, .long), (a2, .char), (a3, .boolean), (a4, .object "ConditionDesk$Condition")][k]? = some q → ArrOfT s q.1 q.2 ∧ va_RA s q.1 q.2 := by
    intro k q hq
    match k, hq with
    | 0, hq => cases hq; exact ⟨p0, q0⟩
    | 1, hq => cases hq; exact ⟨p1, q1⟩
    | 2, hq => cases hq; exact ⟨p2, q2⟩
    | 3, hq => cases hq; exact ⟨p3, q3⟩
    | 4, hq => cases hq; exact ⟨fun n z => ⟨fun k h => (by cases h), k4, g3, comp, g4⟩, k4, comp, g3, g4, g1, g5⟩
    | k + 5, hq => simp at hq
  -- classes
  have hcl : ∀ ci : Nat, ∃ w : ClassId × (Nat → Nat), ∀ q : vw_C, tb_cl[ci]? = some q → u_Kn s q.1 q.2.1 q.2.2 w.1 w.2 := by
    intro ci
    cases hq : tb_cl[ci]? with
    | none => exact ⟨(0, fun _ => 0), fun q h => by cases h⟩
    | some q =>
      obtain ⟨C, T, N⟩ := q
      have hl : ci < 10 := (List.getElem?_eq_some_iff.mp hq).1
      have h8 := lx_f8 ci (List.mem_range.mpr hl)
      simp only [lx_inC, hq] at h8
      obtain ⟨w, hw, hw2⟩ := List.any_eq_true.mp h8
      have hw3 := of_decide_eq_true hw2
      rw [hw3] at hw
      obtain ⟨cC, iS, hkn⟩ := u_known (C := C) (T := T) (N := N) (n := N) (ws := tb_gd) (args := #[Value.ref b]) (s := s) (fun w hw => hts w (List.mem_filter.mp hw).1) (tb_cl_ws hq) (hts _ hw)
      exact ⟨(cC, iS), fun q h => by cases h; exact hkn⟩
  have hD := Classical.choose_spec (Classical.axiomOfChoice hcl)
  refine ⟨(fun ci => ((Classical.choose (Classical.axiomOfChoice hcl)) ci).1, fun ci => ((Classical.choose (Classical.axiomOfChoice hcl)) ci).2), [(a0, .int), (a1, .long), (a2, .char), (a3, .boolean), (a4, .object "ConditionDesk$Condition")], fun j => if j = 1000 then b else adK j, adV, ?_, ⟨fun c q hq => hD c q hq, hty⟩, ⟨⟨?_, va_AO.of hao, st_Zx hZ (fun j hj => if_neg (by omega))⟩, ?_⟩, if_pos rfl⟩
  · intro t ty ht
    match t, ht with
    | 0, ht => cases ht; rfl
    | 1, ht => cases ht; rfl
    | 2, ht => cases ht; rfl
    | 3, ht => cases ht; rfl
    | 4, ht => cases ht; rfl
    | t + 5, ht => simp [tb_tt] at ht
  · intro w hw hn
    refine va_Nw.of ?_ (hts w hw)
    cases w <;> first | rfl | cases hn
  · have h := Cond.holds_not_iff.mp (hfl _ lx_f5.2.2.2.2)
    simp only [Cond.value] at h
    cases h1 : s.vm.findClass "java/lang/IllegalStateException" with
    | none => simp [h1] at h
    | some c =>
      cases h2 : s.vm.findClass "java/lang/IllegalArgumentException" with
      | none => simp [h1, h2] at h
      | some t => simp [h1, h2] at h; exact ⟨c, t, h1, h2, h⟩
end
section
/-! THE CLAIM OUT OF ONE WALK OF THE LAW'S BODY. Your part is whole_start (and what it stands on); all else here is the same for every law, but numbers. -/
def R_law : String := "ConditionDeskLaw"
def lw_P (b : Addr) (xs : List Int32) (args : Array Value) (s : State) : Prop := args = #[.ref b] ∧ s.IntsAt b xs ∧ xs.length ≤ 1536 ∧ (Jvm.Cond.and given_1 narrow_1).before args s = true
def lw_Q (_ : Array Value) (s : State) (o : Outcome) (t : State) : Prop := o = .returned (some (.int 1)) ∧ Framed s o t [] 601024 7293034
def lw_Z (below : List Frame) (a : Array Value) (s : State) : State → Prop := fun t => ∃ o, t.status = .running ∧ Ended t below o ∧ lw_Q a s o t
/-- the law's own end, with 1 on the stack, nothing written that was there before, its room as the claim has it -/
theorem lw_ret {p : Program} {l : Launch} {e : Env} {s : State} {m : MethodId} {below : List Frame} {meth : Method} {c : Code} {b : Nat} (hx : p.tables.exec = Jvm.exec) (hb : c.code = code) (hr : meth.sig.returnType = ret) (hlocks : meth.locks = false) {pc : Nat} {H : Heap} {ls : Array Slot} (hdg : decode code pc = .ok (.ireturn, 1)) : W p l e room_1 s m #[Value.ref b] below meth c H [] 601024 7293034 (lw_Z below #[Value.ref b] s) (F0 m pc ls [.int 1]) := by
  intro T hT X
  obtain ⟨fs, hret, hrun, hended, hW, hframe⟩ := X.leave (v := some (.int 1)) (hlocks := hlocks) (fun h => by rw [hr] at h; cases h)
  have hmeth' : T.vm.method? m = some meth := X.method'
  refine ⟨T.setFrames fs, ?_, .returned (some (.int 1)), hrun, hended, rfl, ⟨_, rfl⟩, hW, hframe⟩
  jvm_step X.here [X.here.top, hx, hb, hdg, hmeth', hr, ret, narrow_b1]
  (try refine ⟨rfl, ?_⟩); (try refine ⟨rfl, ?_⟩)
  first | (intro acts; rw [hret _ acts rfl rfl rfl]) | rw [hret _ _ rfl rfl rfl]
  exact Steps.refl _
/-- what holds at the law's entry: the machine, the code, the tables' words (any of lw_tbl by 'hts w (by decide +kernel)'), the script of L ints xs at the cell b, what the Statement gives of the start (any of its parts by flat_of_before) -/
def lw_At (p : Program) (s : State) (m : MethodId) (meth : Method) (c : Code) (b L : Nat) (xs : Nat → Int32) : Prop :=
  p.tables.exec = Jvm.exec ∧ c.code = code ∧ meth.sig.returnType = ret ∧ c.maxLocals = 8 ∧ s.vm.findClass R_law = some m.cls ∧ (∀ w ∈ lw_tbl, w.before #[Value.ref b] s = true) ∧ va_X b L xs s s.heap ∧ b < s.heap.size ∧ meth.locks = false ∧ (Jvm.Cond.and given_1 narrow_1).before #[Value.ref b] s = true
def lx_S : Nat := xm_K0 + 1000
/-- the law's own steps: the script is read, a constant is laid -/
def lx_xt (xs : Nat → Int32) (L : Nat) (i : Jvm.ClassFile.Instr) (n : Nat) (st : List Value) (A : xm_H) : xm_P :=
  match i with
  | .iaload => if n = 1 then (match st with
    | .int z :: .ref a :: rest => if a = lx_S then (xm_ix z L).map (fun k => (.int (xs k) :: rest, A)) else none
    | _ => none) else none
  | .arraylength => if n = 1 then (match st with
    | .ref a :: rest => if a = lx_S then some (.int (Int32.ofNat L) :: rest, A) else none
    | _ => none) else none
  | .ldc2_w x => if n = 3 ∧ x = 65 then some (.long 4294967295 :: st, A) else none
  | _ => none
theorem lx_xl {xs : Nat → Int32} {L : Nat} {i : Jvm.ClassFile.Instr} {n : Nat} {st st' : List Value} {A A' : xm_H} (h : lx_xt xs L i n st A = some (st', A')) : A'.length = A.length := by
  cases i
  case iaload =>
    obtain ⟨-, h1⟩ := xm_if h
    split at h1
    · obtain ⟨-, h2⟩ := xm_if h1
      obtain ⟨k, -, h3⟩ := xm_map h2
      cases h3; rfl
    · cases h1
  case arraylength =>
    obtain ⟨-, h1⟩ := xm_if h
    split at h1
    · obtain ⟨-, h2⟩ := xm_if h1
      cases h2; rfl
    · cases h1
  case ldc2_w x =>
    obtain ⟨-, h1⟩ := xm_if h
    cases h1; rfl
  all_goals exact absurd h (by simp [lx_xt])
/-- a helper's callee throws, and the helper answers rc -/
def hl_TH (F d j : Nat) (A : xm_H) (As : List Value) (rc : Int32) : Prop := ∃ (f1 f2 pc x k xx hpc pcr : Nat) (ls ls' : xm_L) (st As' rest : List Value), (lg_sl As).length ≤ hl_L j ∧ xm_sr (hl_b j) (hl_L j) f1 0 (lv_args 0 As) [] = some (pc, ls, st) ∧ decode (hl_b j) pc = .ok (.invokevirtual x, 3) ∧ xm_ca tb_oc (tb_cr 10) (.invokevirtual x) 3 st A = some (k, As', rest) ∧
  tb_eo F (d + 1) k A As' = some (.inr xx) ∧ (xx = 1 ∨ xx = 2) ∧ hl_to pc xx (hl_h j) = some hpc ∧ xm_sr (hl_b j) (hl_L j) f2 hpc [] [.ref 0] = some (pcr, ls', [.int rc]) ∧ decode (hl_b j) pcr = .ok (.ireturn, 1)
/-- a helper: 'orc' says beforehand whether it catches, and then what it answers -/
noncomputable def hl_f (F d : Nat) (orc : Nat → xm_H → List Value → Option Int32) (j : Nat) (A : xm_H) (As : List Value) : Option (xm_H × Value × Nat × Nat) := match orc j A As with
  | none => (match hl_rn F (d + 1) j A As with
    | some (A', .inl (some v), c1, s1) => if A'.length = A.length then some (A', v, c1, s1) else none
    | _ => none)
  | some rc => @ite _ (hl_TH F d j A As rc) (Classical.propDecidable _) (some (A, .int rc, 1, 6)) none
noncomputable def lx_xc (F d : Nat) (orc : Nat → xm_H → List Value → Option Int32) (i : Jvm.ClassFile.Instr) (n : Nat) (st : List Value) (A : xm_H) : Option (List Value × xm_H × Nat × Nat) :=
  match i with
  | .invokestatic x => if n = 3 then (match hl_x.find? (fun q => q.1 == x) with
    | some q => (match xm_ss q.2.2.1 st with
      | some (As, rest) => (hl_f F d orc q.2.1 A As).map (fun z => (z.2.1 :: rest, z.1, z.2.2.1, z.2.2.2))
      | none => none)
    | none => none) else none
  | _ => none
theorem hl_f_s {F d j : Nat} {orc : Nat → xm_H → List Value → Option Int32} {A A' : xm_H} {As : List Value} {v : Value} {c1 s1 : Nat} (h : hl_f F d orc j A As = some (A', v, c1, s1)) : A'.length = A.length ∧ (hl_rn F (d + 1) j A As = some (A', .inl (some v), c1, s1) ∨ ∃ rc, hl_TH F d j A As rc ∧ A' = A ∧ v = .int rc ∧ c1 = 1 ∧ s1 = 6) := by
  unfold hl_f at h
  split at h
  · split at h
    · rename_i A1 v1 c2 s2 h1
      obtain ⟨h2, h3⟩ := xm_if h
      simp only [Option.some.injEq, Prod.mk.injEq] at h3
      obtain ⟨rfl, rfl, rfl, rfl⟩ := h3
      exact ⟨h2, Or.inl h1⟩
    · cases h
  · rename_i rc _
    split at h
    · rename_i hT
      simp only [Option.some.injEq, Prod.mk.injEq] at h
      obtain ⟨rfl, rfl, rfl, rfl⟩ := h
      exact ⟨rfl, Or.inr ⟨rc, hT, rfl, rfl, rfl, rfl⟩⟩
    · cases h
theorem lx_xc_s {F d : Nat} {orc : Nat → xm_H → List Value → Option Int32} {i : Jvm.ClassFile.Instr} {n : Nat} {st st' : List Value} {A A' : xm_H} {c1 s1 : Nat} (h : lx_xc F d orc i n st A = some (st', A', c1, s1)) :
    ∃ x j na i1 i2 As rest v, i = .invokestatic x ∧ n = 3 ∧ (x, j, na, i1, i2) ∈ hl_x ∧ xm_ss na st = some (As, rest) ∧ hl_f F d orc j A As = some (A', v, c1, s1) ∧ st' = v :: rest := by
  cases i
  case invokestatic x =>
    obtain ⟨rfl, h1⟩ := xm_if h
    split at h1
    · rename_i q hq
      obtain ⟨x', j, na, i1, i2⟩ := q
      have hm := List.mem_of_find?_eq_some hq
      have hp := List.find?_some hq
      have hx : x' = x := by simpa using hp
      subst hx
      split at h1
      · rename_i As rest hss
        obtain ⟨z, hz, h2⟩ := xm_map h1
        obtain ⟨A1, v, c2, s2⟩ := z
        simp only [Prod.mk.injEq] at h2
        obtain ⟨rfl, rfl, rfl, rfl⟩ := h2
        exact ⟨_, _, _, _, _, _, _, _, rfl, rfl, hm, hss, hz, rfl⟩
      · cases h1
    · cases h1
  all_goals exact absurd h (by simp [lx_xc])
/-- the law's run -/
noncomputable def lx_run (F d : Nat) (orc : Nat → xm_H → List Value → Option Int32) (xs : Nat → Int32) (L : Nat) (f pc : Nat) (ls : xm_L) (st : List Value) (A : xm_H) (nc ns : Nat) : Option xm_R := xm_rn (tb_ex F (d + 2)) (lx_xt xs L) (lx_xc F d orc) tb_cl tb_tt tb_ft (tb_fr 10) none (tb_nr 10) (tb_qr 10) tb_ta tb_oc (tb_cr 10) code 8 ret f pc ls st A nc ns
theorem lx_k65 : Cond.constantLong "ConditionDeskLaw" 65 4294967295 ∈ tb_gd := tb_gd_in (i := 1127) (by decide +kernel) rfl
set_option maxRecDepth 100000 in
theorem lx_rl {d : Nat} (h : d ≤ 1000) : 64 * (d + 2) + 2064 ≤ 84000 := by omega
section LXA
variable {p : Program} {e : Env} {s : State} {m : MethodId} {below : List Frame} {meth : Method} {c : Code} {l : Launch} {b L : Nat} {xs : Nat → Int32}
set_option maxHeartbeats 8000000 in
theorem lx_whole (hfl : l.flags = flags0) (C0 : lw_At p s m meth c b L xs) {F f d : Nat} {orc : Nat → xm_H → List Value → Option Int32} {A' : xm_H} {c1 s1 : Nat} (hd : d ≤ 1000) (hc : c1 ≤ 601024) (hs : s1 ≤ 7293034) (h : lx_run F d orc xs L f 0 [(0, .ref lx_S)] [] [] 0 0 = some (A', .inl (some (.int 1)), c1, s1)) :
    W p l e room_1 s m #[Value.ref b] below meth c s.heap [] 0 0 (lw_Z below #[Value.ref b] s) (entryFrame m ([Value.ref b] : List Value).toArray 8) := by
  obtain ⟨hx, hb, hr, hml, hown, hts, hX, hbl, hlocks, hgv⟩ := id C0
  obtain ⟨D, tys, adK, adV, hTT, hK, hG, hb1⟩ := lx_init hts hgv
  have hgd : ∀ w ∈ tb_gd, w.before #[Value.ref b] s = true := fun w hw => hts w (List.mem_filter.mp hw).1
  have hAd : ∀ q : Nat, s.heap.size ≤ q → (fun q : Nat => s.heap.size ≤ q) q := fun _ h => h
  have hbA : ¬ (fun q : Nat => s.heap.size ≤ q) b := Nat.not_le.mpr hbl
  obtain ⟨hFR, hNR, hQR, hTA, hCR⟩ := tb_SFo (st_Z s.heap.size adK adV) 10 "ConditionDeskLaw" hl_nm #[Value.ref b] s lw_tbl (fun w hw => (List.mem_filter.mp hw).1) hgd hG.1
  have S : CallFix p m c code 8 s #[Value.ref b] lw_tbl "ConditionDeskLaw" := ⟨hx, hb, hml, hown, hts⟩
  have hNI' : xm_NI tb_cl "ConditionDeskLaw" meth none := fun ci hci => by cases hci
  have hl := lv_entry ([.ref b]) (n := 8) (Nat.le_of_ble_eq_true rfl)
  rw [lg_entry_eq]
  generalize (lg_sl ([.ref b]) ++ List.replicate (8 - (lg_sl ([.ref b])).length) Slot.unset).toArray = ls at hl ⊢
  have hl : lv_has ls 8 [(0, .ref b)] := hl
  have hS : va_S (fun q : Nat => s.heap.size ≤ q) s.heap s.heap [] := va_S.rf
  have hP : va_P D tb_cl (xm_w tys (fun j => adK (j - xm_K0)) []) s.heap := fun k q h => by simp [xm_w] at h
  have hD : va_D (fun q : Nat => s.heap.size ≤ q) (xm_w tys (fun j => adK (j - xm_K0)) []) := ⟨fun i j p q h => by simp [xm_w] at h, fun k q h => by simp [xm_w] at h⟩
  have hlS : ∀ r : Nat → Nat, (∀ j, xm_K0 ≤ j → r j = (fun j => adK (j - xm_K0)) j) → r lx_S = b := fun r hr => by
    rw [hr lx_S (Nat.le_add_right _ _)]
    show adK (xm_K0 + 1000 - xm_K0) = b
    rw [Nat.add_sub_cancel_left]
    exact hb1
  have hl0 : lv_has ls 8 (xm_lm (fun j => adK (j - xm_K0)) [(0, .ref lx_S)]) := by
    show lv_has ls 8 [(0, .ref (adK (lx_S - xm_K0)))]
    have := hlS (fun j => adK (j - xm_K0)) (fun _ _ => rfl)
    rw [show adK (lx_S - xm_K0) = b from this]
    exact hl
  refine xm_rn_ok (lt := fun j => adK (j - xm_K0)) (G := tb_G (st_Z s.heap.size adK adV)) (d := d + 2) (r0 := fun j => adK (j - xm_K0)) (n0 := 0) (N0 := s.heap.size) (Ad := fun q : Nat => s.heap.size ≤ q) (R := room_1) (Ts := lw_tbl) S tb_CL hFR hNI' hTT hNR hQR hTA hCR (fun w hw => (List.mem_filter.mp hw).1) tb_good (tb_G1 st_Z1) (fun H1 locs1 U a b c9 => tb_G2 st_Z2 s U H1 locs1 hG.1 a b c9) (xm_ex_mono (fun k i n st A st' A' h => tb_xo_len h) (d + 2)) (fun _ _ => rfl) (tb_ex_ok hTT (d + 2)) (fun _ _ _ _ _ _ h => lx_xl h) ?_ (fun _ _ _ _ _ _ _ _ h => by
      obtain ⟨_, _, _, _, _, _, _, _, -, -, -, -, hf, -⟩ := lx_xc_s h
      exact (hl_f_s hf).1) ?_ (by show d + 2 + 21 ≤ 2048; omega) (lx_rl hd) hc hs (Nat.le_refl _) hAd (fun _ h => h) hK ?_ f 0 [(0, .ref lx_S)] [] [] 0 0 (fun j => adK (j - xm_K0)) s.heap [] ls h (Nat.le_refl _) xm_ag.rf (fun _ => rfl) hl0 hP hD hS
  · -- the law's own steps
    intro i n pc st A st' A2 r H locs lsR cells slots hrl h9 hdg hls hcl hsl hP9 hD9 hS9 kk
    cases i
    case iaload =>
      obtain ⟨rfl, h1⟩ := xm_if h9
      split at h1
      · obtain ⟨rfl, h2⟩ := xm_if h1
        obtain ⟨k, hk, h3⟩ := xm_map h2
        simp only [Prod.mk.injEq] at h3
        obtain ⟨rfl, rfl⟩ := h3
        obtain ⟨hin, rfl, -⟩ := xm_ix_s hk
        rename_i z rest
        show W p l e room_1 s m _ below meth c H locs cells slots _ (F0 m pc lsR (.int z :: .ref (r lx_S) :: rest.map (xm_v r)))
        rw [hlS r hrl]
        exact va_sld hx hb hX hbl hbA hS9 hin hdg (kk H locs hP9 hD9 hS9)
      · cases h1
    case arraylength =>
      obtain ⟨rfl, h1⟩ := xm_if h9
      split at h1
      · obtain ⟨rfl, h2⟩ := xm_if h1
        simp only [Option.some.injEq, Prod.mk.injEq] at h2
        obtain ⟨rfl, rfl⟩ := h2
        rename_i rest
        show W p l e room_1 s m _ below meth c H locs cells slots _ (F0 m pc lsR (.ref (r lx_S) :: rest.map (xm_v r)))
        rw [hlS r hrl]
        exact va_slen hx hb hX hbl hbA hS9 hdg (kk H locs hP9 hD9 hS9)
      · cases h1
    case ldc2_w x =>
      obtain ⟨⟨rfl, rfl⟩, h1⟩ := xm_if h9
      simp only [Option.some.injEq, Prod.mk.injEq] at h1
      obtain ⟨rfl, rfl⟩ := h1
      exact lv_ldc2 hx hb hown (hgd _ lx_k65) hdg (kk H locs hP9 hD9 hS9)
    all_goals exact absurd h9 (by simp [lx_xt])
  · -- helpers
    intro i n pc st A st' A2 c2 s2 r H locs lsR cells slots hrl h9 hdg hls hcl hsl hP9 hD9 hS9 kk
    obtain ⟨x, j, na, i1, i2, As, rest, v, rfl, rfl, hm, hss, hf, rfl⟩ := lx_xc_s h9
    obtain ⟨hlen, hf2⟩ := hl_f_s hf
    have hj : j < 7 := by
      have hc := hl_xA _ hm
      simp only [hl_xC, Bool.and_eq_true, decide_eq_true_eq] at hc
      exact hc.1.1.1.1
    have hM : Met l (hl_y j) (hl_ws j) (xm_rm (d + 2) c2 s2) (xm_Pc D tb_cl tys s.heap.size (hl_G s.heap.size adK adV) r A H.size As) (xm_Q D tb_cl tys r A.length H.size A2 (some v)) c2 s2 (xm_ad r A.length H.size) := by
      rcases hf2 with hf2 | ⟨rc, hT, rfl, rfl, rfl, rfl⟩
      · exact hl_ret hTT (d + 1) j hj A As A2 (some v) c2 s2 r hrl hf2 H.size
      · obtain ⟨f1, f2, pc9, x9, k9, xx, hpc, pcr, ls1, ls2, st9, As', rest', t1, t2, t3, t4, t5, t6, t7, t8, t9⟩ := hT
        exact hl_thr hfl hTT d j hj _ As r H.size t1 t2 t3 t4 t5 t6 t7 t8 t9
    refine hl_call (G := hl_G s.heap.size adK adV) (d := d + 2) S hm hss hdg (fun w hw => (List.mem_filter.mp hw).1) hl_G1 (fun H1 locs1 U a b c9 => hl_G2 s U H1 locs1 hG a b c9) hM (by show d + 2 + 21 ≤ 2048; omega) (lx_rl hd) hcl hsl hls (Nat.le_refl _) hAd (fun _ h => h) hK hP9 hD9 hS9 (fun r' H1 locs1 e1 e2 e3 e4 e5 => ?_)
    obtain rfl := e2 hlen
    exact kk H1 locs1 e3 e4 e5
  · -- the end
    intro v hv i n pc st r H locs lsR hdg hre hag hre2 hP' hD' hS'
    cases hv
    refine va_forget hS'.2.2 (W.widen hc hs ?_)
    have key : i = .ireturn ∧ n = 1 ∧ st = [.int 1] := by
      cases i
      case return_ =>
        obtain ⟨-, h0⟩ := xm_if hre
        split at h0 <;> cases h0
      case ireturn =>
        obtain ⟨rfl, h0⟩ := xm_if hre
        split at h0
        · obtain ⟨-, h2⟩ := xm_if h0
          cases h2
          exact ⟨rfl, rfl, rfl⟩
        · cases h0
      case lreturn =>
        obtain ⟨-, h0⟩ := xm_if hre
        split at h0 <;> cases h0
      case areturn =>
        obtain ⟨-, h0⟩ := xm_if hre
        split at h0 <;> cases h0
      all_goals exact absurd hre (by simp [xm_re])
    obtain ⟨rfl, rfl, rfl⟩ := key
    exact lw_ret hx hb hr hlocks hdg
end LXA
end
section
/-! More fuel, and callees that answer more, give the same. -/
set_option maxHeartbeats 4000000 in
theorem xm_rn_up {call call' : Nat → xm_H → List Value → Option xm_R} {xt : Jvm.ClassFile.Instr → Nat → List Value → xm_H → xm_P} {xc xc' : Jvm.ClassFile.Instr → Nat → List Value → xm_H → Option (List Value × xm_H × Nat × Nat)}
    {cl : List vw_C} {tt : List FieldType} {ft : Nat → Nat → FieldType} {fr : Nat → Option (Nat × Nat × Bool)} {ini : Option Nat} {nr qr : Nat → Option Nat} {ta : Jvm.ClassFile.ArrayType → Option Nat} {oc : Nat → Nat} {cr : Nat → Option (Nat × Nat × Bool × Nat)} {cc : ByteArray} {nL : Nat} {ret : Option FieldType} {R : xm_R}
    (hcall : ∀ k A As r, call k A As = some r → call' k A As = some r) (hxc : ∀ i n st A q, xc i n st A = some q → xc' i n st A = some q) :
    ∀ (f f' pc : Nat) (ls : xm_L) (st : List Value) (A : xm_H) (nc ns : Nat), f ≤ f' → xm_rn call xt xc cl tt ft fr ini nr qr ta oc cr cc nL ret f pc ls st A nc ns = some R → xm_rn call' xt xc' cl tt ft fr ini nr qr ta oc cr cc nL ret f' pc ls st A nc ns = some R := by
  intro f
  induction f with
  | zero => intro f' pc ls st A nc ns hf h; cases h
  | succ f ih =>
    intro f' pc ls st A nc ns hf h
    cases f' with
    | zero => omega
    | succ f' =>
      have hf' : f ≤ f' := Nat.le_of_succ_le_succ hf
      rw [xm_rn] at h ⊢
      cases hd : decode cc pc with
      | error e => rw [hd] at h; cases h
      | ok q =>
        obtain ⟨i, n⟩ := q
        rw [hd] at h
        dsimp only at h ⊢
        cases h1 : xm_pu nL i n ls st with
        | some q => rw [h1] at h; exact ih _ _ _ _ _ _ _ hf' h
        | none =>
          rw [h1] at h
          dsimp only at h ⊢
          cases h2 : xm_br i n pc st with
          | some q =>
            rw [h2] at h
            dsimp only at h ⊢
            by_cases hb : q.1 = true
            · rw [if_pos hb] at h ⊢; exact ih _ _ _ _ _ _ _ hf' h
            · rw [if_neg hb] at h ⊢; exact ih _ _ _ _ _ _ _ hf' h
          | none =>
            rw [h2] at h
            dsimp only at h ⊢
            cases h3 : xm_hp cl tt ft fr ini i n st A with
            | some q => rw [h3] at h; exact ih _ _ _ _ _ _ _ hf' h
            | none =>
              rw [h3] at h
              dsimp only at h ⊢
              cases h4 : xm_re ret i n st with
              | some v => rw [h4] at h; exact h
              | none =>
                rw [h4] at h
                dsimp only at h ⊢
                cases h5 : xm_ca oc cr i n st A with
                | some q =>
                  rw [h5] at h
                  dsimp only at h ⊢
                  cases h6 : call q.1 A q.2.1 with
                  | none => rw [h6] at h; cases h
                  | some r =>
                    rw [h6] at h
                    rw [hcall _ _ _ _ h6]
                    obtain ⟨A', o, c1, s1⟩ := r
                    cases o with
                    | inr x => cases h
                    | inl v =>
                      dsimp only at h ⊢
                      obtain ⟨hc, h⟩ := xm_if h
                      rw [if_pos hc]
                      exact ih _ _ _ _ _ _ _ hf' h
                | none =>
                  rw [h5] at h
                  dsimp only at h ⊢
                  cases h7 : xm_nw cl tt ft nr qr ta i n st with
                  | some q =>
                    rw [h7] at h
                    dsimp only at h ⊢
                    obtain ⟨hc, h⟩ := xm_if h
                    rw [if_pos hc]
                    exact ih _ _ _ _ _ _ _ hf' h
                  | none =>
                    rw [h7] at h
                    dsimp only at h ⊢
                    cases h8 : xt i n st A with
                    | some q => rw [h8] at h; exact ih _ _ _ _ _ _ _ hf' h
                    | none =>
                      rw [h8] at h
                      dsimp only at h ⊢
                      cases h9 : xc i n st A with
                      | none => rw [h9] at h; cases h
                      | some q =>
                        rw [h9] at h
                        rw [hxc _ _ _ _ _ h9]
                        exact ih _ _ _ _ _ _ _ hf' h
theorem tb_ex_up {F F' : Nat} (hF : F ≤ F') : ∀ (d d' k : Nat) (A : xm_H) (As : List Value) (R : xm_R), d ≤ d' → tb_ex F d k A As = some R → tb_ex F' d' k A As = some R := by
  intro d
  induction d with
  | zero => intro d' k A As R _ h; cases h
  | succ d ih =>
    intro d' k A As R hd h
    cases d' with
    | zero => omega
    | succ d' =>
      have hd' : d ≤ d' := Nat.le_of_succ_le_succ hd
      unfold tb_ex at h ⊢
      rw [xm_ex] at h ⊢
      obtain ⟨hc, h⟩ := xm_if h
      rw [if_pos hc]
      exact xm_rn_up (fun k A As r h => ih d' k A As r hd' h) (fun _ _ _ _ _ h => h) _ _ _ _ _ _ _ _ hF h
end
section
/-! Printed by wip/whole/gen_sk.py. The law's heap: 120 cells; every int by place and slot (I), every long (J); references stay as they are. -/
abbrev dI : Type := Nat → Nat → Int32
abbrev dJ : Type := Nat → Nat → Int64
abbrev sk_E : Type := (Nat × List Nat) ⊕ (Nat × Nat × Nat)
def sk_f (f : Nat → Int32) (g : Nat → Int64) (k : Nat) (c : Nat) : Value := match c with
  | 0 => .int (f k)
  | 1 => .long (g k)
  | r + 2 => .ref r
def sk_e (Q : Nat → Option Nat) (e : sk_E) (f : Nat → Int32) (g : Nat → Int64) : va_E := match e with
  | .inl (ci, cs) => .inr (ci, cs.mapIdx (sk_f f g))
  | .inr (t, n, 0) => .inl (t, n, .inl f)
  | .inr (t, n, 1) => .inl (t, n, .inr (.inl g))
  | .inr (t, n, _ + 2) => .inl (t, n, .inr (.inr (.inr (.inr Q))))
def SK : List sk_E := [.inl (8, [3, 5, 8, 21, 1]), .inl (5, [4, 0]), .inr (2, 120, 0), .inl (2, [6, 7, 1]), .inr (0, 34, 0), .inr (0, 256, 0), .inl (0, [3, 20, 9, 14, 16, 18, 0]), .inl (4, [10, 11, 12, 13, 0, 0]), .inr (0, 40, 0),
  .inr (0, 40, 0), .inr (0, 40, 0), .inr (1, 40, 1), .inl (3, [15, 0]), .inr (0, 80, 0), .inl (3, [17, 0]), .inr (0, 40, 0), .inl (3, [19, 0]), .inr (0, 8, 0),
  .inl (6, [3, 0, 0, 0, 1]), .inr (4, 8, 2), .inl (1, [23, 0, 0, 1, 1, 1, 1]), .inl (7, [5, 24, 29, 30, 0, 0, 0]), .inl (4, [25, 26, 27, 28, 0, 0]), .inr (0, 40, 0), .inr (0, 40, 0), .inr (0, 40, 0), .inr (1, 40, 1),
  .inr (1, 40, 1), .inr (1, 40, 1), .inl (1, [32, 0, 0, 1, 1, 1, 1]), .inl (7, [5, 33, 38, 39, 0, 0, 0]), .inl (4, [34, 35, 36, 37, 0, 0]), .inr (0, 40, 0), .inr (0, 40, 0), .inr (0, 40, 0), .inr (1, 40, 1),
  .inr (1, 40, 1), .inr (1, 40, 1), .inl (1, [41, 0, 0, 1, 1, 1, 1]), .inl (7, [5, 42, 47, 48, 0, 0, 0]), .inl (4, [43, 44, 45, 46, 0, 0]), .inr (0, 40, 0), .inr (0, 40, 0), .inr (0, 40, 0), .inr (1, 40, 1),
  .inr (1, 40, 1), .inr (1, 40, 1), .inl (1, [50, 0, 0, 1, 1, 1, 1]), .inl (7, [5, 51, 56, 57, 0, 0, 0]), .inl (4, [52, 53, 54, 55, 0, 0]), .inr (0, 40, 0), .inr (0, 40, 0), .inr (0, 40, 0), .inr (1, 40, 1),
  .inr (1, 40, 1), .inr (1, 40, 1), .inl (1, [59, 0, 0, 1, 1, 1, 1]), .inl (7, [5, 60, 65, 66, 0, 0, 0]), .inl (4, [61, 62, 63, 64, 0, 0]), .inr (0, 40, 0), .inr (0, 40, 0), .inr (0, 40, 0), .inr (1, 40, 1),
  .inr (1, 40, 1), .inr (1, 40, 1), .inl (1, [68, 0, 0, 1, 1, 1, 1]), .inl (7, [5, 69, 74, 75, 0, 0, 0]), .inl (4, [70, 71, 72, 73, 0, 0]), .inr (0, 40, 0), .inr (0, 40, 0), .inr (0, 40, 0), .inr (1, 40, 1),
  .inr (1, 40, 1), .inr (1, 40, 1), .inl (1, [77, 0, 0, 1, 1, 1, 1]), .inl (7, [5, 78, 83, 84, 0, 0, 0]), .inl (4, [79, 80, 81, 82, 0, 0]), .inr (0, 40, 0), .inr (0, 40, 0), .inr (0, 40, 0), .inr (1, 40, 1),
  .inr (1, 40, 1), .inr (1, 40, 1), .inl (1, [86, 0, 0, 1, 1, 1, 1]), .inl (7, [5, 87, 92, 93, 0, 0, 0]), .inl (4, [88, 89, 90, 91, 0, 0]), .inr (0, 40, 0), .inr (0, 40, 0), .inr (0, 40, 0), .inr (1, 40, 1),
  .inr (1, 40, 1), .inr (1, 40, 1), .inl (9, [0, 0, 95, 96, 97, 1, 98, 99, 100, 101, 102, 103, 104, 105, 106, 107, 108, 109, 110, 111, 1, 0, 0, 0, 0, 0, 0, 1, 112, 113, 114, 115, 0, 0, 0, 1, 116, 117, 118, 119, 120]), .inr (2, 120, 0), .inr (0, 34, 0), .inr (0, 256, 0), .inr (3, 8, 0), .inr (3, 8, 0), .inr (0, 8, 0),
  .inr (0, 8, 0), .inr (0, 8, 0), .inr (0, 8, 0), .inr (0, 8, 0), .inr (1, 8, 1), .inr (1, 8, 1), .inr (0, 960, 0), .inr (0, 960, 0), .inr (1, 960, 1),
  .inr (1, 960, 1), .inr (1, 120, 1), .inr (0, 120, 0), .inr (0, 120, 0), .inr (0, 10, 0), .inr (1, 120, 1), .inr (0, 130, 0), .inr (0, 130, 0), .inr (0, 130, 0),
  .inr (0, 130, 0), .inr (1, 130, 1), .inr (1, 1, 1)]
def bld (Q : Nat → Option Nat) (I : dI) (J : dJ) : xm_H := SK.mapIdx (fun p e => sk_e Q e (I p) (J p))
def rI (I : dI) (p : Nat) (f : Nat → Int32) : dI := fun q => if q = p then f else I q
def rJ (J : dJ) (p : Nat) (f : Nat → Int64) : dJ := fun q => if q = p then f else J q
def sI (I : dI) (p k : Nat) (v : Int32) : dI := rI I p (upd (I p) k v)
def sJ (J : dJ) (p k : Nat) (v : Int64) : dJ := rJ J p (vp_updL (J p) k v)
theorem rI_self (I : dI) (p : Nat) : rI I p (I p) = I := by
  funext q
  by_cases h : q = p
  · subst h; simp [rI]
  · simp [rI, h]
theorem rJ_self (J : dJ) (p : Nat) : rJ J p (J p) = J := by
  funext q
  by_cases h : q = p
  · subst h; simp [rJ]
  · simp [rJ, h]
section HPA
variable {Q : Nat → Option Nat} {I : dI} {J : dJ} {p k : Nat}
theorem bld_len : (bld Q I J).length = 120 := by
  simp [bld]
  rfl
theorem bld_get {e : sk_E} (h : SK[p]? = some e) : (bld Q I J)[p]? = some (sk_e Q e (I p) (J p)) := by
  simp [bld, List.getElem?_mapIdx, h]
theorem bld_set {e : sk_E} (h : SK[p]? = some e) (f : Nat → Int32) (g : Nat → Int64) : (bld Q I J).set p (sk_e Q e f g) = bld Q (rI I p f) (rJ J p g) := by
  apply List.ext_getElem?
  intro q
  by_cases hq : p = q
  · subst hq
    have hl : p < SK.length := (List.getElem?_eq_some_iff.mp h).1
    have e1 : p < (bld Q I J).length := by simpa [bld] using hl
    rw [List.getElem?_set, if_pos rfl, if_pos e1, bld_get h]
    simp [rI, rJ]
  · have hq' : ¬ q = p := fun e => hq e.symm
    rw [List.getElem?_set, if_neg hq]
    simp [bld, List.getElem?_mapIdx, rI, rJ, hq']
theorem bld_setI {e : sk_E} (h : SK[p]? = some e) (f : Nat → Int32) : (bld Q I J).set p (sk_e Q e f (J p)) = bld Q (rI I p f) J := by
  rw [bld_set h, rJ_self]
theorem bld_setJ {e : sk_E} (h : SK[p]? = some e) (g : Nat → Int64) : (bld Q I J).set p (sk_e Q e (I p) g) = bld Q I (rJ J p g) := by
  rw [bld_set h, rI_self]
theorem sk_setI {cs : List Nat} {f : Nat → Int32} {g : Nat → Int64} {v : Int32} (h : cs[k]? = some 0) : (cs.mapIdx (sk_f f g)).set k (.int v) = cs.mapIdx (sk_f (upd f k v) g) := by
  apply List.ext_getElem?
  intro q
  have hl : k < cs.length := (List.getElem?_eq_some_iff.mp h).1
  by_cases hq : k = q
  · subst hq
    rw [List.getElem?_set, if_pos rfl, if_pos (by simpa using hl), List.getElem?_mapIdx, h]
    simp [sk_f, upd]
  · rw [List.getElem?_set, if_neg hq, List.getElem?_mapIdx, List.getElem?_mapIdx]
    cases hc : cs[q]? with
    | none => rfl
    | some c =>
      have hq' : ¬ q = k := fun e => hq e.symm
      match c with
      | 0 => simp [sk_f, upd, hq']
      | 1 => rfl
      | r + 2 => rfl
theorem sk_setJ {cs : List Nat} {f : Nat → Int32} {g : Nat → Int64} {v : Int64} (h : cs[k]? = some 1) : (cs.mapIdx (sk_f f g)).set k (.long v) = cs.mapIdx (sk_f f (vp_updL g k v)) := by
  apply List.ext_getElem?
  intro q
  have hl : k < cs.length := (List.getElem?_eq_some_iff.mp h).1
  by_cases hq : k = q
  · subst hq
    rw [List.getElem?_set, if_pos rfl, if_pos (by simpa using hl), List.getElem?_mapIdx, h]
    simp [sk_f, vp_updL]
  · rw [List.getElem?_set, if_neg hq, List.getElem?_mapIdx, List.getElem?_mapIdx]
    cases hc : cs[q]? with
    | none => rfl
    | some c =>
      have hq' : ¬ q = k := fun e => hq e.symm
      match c with
      | 0 => rfl
      | 1 => simp [sk_f, vp_updL, hq']
      | r + 2 => rfl
end HPA
/-- fewer locals are known here than there -/
def xm_sub (ls l2 : xm_L) : Prop := (∀ q ∈ ls, q ∈ l2) ∧ ∀ q ∈ l2, ∀ q' ∈ l2, q.1 = q'.1 → q = q'
theorem xm_sub_ld {ls l2 : xm_L} {i : Nat} {v : Value} (h : xm_sub ls l2) (e : xm_ld ls i = some v) : xm_ld l2 i = some v := by
  have hm := h.1 _ (xm_ld_mem e)
  unfold xm_ld
  cases hf : l2.find? (fun q => q.1 == i) with
  | none =>
    have := List.find?_eq_none.mp hf _ hm
    simp at this
  | some q =>
    have hq : q.1 = i := by simpa using List.find?_some hf
    have hm2 := List.mem_of_find?_eq_some hf
    have := h.2 _ hm2 _ hm hq
    rw [this]
    rfl
theorem xm_sub_s1 {ls l2 : xm_L} {i : Nat} {v : Value} (h : xm_sub ls l2) : xm_sub (xm_s1 ls i v) (xm_s1 l2 i v) := by
  refine ⟨fun q hq => ?_, fun q hq q' hq' he => ?_⟩
  · rcases List.mem_cons.mp hq with rfl | hq
    · exact List.mem_cons_self
    · obtain ⟨h1, h2⟩ := List.mem_filter.mp hq
      exact List.mem_cons_of_mem _ (List.mem_filter.mpr ⟨h.1 _ h1, h2⟩)
  · rcases List.mem_cons.mp hq with rfl | hq
    · rcases List.mem_cons.mp hq' with rfl | hq'
      · rfl
      · obtain ⟨h1, h2⟩ := List.mem_filter.mp hq'
        simp only [Bool.and_eq_true, Bool.not_eq_true', beq_eq_false_iff_ne] at h2
        exact absurd he.symm h2.1
    · obtain ⟨h1, h2⟩ := List.mem_filter.mp hq
      rcases List.mem_cons.mp hq' with rfl | hq'
      · simp only [Bool.and_eq_true, Bool.not_eq_true', beq_eq_false_iff_ne] at h2
        exact absurd he h2.1
      · exact h.2 _ h1 _ (List.mem_filter.mp hq').1 he
theorem xm_sub_s2 {ls l2 : xm_L} {i : Nat} {v : Value} (h : xm_sub ls l2) : xm_sub (xm_s2 ls i v) (xm_s2 l2 i v) := by
  refine ⟨fun q hq => ?_, fun q hq q' hq' he => ?_⟩
  · rcases List.mem_cons.mp hq with rfl | hq
    · exact List.mem_cons_self
    · obtain ⟨h1, h2⟩ := List.mem_filter.mp hq
      exact List.mem_cons_of_mem _ (List.mem_filter.mpr ⟨h.1 _ h1, h2⟩)
  · rcases List.mem_cons.mp hq with rfl | hq
    · rcases List.mem_cons.mp hq' with rfl | hq'
      · rfl
      · obtain ⟨h1, h2⟩ := List.mem_filter.mp hq'
        simp only [Bool.and_eq_true, Bool.not_eq_true', beq_eq_false_iff_ne] at h2
        exact absurd he.symm h2.1
    · obtain ⟨h1, h2⟩ := List.mem_filter.mp hq
      rcases List.mem_cons.mp hq' with rfl | hq'
      · simp only [Bool.and_eq_true, Bool.not_eq_true', beq_eq_false_iff_ne] at h2
        exact absurd he h2.1
      · exact h.2 _ h1 _ (List.mem_filter.mp hq').1 he
set_option maxHeartbeats 4000000 in
theorem xm_pu_sub {nL n : Nat} {i : Jvm.ClassFile.Instr} {ls ls' l2 : xm_L} {st st' : List Value} (h : xm_sub ls l2) (e : xm_pu nL i n ls st = some (ls', st')) : ∃ l2', xm_pu nL i n l2 st = some (l2', st') ∧ xm_sub ls' l2' := by
  cases i
  all_goals first
    | (simp [xm_pu] at e; done)
    | (obtain ⟨rfl, e1⟩ := xm_if e
       first
       | (cases e1; exact ⟨l2, rfl, h⟩)
       | (obtain ⟨x, hx, rfl, rfl⟩ := xm_li_s e1; exact ⟨l2, by simp [xm_pu, xm_li, xm_sub_ld h hx], h⟩)
       | (obtain ⟨x, hx, rfl, rfl⟩ := xm_ll_s e1; exact ⟨l2, by simp [xm_pu, xm_ll, xm_sub_ld h hx], h⟩)
       | (obtain ⟨rfl, ⟨x, hx, rfl⟩ | ⟨hx, rfl⟩⟩ := xm_la_s e1 <;> exact ⟨l2, by simp [xm_pu, xm_la, xm_sub_ld h hx], h⟩)
       | (obtain ⟨x, rfl, hj, rfl⟩ := xm_si_s e1; exact ⟨xm_s1 l2 _ (.int x), by simp [xm_pu, xm_si, hj], xm_sub_s1 h⟩)
       | (obtain ⟨x, rfl, hj, rfl⟩ := xm_sl_s e1; exact ⟨xm_s2 l2 _ (.long x), by simp [xm_pu, xm_sl, hj], xm_sub_s2 h⟩)
       | (obtain ⟨hj, ⟨x, rfl, rfl⟩ | ⟨rfl, rfl⟩⟩ := xm_sa_s e1
          · exact ⟨xm_s1 l2 _ (.ref x), by simp [xm_pu, xm_sa, hj], xm_sub_s1 h⟩
          · exact ⟨xm_s1 l2 _ .null, by simp [xm_pu, xm_sa, hj], xm_sub_s1 h⟩)
       | (obtain ⟨x, y, t, rfl, rfl, rfl⟩ := xm_ii_s e1; exact ⟨l2, rfl, h⟩)
       | (obtain ⟨x, y, t, rfl, rfl, rfl⟩ := xm_jj_s e1; exact ⟨l2, rfl, h⟩)
       | (obtain ⟨x, y, t, rfl, hy, rfl, rfl⟩ := xm_id_s e1; exact ⟨l2, by simp [xm_pu, xm_id, hy], h⟩)
       | (obtain ⟨x, y, t, rfl, hy, rfl, rfl⟩ := xm_jd_s e1; exact ⟨l2, by simp [xm_pu, xm_jd, hy], h⟩)
       | (obtain ⟨x, y, t, rfl, rfl, rfl⟩ := xm_ji_s e1; exact ⟨l2, rfl, h⟩)
       | (obtain ⟨x, y, t, rfl, rfl, rfl⟩ := xm_jc_s e1; exact ⟨l2, rfl, h⟩)
       | (obtain ⟨x, t, rfl, rfl, rfl⟩ := xm_i1_s e1; exact ⟨l2, rfl, h⟩)
       | (obtain ⟨x, t, rfl, rfl, rfl⟩ := xm_j1_s e1; exact ⟨l2, rfl, h⟩)
       | (split at e1
          · rename_i x hx
            obtain ⟨hj, e2⟩ := xm_if e1
            cases e2
            exact ⟨xm_s1 l2 _ (.int (x + _)), by simp [xm_pu, xm_sub_ld h hx, hj], xm_sub_s1 h⟩
          · cases e1)
       | (split at e1
          · obtain ⟨hj, e2⟩ := xm_if e1
            cases e2
            exact ⟨l2, by simp [xm_pu, hj], h⟩
          · cases e1)
       | (split at e1
          · split at e1
            · rename_i hj
              cases e1
              exact ⟨l2, by simp [xm_pu, hj], h⟩
            · rename_i hj
              split at e1
              · obtain ⟨hj2, e2⟩ := xm_if e1
                cases e2
                exact ⟨l2, by simp [xm_pu, hj, hj2], h⟩
              · cases e1
          · cases e1))
/-- a body's run from a place on; a method's run (nothing is made) -/
def xn (F D k f pc : Nat) (ls : xm_L) (st : List Value) (A : xm_H) : Option xm_R := xm_rn (tb_ex F D) (tb_xt k) xm_x0 tb_cl tb_tt tb_ft (tb_fr (tb_oc k)) (tb_ini k) (tb_nr (tb_oc k)) (tb_qr (tb_oc k)) tb_ta tb_oc (tb_cr (tb_oc k)) (tb_mb k) (tb_mL k) (tb_mr k) f pc ls st A 0 0
def Rn (Q : Nat → Option Nat) (D k pc : Nat) (ls : xm_L) (st : List Value) (I : dI) (J : dJ) (v : Option Value) (I' : dI) (J' : dJ) : Prop := ∀ l2, xm_sub ls l2 → ∃ F f, xn F D k f pc l2 st (bld Q I J) = some (bld Q I' J', .inl v, 0, 0)
def Ex (Q : Nat → Option Nat) (D k : Nat) (I : dI) (J : dJ) (As : List Value) (v : Option Value) (I' : dI) (J' : dJ) : Prop := ∃ F, tb_ex F D k (bld Q I J) As = some (bld Q I' J', .inl v, 0, 0)
section HPB
variable {Q : Nat → Option Nat} {D k pc n : Nat} {ls ls' : xm_L} {st st' : List Value} {I I' : dI} {J J' : dJ} {v : Option Value} {i : Jvm.ClassFile.Instr}
theorem Ex.up {D' : Nat} {As : List Value} (h : Ex Q D k I J As v I' J') (hD : D ≤ D') : Ex Q D' k I J As v I' J' := by
  obtain ⟨F, h⟩ := h
  exact ⟨F, tb_ex_up (Nat.le_refl _) _ _ _ _ _ _ hD h⟩
theorem Ex.of {As : List Value} (hk : tb_mok k = true) (hl : (lg_sl As).length ≤ tb_mL k) (ha : xm_sub ls (lv_args 0 As)) (h : Rn Q D k 0 ls [] I J v I' J') : Ex Q (D + 1) k I J As v I' J' := by
  obtain ⟨F, f, h⟩ := h _ ha
  refine ⟨F + f, ?_⟩
  unfold tb_ex
  rw [xm_ex, if_pos ⟨hk, hl⟩]
  exact xm_rn_up (fun k A As r h => tb_ex_up (Nat.le_add_right F f) _ _ _ _ _ _ (Nat.le_refl _) h) (fun _ _ _ _ _ h => h) _ _ _ _ _ _ _ _ (Nat.le_add_left f F) h
theorem Rn.wk (is : List Nat) (hs : is.filterMap (fun i => ls[i]?) = ls') (h : Rn Q D k pc ls' st I J v I' J') : Rn Q D k pc ls st I J v I' J' := by
  intro l2 h2
  refine h l2 ⟨fun q hq => h2.1 q ?_, h2.2⟩
  subst hs
  obtain ⟨i, -, hi⟩ := List.mem_filterMap.mp hq
  exact List.mem_of_getElem? hi
theorem Rn.pu {nL : Nat} (hd : decode (tb_mb k) pc = .ok (i, n)) (hL : tb_mL k = nL) (hp : xm_pu nL i n ls st = some (ls', st')) (h : Rn Q D k (pc + n) ls' st' I J v I' J') : Rn Q D k pc ls st I J v I' J' := by
  intro l2 h2
  obtain ⟨l2', hp', h2'⟩ := xm_pu_sub h2 hp
  obtain ⟨F, f, h⟩ := h l2' h2'
  refine ⟨F, f + 1, ?_⟩
  unfold xn at h ⊢
  rw [xm_rn, hd]
  dsimp only
  rw [hL] at h ⊢
  rw [hp']
  exact h
theorem Rn.br {b : Bool} {t : Nat} (hd : decode (tb_mb k) pc = .ok (i, n)) (hp : ∀ nL l, xm_pu nL i n l st = none) (hb : xm_br i n pc st = some (b, t, st')) (h : Rn Q D k (if b = true then t else pc + n) ls st' I J v I' J') : Rn Q D k pc ls st I J v I' J' := by
  intro l2 h2
  obtain ⟨F, f, h⟩ := h l2 h2
  refine ⟨F, f + 1, ?_⟩
  unfold xn at h ⊢
  rw [xm_rn, hd]
  dsimp only
  rw [hp]
  dsimp only
  rw [hb]
  dsimp only
  cases b with
  | true => rw [if_pos rfl] at h ⊢; exact h
  | false => rw [if_neg Bool.false_ne_true] at h ⊢; exact h
theorem Rn.hp (hd : decode (tb_mb k) pc = .ok (i, n)) (hp : ∀ nL l, xm_pu nL i n l st = none) (hb : xm_br i n pc st = none) {I1 : dI} {J1 : dJ} (hh : xm_hp tb_cl tb_tt tb_ft (tb_fr (tb_oc k)) (tb_ini k) i n st (bld Q I J) = some (st', bld Q I1 J1)) (h : Rn Q D k (pc + n) ls st' I1 J1 v I' J') : Rn Q D k pc ls st I J v I' J' := by
  intro l2 h2
  obtain ⟨F, f, h⟩ := h l2 h2
  refine ⟨F, f + 1, ?_⟩
  unfold xn at h ⊢
  rw [xm_rn, hd]
  dsimp only
  rw [hp]
  dsimp only
  rw [hb]
  dsimp only
  rw [hh]
  dsimp only
  exact h
theorem Rn.re (hd : decode (tb_mb k) pc = .ok (i, n)) (hp : ∀ nL l, xm_pu nL i n l st = none) (hb : xm_br i n pc st = none) (hh : ∀ fr A, xm_hp tb_cl tb_tt tb_ft fr (tb_ini k) i n st A = none) (hr : xm_re (tb_mr k) i n st = some v) : Rn Q D k pc ls st I J v I J := by
  intro l2 h2
  refine ⟨0, 1, ?_⟩
  unfold xn
  rw [xm_rn, hd]
  dsimp only
  rw [hp]
  dsimp only
  rw [hb]
  dsimp only
  rw [hh]
  dsimp only
  rw [hr]
theorem Rn.ca {k' : Nat} {As rest : List Value} {w : Option Value} {I1 : dI} {J1 : dJ} (hd : decode (tb_mb k) pc = .ok (i, n)) (hp : ∀ nL l, xm_pu nL i n l st = none) (hb : xm_br i n pc st = none) (hh : ∀ fr A, xm_hp tb_cl tb_tt tb_ft fr (tb_ini k) i n st A = none) (hr : ∀ r, xm_re r i n st = none)
    (hc : xm_ca tb_oc (tb_cr (tb_oc k)) i n st (bld Q I J) = some (k', As, rest)) (he : Ex Q D k' I J As w I1 J1) (h : Rn Q D k (pc + 3) ls (w.toList ++ rest) I1 J1 v I' J') : Rn Q D k pc ls st I J v I' J' := by
  intro l2 h2
  obtain ⟨F, f, h⟩ := h l2 h2
  obtain ⟨F1, he⟩ := he
  refine ⟨F1 + F, f + 1, ?_⟩
  unfold xn at h ⊢
  rw [xm_rn, hd]
  dsimp only
  rw [hp]
  dsimp only
  rw [hb]
  dsimp only
  rw [hh]
  dsimp only
  rw [hr]
  dsimp only
  rw [hc]
  dsimp only
  rw [tb_ex_up (Nat.le_add_right F1 F) _ _ _ _ _ _ (Nat.le_refl _) he]
  dsimp only
  rw [if_pos (Or.inl (by rw [bld_len, bld_len]))]
  exact xm_rn_up (fun k A As r h => tb_ex_up (Nat.le_add_left F F1) _ _ _ _ _ _ (Nat.le_refl _) h) (fun _ _ _ _ _ h => h) _ _ _ _ _ _ _ _ (Nat.le_refl _) h
theorem Rn.xt {I1 : dI} {J1 : dJ} (hd : decode (tb_mb k) pc = .ok (i, n)) (hp : ∀ nL l, xm_pu nL i n l st = none) (hb : xm_br i n pc st = none) (hh : ∀ fr A, xm_hp tb_cl tb_tt tb_ft fr (tb_ini k) i n st A = none) (hr : ∀ r, xm_re r i n st = none)
    (hc : xm_ca tb_oc (tb_cr (tb_oc k)) i n st (bld Q I J) = none) (hw : xm_nw tb_cl tb_tt tb_ft (tb_nr (tb_oc k)) (tb_qr (tb_oc k)) tb_ta i n st = none) (hx : tb_xt k i n st (bld Q I J) = some (st', bld Q I1 J1)) (h : Rn Q D k (pc + n) ls st' I1 J1 v I' J') : Rn Q D k pc ls st I J v I' J' := by
  intro l2 h2
  obtain ⟨F, f, h⟩ := h l2 h2
  refine ⟨F, f + 1, ?_⟩
  unfold xn at h ⊢
  rw [xm_rn, hd]
  dsimp only
  rw [hp]
  dsimp only
  rw [hb]
  dsimp only
  rw [hh]
  dsimp only
  rw [hr]
  dsimp only
  rw [hc]
  dsimp only
  rw [hw]
  dsimp only
  rw [hx]
  dsimp only
  exact h
end HPB
end
section
/-! A rule for each kind of step. -/
section RUA
variable {Q : Nat → Option Nat} {D k pc p x ci kk : Nat} {b : Bool} {cs : List Nat} {ls : xm_L} {st : List Value} {I I' : dI} {J J' : dJ} {v : Option Value} {t n : Nat}
theorem sk_get0 {cs : List Nat} {f : Nat → Int32} {g : Nat → Int64} {c : Nat} (h : cs[kk]? = some c) : (cs.mapIdx (sk_f f g))[kk]? = some (sk_f f g kk c) := by
  simp [List.getElem?_mapIdx, h]
theorem Rn.gI (hd : decode (tb_mb k) pc = .ok (.getfield x, 3)) (hf : tb_fr (tb_oc k) x = some (ci, kk, b)) (hs : SK[p]? = some (.inl (ci, cs))) (hc : cs[kk]? = some 0) (h : Rn Q D k (pc + 3) ls (.int (I p kk) :: st) I J v I' J') : Rn Q D k pc ls (.ref p :: st) I J v I' J' := by
  refine Rn.hp hd (fun _ _ => rfl) rfl ?_ h
  simp only [xm_hp, hf, if_true, xm_gf, bld_get hs, sk_e, sk_get0 hc, sk_f]
theorem Rn.gJ (hd : decode (tb_mb k) pc = .ok (.getfield x, 3)) (hf : tb_fr (tb_oc k) x = some (ci, kk, b)) (hs : SK[p]? = some (.inl (ci, cs))) (hc : cs[kk]? = some 1) (h : Rn Q D k (pc + 3) ls (.long (J p kk) :: st) I J v I' J') : Rn Q D k pc ls (.ref p :: st) I J v I' J' := by
  refine Rn.hp hd (fun _ _ => rfl) rfl ?_ h
  simp only [xm_hp, hf, if_true, xm_gf, bld_get hs, sk_e, sk_get0 hc, sk_f]
theorem Rn.gR {r : Nat} (hd : decode (tb_mb k) pc = .ok (.getfield x, 3)) (hf : tb_fr (tb_oc k) x = some (ci, kk, b)) (hs : SK[p]? = some (.inl (ci, cs))) (hc : cs[kk]? = some (r + 2)) (h : Rn Q D k (pc + 3) ls (.ref r :: st) I J v I' J') : Rn Q D k pc ls (.ref p :: st) I J v I' J' := by
  refine Rn.hp hd (fun _ _ => rfl) rfl ?_ h
  simp only [xm_hp, hf, if_true, xm_gf, bld_get hs, sk_e, sk_get0 hc, sk_f]
theorem Rn.pI {w : Int32} (hd : decode (tb_mb k) pc = .ok (.putfield x, 3)) (hf : tb_fr (tb_oc k) x = some (ci, kk, b)) (hs : SK[p]? = some (.inl (ci, cs))) (hc : cs[kk]? = some 0) (hg : xm_fin tb_cl (tb_ini k) b ci kk = true) (hn : narrow (tb_ft ci kk) (.int w) = .int w) (hi : fits (tb_ft ci kk) (.int w) = true) (h : Rn Q D k (pc + 3) ls st (sI I p kk w) J v I' J') : Rn Q D k pc ls (.int w :: .ref p :: st) I J v I' J' := by
  refine Rn.hp hd (fun _ _ => rfl) rfl ?_ h
  have hl : kk < cs.length := (List.getElem?_eq_some_iff.mp hc).1
  have e1 := bld_setI (Q := Q) (I := I) (J := J) hs (upd (I p) kk w)
  simp only [sk_e] at e1
  simp only [xm_hp, hf, if_true, xm_pf, bld_get hs, sk_e, List.length_mapIdx, hl, hg, hn, hi, true_and, and_true, sk_setI hc, e1, sI]
theorem Rn.pJ {w : Int64} (hd : decode (tb_mb k) pc = .ok (.putfield x, 3)) (hf : tb_fr (tb_oc k) x = some (ci, kk, b)) (hs : SK[p]? = some (.inl (ci, cs))) (hc : cs[kk]? = some 1) (hg : xm_fin tb_cl (tb_ini k) b ci kk = true) (hn : narrow (tb_ft ci kk) (.long w) = .long w) (hi : fits (tb_ft ci kk) (.long w) = true) (h : Rn Q D k (pc + 3) ls st I (sJ J p kk w) v I' J') : Rn Q D k pc ls (.long w :: .ref p :: st) I J v I' J' := by
  refine Rn.hp hd (fun _ _ => rfl) rfl ?_ h
  have hl : kk < cs.length := (List.getElem?_eq_some_iff.mp hc).1
  have e1 := bld_setJ (Q := Q) (I := I) (J := J) hs (vp_updL (J p) kk w)
  simp only [sk_e] at e1
  simp only [xm_hp, hf, if_true, xm_pf, bld_get hs, sk_e, List.length_mapIdx, hl, hg, hn, hi, true_and, and_true, sk_setJ hc, e1, sJ]
theorem Rn.iald {j : Int32} (hd : decode (tb_mb k) pc = .ok (.iaload, 1)) (hs : SK[p]? = some (.inr (0, n, 0))) (hj : ¬ (j < 0 ∨ n ≤ j.toNatClampNeg)) (h : Rn Q D k (pc + 1) ls (.int (I p j.toNatClampNeg) :: st) I J v I' J') : Rn Q D k pc ls (.int j :: .ref p :: st) I J v I' J' := by
  refine Rn.hp hd (fun _ _ => rfl) rfl ?_ h
  simp only [xm_hp, if_true, xm_ai, bld_get hs, sk_e, xm_ix, hj, not_false_eq_true, Option.map_some]
  rfl
theorem Rn.cald {j : Int32} (hd : decode (tb_mb k) pc = .ok (.caload, 1)) (hs : SK[p]? = some (.inr (2, n, 0))) (hj : ¬ (j < 0 ∨ n ≤ j.toNatClampNeg)) (h : Rn Q D k (pc + 1) ls (.int (I p j.toNatClampNeg) :: st) I J v I' J') : Rn Q D k pc ls (.int j :: .ref p :: st) I J v I' J' := by
  refine Rn.hp hd (fun _ _ => rfl) rfl ?_ h
  simp only [xm_hp, if_true, xm_ai, bld_get hs, sk_e, xm_ix, hj, not_false_eq_true, Option.map_some]
  rfl
theorem Rn.bald {j : Int32} (hd : decode (tb_mb k) pc = .ok (.baload, 1)) (hs : SK[p]? = some (.inr (3, n, 0))) (hj : ¬ (j < 0 ∨ n ≤ j.toNatClampNeg)) (h : Rn Q D k (pc + 1) ls (.int (I p j.toNatClampNeg) :: st) I J v I' J') : Rn Q D k pc ls (.int j :: .ref p :: st) I J v I' J' := by
  refine Rn.hp hd (fun _ _ => rfl) rfl ?_ h
  simp only [xm_hp, if_true, xm_ai, bld_get hs, sk_e, xm_ix, hj, not_false_eq_true, Option.map_some]
  rfl
theorem Rn.lald {j : Int32} (hd : decode (tb_mb k) pc = .ok (.laload, 1)) (hs : SK[p]? = some (.inr (1, n, 1))) (hj : ¬ (j < 0 ∨ n ≤ j.toNatClampNeg)) (h : Rn Q D k (pc + 1) ls (.long (J p j.toNatClampNeg) :: st) I J v I' J') : Rn Q D k pc ls (.int j :: .ref p :: st) I J v I' J' := by
  refine Rn.hp hd (fun _ _ => rfl) rfl ?_ h
  simp only [xm_hp, if_true, xm_al, bld_get hs, sk_e, xm_ix, hj, not_false_eq_true, Option.map_some]
  rfl
theorem Rn.iast {j w : Int32} (hd : decode (tb_mb k) pc = .ok (.iastore, 1)) (hs : SK[p]? = some (.inr (0, n, 0))) (hj : ¬ (j < 0 ∨ n ≤ j.toNatClampNeg)) (h : Rn Q D k (pc + 1) ls st (sI I p j.toNatClampNeg w) J v I' J') : Rn Q D k pc ls (.int w :: .int j :: .ref p :: st) I J v I' J' := by
  refine Rn.hp hd (fun _ _ => rfl) rfl ?_ h
  have e1 := bld_setI (Q := Q) (I := I) (J := J) hs (upd (I p) j.toNatClampNeg w)
  simp only [sk_e] at e1
  simp only [xm_hp, if_true, xm_bi, bld_get hs, sk_e, xm_ix, hj, not_false_eq_true, Option.map_some, e1, sI]
  rfl
theorem Rn.cast {j w : Int32} (hd : decode (tb_mb k) pc = .ok (.castore, 1)) (hs : SK[p]? = some (.inr (2, n, 0))) (hj : ¬ (j < 0 ∨ n ≤ j.toNatClampNeg)) (h : Rn Q D k (pc + 1) ls st (sI I p j.toNatClampNeg (vp_nar .char w)) J v I' J') : Rn Q D k pc ls (.int w :: .int j :: .ref p :: st) I J v I' J' := by
  refine Rn.hp hd (fun _ _ => rfl) rfl ?_ h
  have e1 := bld_setI (Q := Q) (I := I) (J := J) hs (upd (I p) j.toNatClampNeg (vp_nar .char w))
  simp only [sk_e] at e1
  simp only [xm_hp, if_true, xm_bi, bld_get hs, sk_e, xm_ix, hj, not_false_eq_true, Option.map_some, e1, sI]
  rfl
theorem Rn.bast {j w : Int32} (hd : decode (tb_mb k) pc = .ok (.bastore, 1)) (hs : SK[p]? = some (.inr (3, n, 0))) (hj : ¬ (j < 0 ∨ n ≤ j.toNatClampNeg)) (h : Rn Q D k (pc + 1) ls st (sI I p j.toNatClampNeg (vp_nar .boolean w)) J v I' J') : Rn Q D k pc ls (.int w :: .int j :: .ref p :: st) I J v I' J' := by
  refine Rn.hp hd (fun _ _ => rfl) rfl ?_ h
  have e1 := bld_setI (Q := Q) (I := I) (J := J) hs (upd (I p) j.toNatClampNeg (vp_nar .boolean w))
  simp only [sk_e] at e1
  simp only [xm_hp, if_true, xm_bi, bld_get hs, sk_e, xm_ix, hj, not_false_eq_true, Option.map_some, e1, sI]
  rfl
theorem Rn.last {j : Int32} {w : Int64} (hd : decode (tb_mb k) pc = .ok (.lastore, 1)) (hs : SK[p]? = some (.inr (1, n, 1))) (hj : ¬ (j < 0 ∨ n ≤ j.toNatClampNeg)) (h : Rn Q D k (pc + 1) ls st I (sJ J p j.toNatClampNeg w) v I' J') : Rn Q D k pc ls (.long w :: .int j :: .ref p :: st) I J v I' J' := by
  refine Rn.hp hd (fun _ _ => rfl) rfl ?_ h
  have e1 := bld_setJ (Q := Q) (I := I) (J := J) hs (vp_updL (J p) j.toNatClampNeg w)
  simp only [sk_e] at e1
  simp only [xm_hp, if_true, xm_bl, bld_get hs, sk_e, xm_ix, hj, not_false_eq_true, Option.map_some, e1, sJ]
  rfl
theorem Rn.alen {kd : Nat} (hd : decode (tb_mb k) pc = .ok (.arraylength, 1)) (hs : SK[p]? = some (.inr (t, n, kd))) (ht : t < 5) (h : Rn Q D k (pc + 1) ls (.int (Int32.ofNat n) :: st) I J v I' J') : Rn Q D k pc ls (.ref p :: st) I J v I' J' := by
  refine Rn.hp hd (fun _ _ => rfl) rfl ?_ h
  have ht' : t < tb_tt.length := ht
  match kd with
  | 0 => simp only [xm_hp, if_true, xm_an, bld_get hs, sk_e, ht']
  | 1 => simp only [xm_hp, if_true, xm_an, bld_get hs, sk_e, ht']
  | m + 2 => simp only [xm_hp, if_true, xm_an, bld_get hs, sk_e, ht']
/-- the conditions' array -/
theorem Rn.aald {j : Int32} (hQ : ∀ j, j < 8 → Q j = some (20 + 9 * j)) (hd : decode (tb_mb k) pc = .ok (.aaload, 1)) (hj : ¬ (j < 0 ∨ 8 ≤ j.toNatClampNeg)) (h : Rn Q D k (pc + 1) ls (.ref (20 + 9 * j.toNatClampNeg) :: st) I J v I' J') : Rn Q D k pc ls (.int j :: .ref 19 :: st) I J v I' J' := by
  refine Rn.hp hd (fun _ _ => rfl) rfl ?_ h
  have hs : SK[19]? = some (.inr (4, 8, 2)) := rfl
  have hq := hQ j.toNatClampNeg (Nat.not_le.mp fun q => hj (Or.inr q))
  simp only [xm_hp, if_true, xm_aq, bld_get hs, sk_e, xm_ix, hj, not_false_eq_true, Option.map_some, hq]
  rfl
/-- calls -/
theorem Rn.cv {k' na : Nat} {As rest : List Value} {w : Option Value} {I1 : dI} {J1 : dJ} (hd : decode (tb_mb k) pc = .ok (.invokevirtual x, 3)) (hc : tb_cr (tb_oc k) x = some (0, k', b, na)) (hv : xm_sv na st = some (p, As, rest)) (hs : SK[p]? = some (.inl (ci, cs))) (ho : tb_oc k' = ci)
    (he : Ex Q D k' I J (.ref p :: As) w I1 J1) (h : Rn Q D k (pc + 3) ls (w.toList ++ rest) I1 J1 v I' J') : Rn Q D k pc ls st I J v I' J' := by
  refine Rn.ca hd (fun _ _ => rfl) rfl (fun _ _ => rfl) (fun _ => rfl) ?_ he h
  simp only [xm_ca, if_true, hc, hv, bld_get hs, sk_e, ho]
theorem Rn.cst {k' na : Nat} {As rest : List Value} {w : Option Value} {I1 : dI} {J1 : dJ} (hd : decode (tb_mb k) pc = .ok (.invokestatic x, 3)) (hc : tb_cr (tb_oc k) x = some (1, k', b, na)) (hv : xm_ss na st = some (As, rest))
    (he : Ex Q D k' I J As w I1 J1) (h : Rn Q D k (pc + 3) ls (w.toList ++ rest) I1 J1 v I' J') : Rn Q D k pc ls st I J v I' J' := by
  refine Rn.ca hd (fun _ _ => rfl) rfl (fun _ _ => rfl) (fun _ => rfl) ?_ he h
  simp only [xm_ca, if_true, hc, hv]
/-- branches -/
theorem Rn.i1t {a : Jvm.ClassFile.Cond} {off : Int} {y : Int32} (hd : decode (tb_mb k) pc = .ok (.ifCond a off, 3)) (ht : xm_tg pc off = some t) (hc : xm_cd a y 0 = true) (h : Rn Q D k t ls st I J v I' J') : Rn Q D k pc ls (.int y :: st) I J v I' J' := by
  refine Rn.br (b := true) (t := t) hd (fun _ _ => rfl) ?_ (by rw [if_pos rfl]; exact h)
  simp only [xm_br, if_true, ht, Option.map_some, hc]
theorem Rn.i1f {a : Jvm.ClassFile.Cond} {off : Int} {y : Int32} (hd : decode (tb_mb k) pc = .ok (.ifCond a off, 3)) (ht : xm_tg pc off = some t) (hc : xm_cd a y 0 = false) (h : Rn Q D k (pc + 3) ls st I J v I' J') : Rn Q D k pc ls (.int y :: st) I J v I' J' := by
  refine Rn.br (b := false) (t := t) hd (fun _ _ => rfl) ?_ (by rw [if_neg Bool.false_ne_true]; exact h)
  simp only [xm_br, if_true, ht, Option.map_some, hc]
theorem Rn.i2t {a : Jvm.ClassFile.Cond} {off : Int} {y z : Int32} (hd : decode (tb_mb k) pc = .ok (.if_icmp a off, 3)) (ht : xm_tg pc off = some t) (hc : xm_cd a y z = true) (h : Rn Q D k t ls st I J v I' J') : Rn Q D k pc ls (.int z :: .int y :: st) I J v I' J' := by
  refine Rn.br (b := true) (t := t) hd (fun _ _ => rfl) ?_ (by rw [if_pos rfl]; exact h)
  simp only [xm_br, if_true, ht, Option.map_some, hc]
theorem Rn.i2f {a : Jvm.ClassFile.Cond} {off : Int} {y z : Int32} (hd : decode (tb_mb k) pc = .ok (.if_icmp a off, 3)) (ht : xm_tg pc off = some t) (hc : xm_cd a y z = false) (h : Rn Q D k (pc + 3) ls st I J v I' J') : Rn Q D k pc ls (.int z :: .int y :: st) I J v I' J' := by
  refine Rn.br (b := false) (t := t) hd (fun _ _ => rfl) ?_ (by rw [if_neg Bool.false_ne_true]; exact h)
  simp only [xm_br, if_true, ht, Option.map_some, hc]
theorem Rn.gt {off : Int} (hd : decode (tb_mb k) pc = .ok (.goto off, 3)) (ht : xm_tg pc off = some t) (h : Rn Q D k t ls st I J v I' J') : Rn Q D k pc ls st I J v I' J' := by
  refine Rn.br (b := true) (t := t) hd (fun _ _ => rfl) ?_ (by rw [if_pos rfl]; exact h)
  simp only [xm_br, if_true, ht, Option.map_some]
theorem Rn.sw {i : Jvm.ClassFile.Instr} (hd : decode (tb_mb k) pc = .ok (i, n)) (hp : ∀ nL l, xm_pu nL i n l st = none) {st' : List Value} (hb : xm_br i n pc st = some (true, t, st')) (h : Rn Q D k t ls st' I J v I' J') : Rn Q D k pc ls st I J v I' J' :=
  Rn.br (b := true) (t := t) hd hp hb (by rw [if_pos rfl]; exact h)
theorem Rn.sf {i : Jvm.ClassFile.Instr} (hd : decode (tb_mb k) pc = .ok (i, n)) (hp : ∀ nL l, xm_pu nL i n l st = none) {st' : List Value} (hb : xm_br i n pc st = some (false, t, st')) (h : Rn Q D k (pc + n) ls st' I J v I' J') : Rn Q D k pc ls st I J v I' J' :=
  Rn.br (b := false) (t := t) hd hp hb (by rw [if_neg Bool.false_ne_true]; exact h)
/-- returns -/
theorem Rn.rv (hd : decode (tb_mb k) pc = .ok (.return_, 1)) (hr : tb_mr k = none) : Rn Q D k pc ls [] I J none I J := Rn.re hd (fun _ _ => rfl) rfl (fun _ _ => rfl) (by rw [hr]; rfl)
theorem Rn.ri {y : Int32} {ty : FieldType} (hd : decode (tb_mb k) pc = .ok (.ireturn, 1)) (hr : tb_mr k = some ty) (hn : narrow ty (.int y) = .int y) : Rn Q D k pc ls [.int y] I J (some (.int y)) I J := Rn.re hd (fun _ _ => rfl) rfl (fun _ _ => rfl) (by rw [hr]; simp [xm_re, hn])
theorem Rn.rl {y : Int64} (hd : decode (tb_mb k) pc = .ok (.lreturn, 1)) (hr : tb_mr k = some .long) : Rn Q D k pc ls [.long y] I J (some (.long y)) I J := Rn.re hd (fun _ _ => rfl) rfl (fun _ _ => rfl) (by rw [hr]; rfl)
theorem Rn.ra {y : Nat} {C : String} (hd : decode (tb_mb k) pc = .ok (.areturn, 1)) (hr : tb_mr k = some (.object C)) : Rn Q D k pc ls [.ref y] I J (some (.ref y)) I J := Rn.re hd (fun _ _ => rfl) rfl (fun _ _ => rfl) (by rw [hr]; rfl)
theorem Rn.rn {C : String} (hd : decode (tb_mb k) pc = .ok (.areturn, 1)) (hr : tb_mr k = some (.object C)) : Rn Q D k pc ls [.null] I J (some .null) I J := Rn.re hd (fun _ _ => rfl) rfl (fun _ _ => rfl) (by rw [hr]; rfl)
end RUA
theorem bindS {α β : Type} {o : Option α} {f : α → Option β} {b : β} (h : o.bind f = some b) : ∃ a, o = some a ∧ f a = some b := by
  cases o with
  | none => cases h
  | some a => exact ⟨a, rfl, h⟩
theorem nar_b {x : Int32} (h : x = 0 ∨ x = 1) : narrow .boolean (.int x) = .int x := by
  rcases h with rfl | rfl <;> rfl
end
section
/-! Printed by wip/whole/gen_ok.py. What lies at each place, and rules of the steps that are not bytecode. -/
theorem sk_0 : SK[0]? = some (.inl (8, [3, 5, 8, 21, 1])) := rfl
theorem sk_1 : SK[1]? = some (.inl (5, [4, 0])) := rfl
theorem sk_2 : SK[2]? = some (.inr (2, 120, 0)) := rfl
theorem sk_3 : SK[3]? = some (.inl (2, [6, 7, 1])) := rfl
theorem sk_4 : SK[4]? = some (.inr (0, 34, 0)) := rfl
theorem sk_5 : SK[5]? = some (.inr (0, 256, 0)) := rfl
theorem sk_6 : SK[6]? = some (.inl (0, [3, 20, 9, 14, 16, 18, 0])) := rfl
theorem sk_7 : SK[7]? = some (.inl (4, [10, 11, 12, 13, 0, 0])) := rfl
theorem sk_8 : SK[8]? = some (.inr (0, 40, 0)) := rfl
theorem sk_9 : SK[9]? = some (.inr (0, 40, 0)) := rfl
theorem sk_10 : SK[10]? = some (.inr (0, 40, 0)) := rfl
theorem sk_11 : SK[11]? = some (.inr (1, 40, 1)) := rfl
theorem sk_12 : SK[12]? = some (.inl (3, [15, 0])) := rfl
theorem sk_13 : SK[13]? = some (.inr (0, 80, 0)) := rfl
theorem sk_14 : SK[14]? = some (.inl (3, [17, 0])) := rfl
theorem sk_15 : SK[15]? = some (.inr (0, 40, 0)) := rfl
theorem sk_16 : SK[16]? = some (.inl (3, [19, 0])) := rfl
theorem sk_17 : SK[17]? = some (.inr (0, 8, 0)) := rfl
theorem sk_18 : SK[18]? = some (.inl (6, [3, 0, 0, 0, 1])) := rfl
theorem sk_19 : SK[19]? = some (.inr (4, 8, 2)) := rfl
theorem sk_20 : SK[20]? = some (.inl (1, [23, 0, 0, 1, 1, 1, 1])) := rfl
theorem sk_21 : SK[21]? = some (.inl (7, [5, 24, 29, 30, 0, 0, 0])) := rfl
theorem sk_22 : SK[22]? = some (.inl (4, [25, 26, 27, 28, 0, 0])) := rfl
theorem sk_23 : SK[23]? = some (.inr (0, 40, 0)) := rfl
theorem sk_24 : SK[24]? = some (.inr (0, 40, 0)) := rfl
theorem sk_25 : SK[25]? = some (.inr (0, 40, 0)) := rfl
theorem sk_26 : SK[26]? = some (.inr (1, 40, 1)) := rfl
theorem sk_27 : SK[27]? = some (.inr (1, 40, 1)) := rfl
theorem sk_28 : SK[28]? = some (.inr (1, 40, 1)) := rfl
theorem sk_29 : SK[29]? = some (.inl (1, [32, 0, 0, 1, 1, 1, 1])) := rfl
theorem sk_30 : SK[30]? = some (.inl (7, [5, 33, 38, 39, 0, 0, 0])) := rfl
theorem sk_31 : SK[31]? = some (.inl (4, [34, 35, 36, 37, 0, 0])) := rfl
theorem sk_32 : SK[32]? = some (.inr (0, 40, 0)) := rfl
theorem sk_33 : SK[33]? = some (.inr (0, 40, 0)) := rfl
theorem sk_34 : SK[34]? = some (.inr (0, 40, 0)) := rfl
theorem sk_35 : SK[35]? = some (.inr (1, 40, 1)) := rfl
theorem sk_36 : SK[36]? = some (.inr (1, 40, 1)) := rfl
theorem sk_37 : SK[37]? = some (.inr (1, 40, 1)) := rfl
theorem sk_38 : SK[38]? = some (.inl (1, [41, 0, 0, 1, 1, 1, 1])) := rfl
theorem sk_39 : SK[39]? = some (.inl (7, [5, 42, 47, 48, 0, 0, 0])) := rfl
theorem sk_40 : SK[40]? = some (.inl (4, [43, 44, 45, 46, 0, 0])) := rfl
theorem sk_41 : SK[41]? = some (.inr (0, 40, 0)) := rfl
theorem sk_42 : SK[42]? = some (.inr (0, 40, 0)) := rfl
theorem sk_43 : SK[43]? = some (.inr (0, 40, 0)) := rfl
theorem sk_44 : SK[44]? = some (.inr (1, 40, 1)) := rfl
theorem sk_45 : SK[45]? = some (.inr (1, 40, 1)) := rfl
theorem sk_46 : SK[46]? = some (.inr (1, 40, 1)) := rfl
theorem sk_47 : SK[47]? = some (.inl (1, [50, 0, 0, 1, 1, 1, 1])) := rfl
theorem sk_48 : SK[48]? = some (.inl (7, [5, 51, 56, 57, 0, 0, 0])) := rfl
theorem sk_49 : SK[49]? = some (.inl (4, [52, 53, 54, 55, 0, 0])) := rfl
theorem sk_50 : SK[50]? = some (.inr (0, 40, 0)) := rfl
theorem sk_51 : SK[51]? = some (.inr (0, 40, 0)) := rfl
theorem sk_52 : SK[52]? = some (.inr (0, 40, 0)) := rfl
theorem sk_53 : SK[53]? = some (.inr (1, 40, 1)) := rfl
theorem sk_54 : SK[54]? = some (.inr (1, 40, 1)) := rfl
theorem sk_55 : SK[55]? = some (.inr (1, 40, 1)) := rfl
theorem sk_56 : SK[56]? = some (.inl (1, [59, 0, 0, 1, 1, 1, 1])) := rfl
theorem sk_57 : SK[57]? = some (.inl (7, [5, 60, 65, 66, 0, 0, 0])) := rfl
theorem sk_58 : SK[58]? = some (.inl (4, [61, 62, 63, 64, 0, 0])) := rfl
theorem sk_59 : SK[59]? = some (.inr (0, 40, 0)) := rfl
theorem sk_60 : SK[60]? = some (.inr (0, 40, 0)) := rfl
theorem sk_61 : SK[61]? = some (.inr (0, 40, 0)) := rfl
theorem sk_62 : SK[62]? = some (.inr (1, 40, 1)) := rfl
theorem sk_63 : SK[63]? = some (.inr (1, 40, 1)) := rfl
theorem sk_64 : SK[64]? = some (.inr (1, 40, 1)) := rfl
theorem sk_65 : SK[65]? = some (.inl (1, [68, 0, 0, 1, 1, 1, 1])) := rfl
theorem sk_66 : SK[66]? = some (.inl (7, [5, 69, 74, 75, 0, 0, 0])) := rfl
theorem sk_67 : SK[67]? = some (.inl (4, [70, 71, 72, 73, 0, 0])) := rfl
theorem sk_68 : SK[68]? = some (.inr (0, 40, 0)) := rfl
theorem sk_69 : SK[69]? = some (.inr (0, 40, 0)) := rfl
theorem sk_70 : SK[70]? = some (.inr (0, 40, 0)) := rfl
theorem sk_71 : SK[71]? = some (.inr (1, 40, 1)) := rfl
theorem sk_72 : SK[72]? = some (.inr (1, 40, 1)) := rfl
theorem sk_73 : SK[73]? = some (.inr (1, 40, 1)) := rfl
theorem sk_74 : SK[74]? = some (.inl (1, [77, 0, 0, 1, 1, 1, 1])) := rfl
theorem sk_75 : SK[75]? = some (.inl (7, [5, 78, 83, 84, 0, 0, 0])) := rfl
theorem sk_76 : SK[76]? = some (.inl (4, [79, 80, 81, 82, 0, 0])) := rfl
theorem sk_77 : SK[77]? = some (.inr (0, 40, 0)) := rfl
theorem sk_78 : SK[78]? = some (.inr (0, 40, 0)) := rfl
theorem sk_79 : SK[79]? = some (.inr (0, 40, 0)) := rfl
theorem sk_80 : SK[80]? = some (.inr (1, 40, 1)) := rfl
theorem sk_81 : SK[81]? = some (.inr (1, 40, 1)) := rfl
theorem sk_82 : SK[82]? = some (.inr (1, 40, 1)) := rfl
theorem sk_83 : SK[83]? = some (.inl (1, [86, 0, 0, 1, 1, 1, 1])) := rfl
theorem sk_84 : SK[84]? = some (.inl (7, [5, 87, 92, 93, 0, 0, 0])) := rfl
theorem sk_85 : SK[85]? = some (.inl (4, [88, 89, 90, 91, 0, 0])) := rfl
theorem sk_86 : SK[86]? = some (.inr (0, 40, 0)) := rfl
theorem sk_87 : SK[87]? = some (.inr (0, 40, 0)) := rfl
theorem sk_88 : SK[88]? = some (.inr (0, 40, 0)) := rfl
theorem sk_89 : SK[89]? = some (.inr (1, 40, 1)) := rfl
theorem sk_90 : SK[90]? = some (.inr (1, 40, 1)) := rfl
theorem sk_91 : SK[91]? = some (.inr (1, 40, 1)) := rfl
theorem sk_92 : SK[92]? = some (.inl (9, [0, 0, 95, 96, 97, 1, 98, 99, 100, 101, 102, 103, 104, 105, 106, 107, 108, 109, 110, 111, 1, 0, 0, 0, 0, 0, 0, 1, 112, 113, 114, 115, 0, 0, 0, 1, 116, 117, 118, 119, 120])) := rfl
theorem sk_93 : SK[93]? = some (.inr (2, 120, 0)) := rfl
theorem sk_94 : SK[94]? = some (.inr (0, 34, 0)) := rfl
theorem sk_95 : SK[95]? = some (.inr (0, 256, 0)) := rfl
theorem sk_96 : SK[96]? = some (.inr (3, 8, 0)) := rfl
theorem sk_97 : SK[97]? = some (.inr (3, 8, 0)) := rfl
theorem sk_98 : SK[98]? = some (.inr (0, 8, 0)) := rfl
theorem sk_99 : SK[99]? = some (.inr (0, 8, 0)) := rfl
theorem sk_100 : SK[100]? = some (.inr (0, 8, 0)) := rfl
theorem sk_101 : SK[101]? = some (.inr (0, 8, 0)) := rfl
theorem sk_102 : SK[102]? = some (.inr (0, 8, 0)) := rfl
theorem sk_103 : SK[103]? = some (.inr (1, 8, 1)) := rfl
theorem sk_104 : SK[104]? = some (.inr (1, 8, 1)) := rfl
theorem sk_105 : SK[105]? = some (.inr (0, 960, 0)) := rfl
theorem sk_106 : SK[106]? = some (.inr (0, 960, 0)) := rfl
theorem sk_107 : SK[107]? = some (.inr (1, 960, 1)) := rfl
theorem sk_108 : SK[108]? = some (.inr (1, 960, 1)) := rfl
theorem sk_109 : SK[109]? = some (.inr (1, 120, 1)) := rfl
theorem sk_110 : SK[110]? = some (.inr (0, 120, 0)) := rfl
theorem sk_111 : SK[111]? = some (.inr (0, 120, 0)) := rfl
theorem sk_112 : SK[112]? = some (.inr (0, 10, 0)) := rfl
theorem sk_113 : SK[113]? = some (.inr (1, 120, 1)) := rfl
theorem sk_114 : SK[114]? = some (.inr (0, 130, 0)) := rfl
theorem sk_115 : SK[115]? = some (.inr (0, 130, 0)) := rfl
theorem sk_116 : SK[116]? = some (.inr (0, 130, 0)) := rfl
theorem sk_117 : SK[117]? = some (.inr (0, 130, 0)) := rfl
theorem sk_118 : SK[118]? = some (.inr (1, 130, 1)) := rfl
theorem sk_119 : SK[119]? = some (.inr (1, 1, 1)) := rfl
def okPr (p : Nat) : Prop := SK[p]? = some (.inl (4, [p + 3, p + 4, p + 5, p + 6, 0, 0])) ∧ SK[p + 1]? = some (.inr (0, 40, 0)) ∧ SK[p + 2]? = some (.inr (0, 40, 0)) ∧ SK[p + 3]? = some (.inr (0, 40, 0)) ∧ SK[p + 4]? = some (.inr (1, 40, 1))
def okPi (p n : Nat) : Prop := SK[p]? = some (.inl (3, [p + 3, 0])) ∧ SK[p + 1]? = some (.inr (0, n, 0))
def okW (p : Nat) : Prop := SK[p]? = some (.inl (7, [5, p + 3, p + 8, p + 9, 0, 0, 0])) ∧ okPr (p + 1) ∧ SK[p + 6]? = some (.inr (1, 40, 1)) ∧ SK[p + 7]? = some (.inr (1, 40, 1))
def okC (p : Nat) : Prop := SK[p]? = some (.inl (1, [p + 3, 0, 0, 1, 1, 1, 1])) ∧ okW (p + 1)
theorem ok_7 : okPr 7 := ⟨rfl, rfl, rfl, rfl, rfl⟩
theorem ok_12 : okPi 12 80 := ⟨rfl, rfl⟩
theorem ok_14 : okPi 14 40 := ⟨rfl, rfl⟩
theorem ok_16 : okPi 16 8 := ⟨rfl, rfl⟩
theorem ok_c : ∀ j, j < 8 → okC (20 + 9 * j)
  | 0, _ => ⟨rfl, rfl, ⟨rfl, rfl, rfl, rfl, rfl⟩, rfl, rfl⟩
  | 1, _ => ⟨rfl, rfl, ⟨rfl, rfl, rfl, rfl, rfl⟩, rfl, rfl⟩
  | 2, _ => ⟨rfl, rfl, ⟨rfl, rfl, rfl, rfl, rfl⟩, rfl, rfl⟩
  | 3, _ => ⟨rfl, rfl, ⟨rfl, rfl, rfl, rfl, rfl⟩, rfl, rfl⟩
  | 4, _ => ⟨rfl, rfl, ⟨rfl, rfl, rfl, rfl, rfl⟩, rfl, rfl⟩
  | 5, _ => ⟨rfl, rfl, ⟨rfl, rfl, rfl, rfl, rfl⟩, rfl, rfl⟩
  | 6, _ => ⟨rfl, rfl, ⟨rfl, rfl, rfl, rfl, rfl⟩, rfl, rfl⟩
  | 7, _ => ⟨rfl, rfl, ⟨rfl, rfl, rfl, rfl, rfl⟩, rfl, rfl⟩
  | j + 8, h => absurd h (by omega)
theorem ok_cj {j : Int32} (h : ¬ (j < 0 ∨ 8 ≤ j.toNatClampNeg)) : okC (20 + 9 * j.toNatClampNeg) := ok_c _ (Nat.not_le.mp fun q => h (Or.inr q))
def FU : Nat := 5000
/-- a value that is named -/
def lt_ {α β : Type} (a : α) (f : α → β) : β := f a
theorem letS {α β : Type} {a : α} {f : α → Option β} {b : β} (h : lt_ a f = some b) : ∃ x, x = a ∧ f x = some b := ⟨a, rfl, h⟩
theorem i_ne {x v : Int32} {z : Int} (h : ¬ x = v) (hz : v.toInt = z) : x.toInt ≠ z := fun e => h (Int32.toInt_inj.mp (e.trans hz.symm))
theorem ts_def {d lo hi : Int} {offs : Array Int} {n pc t : Nat} {x : Int32} {rest : List Value} (h : x.toInt < lo ∨ hi < x.toInt) (ht : xm_tg pc d = some t) : xm_br (.tableswitch d lo hi offs) n pc (.int x :: rest) = some (true, t, rest) := by
  simp only [xm_br, if_pos h, ht, Option.map_some]
theorem lk_def {d : Int} {ps : Array (Int × Int)} {n pc t : Nat} {x : Int32} {rest : List Value} (hs : ((ps.toList.zip (ps.toList.drop 1)).all (fun q => q.1.1 < q.2.1)) = true) (ho : Op.lookupswitch.offset ps.toList d x.toInt = d) (ht : xm_tg pc d = some t) : xm_br (.lookupswitch d ps) n pc (.int x :: rest) = some (true, t, rest) := by
  simp only [xm_br, if_pos hs, ho, ht, Option.map_some]
section OKA
variable {Q : Nat → Option Nat} {D k pc x : Nat} {ls : xm_L} {st : List Value} {I I' : dI} {J J' : dJ} {v : Option Value}
theorem Rn.ic {z : Int} {c : Int32} (hd : decode (tb_mb k) pc = .ok (.iconst z, 1)) (hz : Int32.ofInt z = c) (h : Rn Q D k (pc + 1) ls (.int c :: st) I J v I' J') : Rn Q D k pc ls st I J v I' J' := Rn.pu hd rfl (by rw [← hz]; rfl) h
theorem Rn.bp {z : Int} {c : Int32} (hd : decode (tb_mb k) pc = .ok (.bipush z, 2)) (hz : (Int8.ofInt z).toInt32 = c) (h : Rn Q D k (pc + 2) ls (.int c :: st) I J v I' J') : Rn Q D k pc ls st I J v I' J' := Rn.pu hd rfl (by rw [← hz]; rfl) h
theorem Rn.sp {z : Int} {c : Int32} (hd : decode (tb_mb k) pc = .ok (.sipush z, 3)) (hz : (Int16.ofInt z).toInt32 = c) (h : Rn Q D k (pc + 3) ls (.int c :: st) I J v I' J') : Rn Q D k pc ls st I J v I' J' := Rn.pu hd rfl (by rw [← hz]; rfl) h
theorem Rn.lc {z : Fin 2} {c : Int64} (hd : decode (tb_mb k) pc = .ok (.lconst z, 1)) (hz : Int64.ofNat (z : Nat) = c) (h : Rn Q D k (pc + 1) ls (.long c :: st) I J v I' J') : Rn Q D k pc ls st I J v I' J' := Rn.pu hd rfl (by rw [← hz]; rfl) h
theorem Rn.inc {j nL : Nat} {z : Int} {c y : Int32} {ls' : xm_L} (hd : decode (tb_mb k) pc = .ok (.iinc j z, 3)) (hL : tb_mL k = nL) (hj : j < nL) (hz : Int32.ofInt z = c) (hl : xm_ld ls j = some (.int y)) (hs : xm_s1 ls j (.int (y + c)) = ls') (h : Rn Q D k (pc + 3) ls' st I J v I' J') : Rn Q D k pc ls st I J v I' J' :=
  Rn.pu hd hL (by simp only [xm_pu, hl, if_true, hj, hz, hs]) h
theorem Rn.ldl {w : Int64} (hd : decode (tb_mb k) pc = .ok (.ldc2_w x, 3)) (hk : tb_kl (tb_oc k) x = some w) (h : Rn Q D k (pc + 3) ls (.long w :: st) I J v I' J') : Rn Q D k pc ls st I J v I' J' :=
  Rn.xt hd (fun _ _ => rfl) rfl (fun _ _ => rfl) (fun _ => rfl) rfl rfl (by simp only [tb_xt, tb_xo, if_true, hk, Option.map_some]) h
theorem Rn.lds {j : Nat} (hd : decode (tb_mb k) pc = .ok (.ldc x, 2)) (hk : tb_sl (tb_oc k) x = some j) (h : Rn Q D k (pc + 2) ls (.ref (xm_K0 + j) :: st) I J v I' J') : Rn Q D k pc ls st I J v I' J' :=
  Rn.xt hd (fun _ _ => rfl) rfl (fun _ _ => rfl) (fun _ => rfl) rfl rfl (by simp only [tb_xt, tb_xo, if_true, hk, Option.map_some]) h
theorem Rn.min {a b : Int64} (hd : decode (tb_mb k) pc = .ok (.invokestatic 63, 3)) (ho : tb_oc k = 6) (hc : tb_cr 6 63 = none) (hs : xm_cat st ≤ 8) (h : Rn Q D k (pc + 3) ls (.long (if b < a then b else a) :: st) I J v I' J') : Rn Q D k pc ls (.long b :: .long a :: st) I J v I' J' :=
  Rn.xt hd (fun _ _ => rfl) rfl (fun _ _ => rfl) (fun _ => rfl) (by simp only [xm_ca, if_true, ho, hc]) rfl (by simp only [tb_xt, tb_xo, if_true, ho, hs, and_self]) h
theorem xi_litS {j : Nat} (hj : j < 13) : xi_lit (xm_K0 + j) = some j := by
  unfold xi_lit
  rw [if_pos ⟨Nat.le_add_right _ _, by rw [Nat.add_sub_cancel_left]; exact hj⟩, Nat.add_sub_cancel_left]
theorem Rn.slen {j : Nat} (hd : decode (tb_mb k) pc = .ok (.invokevirtual 97, 3)) (ho : tb_oc k = 6) (hc : tb_cr 6 97 = none) (hs : xm_cat st ≤ 8) (hj : j < 13) (h : Rn Q D k (pc + 3) ls (.int (nI (st_len.getD j 0)) :: st) I J v I' J') : Rn Q D k pc ls (.ref (xm_K0 + j) :: st) I J v I' J' :=
  Rn.xt hd (fun _ _ => rfl) rfl (fun _ _ => rfl) (fun _ => rfl) (by simp only [xm_ca, if_true, ho, hc]) rfl (by simp only [tb_xt, tb_xo, if_true, ho, hs, and_self, xi_litS hj, Option.map_some]) h
theorem Rn.schar {j : Nat} {z : Int32} (hd : decode (tb_mb k) pc = .ok (.invokevirtual 101, 3)) (ho : tb_oc k = 6) (hc : tb_cr 6 101 = none) (hs : xm_cat st ≤ 8) (hj : j < 13) (hz : ¬ (z < 0 ∨ st_len.getD j 0 ≤ z.toNatClampNeg)) (h : Rn Q D k (pc + 3) ls (.int (((st_byt.getD j []).getD z.toNatClampNeg 0 &&& 255).toUInt32 % 65536).toInt32 :: st) I J v I' J') : Rn Q D k pc ls (.int z :: .ref (xm_K0 + j) :: st) I J v I' J' :=
  Rn.xt hd (fun _ _ => rfl) rfl (fun _ _ => rfl) (fun _ => rfl) (by simp only [xm_ca, if_true, ho, hc]) rfl (by
    have e9 : ¬ (101 = 97) := by decide
    simp only [tb_xt, tb_xo, if_true, ho, hs, and_self, xi_litS hj, xm_ix, hz, not_false_eq_true, Option.map_some, e9, if_false]) h
theorem Rn.cpI {p q n0 n1 : Nat} {n : Int32} {i1 : Nat} (hd : decode (tb_mb k) pc = .ok (.invokestatic x, 3)) (ho : ¬ (tb_oc k = 6 ∧ x = 63)) (ha : tb_ac (tb_oc k) x = some i1) (hc : tb_cr (tb_oc k) x = none) (hs : xm_cat st ≤ 8) (h1 : SK[p]? = some (.inr (0, n0, 0))) (h2 : SK[q]? = some (.inr (0, n1, 0))) (hn : ¬ n < 0) (hn0 : n.toNatClampNeg ≤ n0) (hn1 : n.toNatClampNeg ≤ n1)
    (h : Rn Q D k (pc + 3) ls st (rI I q (va_cpy (I p) (I q) 0 0 n.toNatClampNeg)) J v I' J') : Rn Q D k pc ls (.int n :: .int 0 :: .ref q :: .int 0 :: .ref p :: st) I J v I' J' := by
  refine Rn.xt hd (fun _ _ => rfl) rfl (fun _ _ => rfl) (fun _ => rfl) (by simp only [xm_ca, if_true, hc]) rfl ?_ h
  have e1 := bld_setI (Q := Q) (I := I) (J := J) h2 (va_cpy (I p) (I q) 0 0 n.toNatClampNeg)
  simp only [sk_e] at e1
  have z0 : ¬ ((0 : Int32) < 0) := by decide
  have z1 : (0 : Int32).toNatClampNeg = 0 := by decide
  have t0 : tb_tt[0]? = some .int := rfl
  simp only [tb_xt, tb_xo, if_true, if_neg ho, ha, Option.isSome_some, xi_cp, hs, z0, hn, not_false_eq_true, and_self, bld_get h1, bld_get h2, sk_e, t0, z1, Nat.zero_add, hn0, hn1, e1]
theorem Rn.cpJ {p q n0 n1 : Nat} {n : Int32} {i1 : Nat} (hd : decode (tb_mb k) pc = .ok (.invokestatic x, 3)) (ho : ¬ (tb_oc k = 6 ∧ x = 63)) (ha : tb_ac (tb_oc k) x = some i1) (hc : tb_cr (tb_oc k) x = none) (hs : xm_cat st ≤ 8) (h1 : SK[p]? = some (.inr (1, n0, 1))) (h2 : SK[q]? = some (.inr (1, n1, 1))) (hn : ¬ n < 0) (hn0 : n.toNatClampNeg ≤ n0) (hn1 : n.toNatClampNeg ≤ n1)
    (h : Rn Q D k (pc + 3) ls st I (rJ J q (va_cpy (J p) (J q) 0 0 n.toNatClampNeg)) v I' J') : Rn Q D k pc ls (.int n :: .int 0 :: .ref q :: .int 0 :: .ref p :: st) I J v I' J' := by
  refine Rn.xt hd (fun _ _ => rfl) rfl (fun _ _ => rfl) (fun _ => rfl) (by simp only [xm_ca, if_true, hc]) rfl ?_ h
  have e1 := bld_setJ (Q := Q) (I := I) (J := J) h2 (va_cpy (J p) (J q) 0 0 n.toNatClampNeg)
  simp only [sk_e] at e1
  have z0 : ¬ ((0 : Int32) < 0) := by decide
  have z1 : (0 : Int32).toNatClampNeg = 0 := by decide
  have t0 : tb_tt[1]? = some .long := rfl
  simp only [tb_xt, tb_xo, if_true, if_neg ho, ha, Option.isSome_some, xi_cp, hs, z0, hn, not_false_eq_true, and_self, bld_get h1, bld_get h2, sk_e, t0, z1, Nat.zero_add, hn0, hn1, e1]
end OKA
end
section
/-! Rules of calls by what they answer, of divisions; the start of a method. -/
section RUB
variable {Q : Nat → Option Nat} {D k pc p x ci : Nat} {b : Bool} {cs : List Nat} {ls : xm_L} {st : List Value} {I I' I1 : dI} {J J' J1 : dJ} {v : Option Value} {k' na : Nat} {As rest : List Value}
theorem Rn.cvI {w : Int32} (hd : decode (tb_mb k) pc = .ok (.invokevirtual x, 3)) (hc : tb_cr (tb_oc k) x = some (0, k', b, na)) (hv : xm_sv na st = some (p, As, rest)) (hs : SK[p]? = some (.inl (ci, cs))) (ho : tb_oc k' = ci) (he : Ex Q D k' I J (.ref p :: As) (some (.int w)) I1 J1) (h : Rn Q D k (pc + 3) ls (.int w :: rest) I1 J1 v I' J') : Rn Q D k pc ls st I J v I' J' := Rn.cv hd hc hv hs ho he h
theorem Rn.cvJ {w : Int64} (hd : decode (tb_mb k) pc = .ok (.invokevirtual x, 3)) (hc : tb_cr (tb_oc k) x = some (0, k', b, na)) (hv : xm_sv na st = some (p, As, rest)) (hs : SK[p]? = some (.inl (ci, cs))) (ho : tb_oc k' = ci) (he : Ex Q D k' I J (.ref p :: As) (some (.long w)) I1 J1) (h : Rn Q D k (pc + 3) ls (.long w :: rest) I1 J1 v I' J') : Rn Q D k pc ls st I J v I' J' := Rn.cv hd hc hv hs ho he h
theorem Rn.cvV (hd : decode (tb_mb k) pc = .ok (.invokevirtual x, 3)) (hc : tb_cr (tb_oc k) x = some (0, k', b, na)) (hv : xm_sv na st = some (p, As, rest)) (hs : SK[p]? = some (.inl (ci, cs))) (ho : tb_oc k' = ci) (he : Ex Q D k' I J (.ref p :: As) none I1 J1) (h : Rn Q D k (pc + 3) ls rest I1 J1 v I' J') : Rn Q D k pc ls st I J v I' J' := Rn.cv hd hc hv hs ho he h
theorem Rn.cvA {w : Value} (hd : decode (tb_mb k) pc = .ok (.invokevirtual x, 3)) (hc : tb_cr (tb_oc k) x = some (0, k', b, na)) (hv : xm_sv na st = some (p, As, rest)) (hs : SK[p]? = some (.inl (ci, cs))) (ho : tb_oc k' = ci) (he : Ex Q D k' I J (.ref p :: As) (some w) I1 J1) (h : Rn Q D k (pc + 3) ls (w :: rest) I1 J1 v I' J') : Rn Q D k pc ls st I J v I' J' := Rn.cv hd hc hv hs ho he h
theorem Rn.csI {w : Int32} (hd : decode (tb_mb k) pc = .ok (.invokestatic x, 3)) (hc : tb_cr (tb_oc k) x = some (1, k', b, na)) (hv : xm_ss na st = some (As, rest)) (he : Ex Q D k' I J As (some (.int w)) I1 J1) (h : Rn Q D k (pc + 3) ls (.int w :: rest) I1 J1 v I' J') : Rn Q D k pc ls st I J v I' J' := Rn.cst hd hc hv he h
theorem Rn.csJ {w : Int64} (hd : decode (tb_mb k) pc = .ok (.invokestatic x, 3)) (hc : tb_cr (tb_oc k) x = some (1, k', b, na)) (hv : xm_ss na st = some (As, rest)) (he : Ex Q D k' I J As (some (.long w)) I1 J1) (h : Rn Q D k (pc + 3) ls (.long w :: rest) I1 J1 v I' J') : Rn Q D k pc ls st I J v I' J' := Rn.cst hd hc hv he h
theorem Rn.csV (hd : decode (tb_mb k) pc = .ok (.invokestatic x, 3)) (hc : tb_cr (tb_oc k) x = some (1, k', b, na)) (hv : xm_ss na st = some (As, rest)) (he : Ex Q D k' I J As none I1 J1) (h : Rn Q D k (pc + 3) ls rest I1 J1 v I' J') : Rn Q D k pc ls st I J v I' J' := Rn.cst hd hc hv he h
theorem Rn.ldv {y z : Int64} (hd : decode (tb_mb k) pc = .ok (.ldiv, 1)) (hz : ¬ z = 0) (h : Rn Q D k (pc + 1) ls (.long (y / z) :: st) I J v I' J') : Rn Q D k pc ls (.long z :: .long y :: st) I J v I' J' := Rn.pu hd rfl (by simp only [xm_pu, xm_jd, if_true, hz, not_false_eq_true]) h
theorem Rn.lrm {y z : Int64} (hd : decode (tb_mb k) pc = .ok (.lrem, 1)) (hz : ¬ z = 0) (h : Rn Q D k (pc + 1) ls (.long (y - y / z * z) :: st) I J v I' J') : Rn Q D k pc ls (.long z :: .long y :: st) I J v I' J' := Rn.pu hd rfl (by simp only [xm_pu, xm_jd, if_true, hz, not_false_eq_true]) h
end RUB
theorem xm_sub_of {ls l : xm_L} (is ks : List Nat) (hs : is.filterMap (fun i => l[i]?) = ls) (hm : l.map (fun q => q.1) = ks) (hk : ks.Nodup) : xm_sub ls l := by
  subst hs
  subst hm
  refine ⟨fun q hq => ?_, ?_⟩
  · obtain ⟨i, -, hi⟩ := List.mem_filterMap.mp hq
    exact List.mem_of_getElem? hi
  · intro q hq q' hq' he
    induction l with
    | nil => cases hq
    | cons a l ih =>
      rw [List.map_cons, List.nodup_cons] at hk
      rcases List.mem_cons.mp hq with e1 | hq2
      · rcases List.mem_cons.mp hq' with e2 | hq2'
        · rw [e1, e2]
        · have h1 := List.mem_map_of_mem (f := fun q : Nat × Value => q.1) hq2'
          rw [← he, e1] at h1
          exact absurd h1 hk.1
      · rcases List.mem_cons.mp hq' with e2 | hq2'
        · have h1 := List.mem_map_of_mem (f := fun q : Nat × Value => q.1) hq2
          rw [he, e2] at h1
          exact absurd h1 hk.1
        · exact ih hk.2 hq2 hq2'
def vA : Option Nat → Value
  | none => .null
  | some p => .ref p
end
section
/-! Printed by wip/whole/gen_dec.py: small numbers. -/
theorem cbp_32 : (Int8.ofInt (32)).toInt32 = 32 := by decide +kernel
theorem cic_0 : Int32.ofInt (0) = 0 := by decide +kernel
theorem cbp_126 : (Int8.ofInt (126)).toInt32 = 126 := by decide +kernel
theorem cic_1 : Int32.ofInt (1) = 1 := by decide +kernel
theorem clc_0 : Int64.ofNat ((0 : Fin 2) : Nat) = 0 := by decide +kernel
theorem cic_m1 : Int32.ofInt (-1) = (-1) := by decide +kernel
theorem clc_1 : Int64.ofNat ((1 : Fin 2) : Nat) = 1 := by decide +kernel
theorem cbp_8 : (Int8.ofInt (8)).toInt32 = 8 := by decide +kernel
theorem cic_2 : Int32.ofInt (2) = 2 := by decide +kernel
theorem cbp_16 : (Int8.ofInt (16)).toInt32 = 16 := by decide +kernel
theorem cic_3 : Int32.ofInt (3) = 3 := by decide +kernel
theorem cbp_24 : (Int8.ofInt (24)).toInt32 = 24 := by decide +kernel
theorem cbp_34 : (Int8.ofInt (34)).toInt32 = 34 := by decide +kernel
theorem cbp_7 : (Int8.ofInt (7)).toInt32 = 7 := by decide +kernel
theorem cbp_6 : (Int8.ofInt (6)).toInt32 = 6 := by decide +kernel
theorem cic_4 : Int32.ofInt (4) = 4 := by decide +kernel
theorem cbp_18 : (Int8.ofInt (18)).toInt32 = 18 := by decide +kernel
theorem cbp_23 : (Int8.ofInt (23)).toInt32 = 23 := by decide +kernel
theorem cbp_33 : (Int8.ofInt (33)).toInt32 = 33 := by decide +kernel
theorem cbp_40 : (Int8.ofInt (40)).toInt32 = 40 := by decide +kernel
theorem cbp_9 : (Int8.ofInt (9)).toInt32 = 9 := by decide +kernel
theorem cbp_48 : (Int8.ofInt (48)).toInt32 = 48 := by decide +kernel
theorem cbp_57 : (Int8.ofInt (57)).toInt32 = 57 := by decide +kernel
theorem cbp_97 : (Int8.ofInt (97)).toInt32 = 97 := by decide +kernel
theorem cbp_102 : (Int8.ofInt (102)).toInt32 = 102 := by decide +kernel
theorem cbp_10 : (Int8.ofInt (10)).toInt32 = 10 := by decide +kernel
theorem cbp_65 : (Int8.ofInt (65)).toInt32 = 65 := by decide +kernel
theorem cbp_90 : (Int8.ofInt (90)).toInt32 = 90 := by decide +kernel
theorem cbp_122 : (Int8.ofInt (122)).toInt32 = 122 := by decide +kernel
theorem cbp_120 : (Int8.ofInt (120)).toInt32 = 120 := by decide +kernel
theorem cic_5 : Int32.ofInt (5) = 5 := by decide +kernel
theorem cbp_17 : (Int8.ofInt (17)).toInt32 = 17 := by decide +kernel
theorem cbp_27 : (Int8.ofInt (27)).toInt32 = 27 := by decide +kernel
theorem cbp_28 : (Int8.ofInt (28)).toInt32 = 28 := by decide +kernel
theorem cbp_19 : (Int8.ofInt (19)).toInt32 = 19 := by decide +kernel
theorem cbp_21 : (Int8.ofInt (21)).toInt32 = 21 := by decide +kernel
theorem cbp_14 : (Int8.ofInt (14)).toInt32 = 14 := by decide +kernel
theorem cbp_26 : (Int8.ofInt (26)).toInt32 = 26 := by decide +kernel
theorem cbp_11 : (Int8.ofInt (11)).toInt32 = 11 := by decide +kernel
theorem cbp_31 : (Int8.ofInt (31)).toInt32 = 31 := by decide +kernel
theorem cbp_29 : (Int8.ofInt (29)).toInt32 = 29 := by decide +kernel
theorem cbp_30 : (Int8.ofInt (30)).toInt32 = 30 := by decide +kernel
theorem cbp_20 : (Int8.ofInt (20)).toInt32 = 20 := by decide +kernel
theorem cbp_22 : (Int8.ofInt (22)).toInt32 = 22 := by decide +kernel
theorem cbp_12 : (Int8.ofInt (12)).toInt32 = 12 := by decide +kernel
theorem cbp_13 : (Int8.ofInt (13)).toInt32 = 13 := by decide +kernel
theorem cbp_25 : (Int8.ofInt (25)).toInt32 = 25 := by decide +kernel
theorem cbp_15 : (Int8.ofInt (15)).toInt32 = 15 := by decide +kernel
theorem cbp_61 : (Int8.ofInt (61)).toInt32 = 61 := by decide +kernel
theorem cbp_35 : (Int8.ofInt (35)).toInt32 = 35 := by decide +kernel
theorem csp_255 : (Int16.ofInt (255)).toInt32 = 255 := by decide +kernel
theorem csp_256 : (Int16.ofInt (256)).toInt32 = 256 := by decide +kernel
theorem csp_1000 : (Int16.ofInt (1000)).toInt32 = 1000 := by decide +kernel
theorem cbp_99 : (Int8.ofInt (99)).toInt32 = 99 := by decide +kernel
theorem cbp_124 : (Int8.ofInt (124)).toInt32 = 124 := by decide +kernel
theorem cbp_38 : (Int8.ofInt (38)).toInt32 = 38 := by decide +kernel
theorem cbp_60 : (Int8.ofInt (60)).toInt32 = 60 := by decide +kernel
theorem cbp_62 : (Int8.ofInt (62)).toInt32 = 62 := by decide +kernel
theorem cbp_94 : (Int8.ofInt (94)).toInt32 = 94 := by decide +kernel
theorem cbp_43 : (Int8.ofInt (43)).toInt32 = 43 := by decide +kernel
theorem cbp_45 : (Int8.ofInt (45)).toInt32 = 45 := by decide +kernel
theorem cbp_42 : (Int8.ofInt (42)).toInt32 = 42 := by decide +kernel
theorem cbp_47 : (Int8.ofInt (47)).toInt32 = 47 := by decide +kernel
theorem cbp_37 : (Int8.ofInt (37)).toInt32 = 37 := by decide +kernel
theorem cbp_41 : (Int8.ofInt (41)).toInt32 = 41 := by decide +kernel
theorem cbp_91 : (Int8.ofInt (91)).toInt32 = 91 := by decide +kernel
theorem cbp_93 : (Int8.ofInt (93)).toInt32 = 93 := by decide +kernel
theorem csp_2000 : (Int16.ofInt (2000)).toInt32 = 2000 := by decide +kernel
end
section
/-! Printed by wip/whole/gen_dec.py: methods read back. -/
-- ConditionDesk$Text.append(C)Z
theorem L_10 : tb_mL 10 = 2 := by decide +kernel
theorem R_10 : tb_mr 10 = some .boolean := by decide +kernel
theorem dk_10_0 : decode (tb_mb 10) 0 = .ok (.iload_n 1, 1) := by decide +kernel
theorem dk_10_1 : decode (tb_mb 10) 1 = .ok (.bipush (32), 2) := by decide +kernel
theorem dk_10_3 : decode (tb_mb 10) 3 = .ok (.if_icmp .lt (28), 3) := by decide +kernel
theorem dk_10_31 : decode (tb_mb 10) 31 = .ok (.iconst (0), 1) := by decide +kernel
theorem dk_10_32 : decode (tb_mb 10) 32 = .ok (.ireturn, 1) := by decide +kernel
theorem dk_10_6 : decode (tb_mb 10) 6 = .ok (.iload_n 1, 1) := by decide +kernel
theorem dk_10_7 : decode (tb_mb 10) 7 = .ok (.bipush (126), 2) := by decide +kernel
theorem dk_10_9 : decode (tb_mb 10) 9 = .ok (.if_icmp .gt (22), 3) := by decide +kernel
theorem dk_10_12 : decode (tb_mb 10) 12 = .ok (.aload_n 0, 1) := by decide +kernel
theorem dk_10_13 : decode (tb_mb 10) 13 = .ok (.getfield 15, 3) := by decide +kernel
theorem f_10_13 : ∃ b, tb_fr (tb_oc 10) 15 = some (5, 1, b) := ⟨_, rfl⟩
theorem dk_10_16 : decode (tb_mb 10) 16 = .ok (.ifCond .lt (15), 3) := by decide +kernel
theorem dk_10_19 : decode (tb_mb 10) 19 = .ok (.aload_n 0, 1) := by decide +kernel
theorem dk_10_20 : decode (tb_mb 10) 20 = .ok (.getfield 15, 3) := by decide +kernel
theorem f_10_20 : ∃ b, tb_fr (tb_oc 10) 15 = some (5, 1, b) := ⟨_, rfl⟩
theorem dk_10_23 : decode (tb_mb 10) 23 = .ok (.aload_n 0, 1) := by decide +kernel
theorem dk_10_24 : decode (tb_mb 10) 24 = .ok (.getfield 9, 3) := by decide +kernel
theorem f_10_24 : ∃ b, tb_fr (tb_oc 10) 9 = some (5, 0, b) := ⟨_, rfl⟩
theorem dk_10_27 : decode (tb_mb 10) 27 = .ok (.arraylength, 1) := by decide +kernel
theorem dk_10_28 : decode (tb_mb 10) 28 = .ok (.if_icmp .lt (5), 3) := by decide +kernel
theorem dk_10_33 : decode (tb_mb 10) 33 = .ok (.aload_n 0, 1) := by decide +kernel
theorem dk_10_34 : decode (tb_mb 10) 34 = .ok (.getfield 9, 3) := by decide +kernel
theorem f_10_34 : ∃ b, tb_fr (tb_oc 10) 9 = some (5, 0, b) := ⟨_, rfl⟩
theorem dk_10_37 : decode (tb_mb 10) 37 = .ok (.aload_n 0, 1) := by decide +kernel
theorem dk_10_38 : decode (tb_mb 10) 38 = .ok (.getfield 15, 3) := by decide +kernel
theorem f_10_38 : ∃ b, tb_fr (tb_oc 10) 15 = some (5, 1, b) := ⟨_, rfl⟩
theorem dk_10_41 : decode (tb_mb 10) 41 = .ok (.iload_n 1, 1) := by decide +kernel
theorem dk_10_42 : decode (tb_mb 10) 42 = .ok (.castore, 1) := by decide +kernel
theorem dk_10_43 : decode (tb_mb 10) 43 = .ok (.aload_n 0, 1) := by decide +kernel
theorem dk_10_44 : decode (tb_mb 10) 44 = .ok (.dup, 1) := by decide +kernel
theorem dk_10_45 : decode (tb_mb 10) 45 = .ok (.getfield 15, 3) := by decide +kernel
theorem f_10_45 : ∃ b, tb_fr (tb_oc 10) 15 = some (5, 1, b) := ⟨_, rfl⟩
theorem dk_10_48 : decode (tb_mb 10) 48 = .ok (.iconst (1), 1) := by decide +kernel
theorem dk_10_49 : decode (tb_mb 10) 49 = .ok (.iadd, 1) := by decide +kernel
theorem dk_10_50 : decode (tb_mb 10) 50 = .ok (.putfield 15, 3) := by decide +kernel
theorem f_10_50 : ∃ b, tb_fr (tb_oc 10) 15 = some (5, 1, b) ∧ xm_fin tb_cl (tb_ini 10) b 5 1 = true := ⟨_, rfl, rfl⟩
theorem dk_10_53 : decode (tb_mb 10) 53 = .ok (.iconst (1), 1) := by decide +kernel
theorem dk_10_54 : decode (tb_mb 10) 54 = .ok (.ireturn, 1) := by decide +kernel
def b_10_0 (x1 : Int32) (I : dI) (J : dJ) : Option (Int32 × dI × dJ) := if x1 < 32 then (some (0, I, J)) else (if 126 < x1 then (some (0, I, J)) else (if (I 1 1) < 0 then (some (0, I, J)) else (if (I 1 1) < (Int32.ofNat 120) then (if ¬ ((I 1 1) < 0 ∨ 120 ≤ Int32.toNatClampNeg (I 1 1)) then lt_ (sI I 2 (Int32.toNatClampNeg (I 1 1)) (vp_nar .char x1)) (fun I6 => lt_ (sI I6 1 1 ((I6 1 1) + 1)) (fun I7 => some (1, I7, J))) else none) else (some (0, I, J)))))
theorem p_10_0 {Q : Nat → Option Nat} {D : Nat} (hD : 1 ≤ D) (x1 : Int32) (I : dI) (J : dJ) (R : (Int32 × dI × dJ)) (h : b_10_0 x1 I J = some R) : Rn Q D 10 0 [(0, .ref 1), (1, .int x1)] [] I J (some (.int R.1)) R.2.1 R.2.2 := by
  replace h : (if x1 < 32 then (some (0, I, J)) else (if 126 < x1 then (some (0, I, J)) else (if (I 1 1) < 0 then (some (0, I, J)) else (if (I 1 1) < (Int32.ofNat 120) then (if ¬ ((I 1 1) < 0 ∨ 120 ≤ Int32.toNatClampNeg (I 1 1)) then lt_ (sI I 2 (Int32.toNatClampNeg (I 1 1)) (vp_nar .char x1)) (fun I6 => lt_ (sI I6 1 1 ((I6 1 1) + 1)) (fun I7 => some (1, I7, J))) else none) else (some (0, I, J)))))) = some R := h
  refine Rn.pu (st' := [.int x1]) dk_10_0 L_10 rfl ?_
  refine Rn.bp dk_10_1 cbp_32 ?_
  by_cases c1 : x1 < 32
  · rw [if_pos c1] at h
    refine Rn.i2t (t := 31) dk_10_3 rfl (decide_eq_true c1) ?_
    refine Rn.ic dk_10_31 cic_0 ?_
    cases h
    exact Rn.ri dk_10_32 R_10 rfl
  · rw [if_neg c1] at h
    refine Rn.i2f (t := 31) dk_10_3 rfl (decide_eq_false c1) ?_
    refine Rn.pu (st' := [.int x1]) dk_10_6 L_10 rfl ?_
    refine Rn.bp dk_10_7 cbp_126 ?_
    by_cases c2 : 126 < x1
    · rw [if_pos c2] at h
      refine Rn.i2t (t := 31) dk_10_9 rfl (decide_eq_true c2) ?_
      refine Rn.ic dk_10_31 cic_0 ?_
      cases h
      exact Rn.ri dk_10_32 R_10 rfl
    · rw [if_neg c2] at h
      refine Rn.i2f (t := 31) dk_10_9 rfl (decide_eq_false c2) ?_
      refine Rn.pu (st' := [.ref 1]) dk_10_12 L_10 rfl ?_
      refine Rn.gI dk_10_13 f_10_13.choose_spec sk_1 rfl ?_
      by_cases c3 : (I 1 1) < 0
      · rw [if_pos c3] at h
        refine Rn.i1t (t := 31) dk_10_16 rfl (decide_eq_true c3) ?_
        refine Rn.ic dk_10_31 cic_0 ?_
        cases h
        exact Rn.ri dk_10_32 R_10 rfl
      · rw [if_neg c3] at h
        refine Rn.i1f (t := 31) dk_10_16 rfl (decide_eq_false c3) ?_
        refine Rn.pu (st' := [.ref 1]) dk_10_19 L_10 rfl ?_
        refine Rn.gI dk_10_20 f_10_20.choose_spec sk_1 rfl ?_
        refine Rn.pu (st' := [.ref 1, .int (I 1 1)]) dk_10_23 L_10 rfl ?_
        refine Rn.gR (r := 2) dk_10_24 f_10_24.choose_spec sk_1 rfl ?_
        refine Rn.alen dk_10_27 sk_2 (by decide) ?_
        by_cases c4 : (I 1 1) < (Int32.ofNat 120)
        · rw [if_pos c4] at h
          refine Rn.i2t (t := 33) dk_10_28 rfl (decide_eq_true c4) ?_
          refine Rn.pu (st' := [.ref 1]) dk_10_33 L_10 rfl ?_
          refine Rn.gR (r := 2) dk_10_34 f_10_34.choose_spec sk_1 rfl ?_
          refine Rn.pu (st' := [.ref 1, .ref 2]) dk_10_37 L_10 rfl ?_
          refine Rn.gI dk_10_38 f_10_38.choose_spec sk_1 rfl ?_
          refine Rn.pu (st' := [.int x1, .int (I 1 1), .ref 2]) dk_10_41 L_10 rfl ?_
          obtain ⟨c5, h⟩ := xm_if h
          obtain ⟨I6, eI6, h⟩ := letS h
          refine Rn.cast dk_10_42 sk_2 c5 ?_
          rw [← eI6]
          refine Rn.pu (st' := [.ref 1]) dk_10_43 L_10 rfl ?_
          refine Rn.pu (st' := [.ref 1, .ref 1]) dk_10_44 L_10 rfl ?_
          refine Rn.gI dk_10_45 f_10_45.choose_spec sk_1 rfl ?_
          refine Rn.ic dk_10_48 cic_1 ?_
          refine Rn.pu (st' := [.int ((I6 1 1) + 1), .ref 1]) dk_10_49 L_10 rfl ?_
          obtain ⟨I7, eI7, h⟩ := letS h
          refine Rn.pI dk_10_50 f_10_50.choose_spec.1 sk_1 rfl f_10_50.choose_spec.2 rfl rfl ?_
          rw [← eI7]
          refine Rn.ic dk_10_53 cic_1 ?_
          cases h
          exact Rn.ri dk_10_54 R_10 rfl
        · rw [if_neg c4] at h
          refine Rn.i2f (t := 33) dk_10_28 rfl (decide_eq_false c4) ?_
          refine Rn.ic dk_10_31 cic_0 ?_
          cases h
          exact Rn.ri dk_10_32 R_10 rfl
def m_10 (x1 : Int32) (I : dI) (J : dJ) : Option (Int32 × dI × dJ) := b_10_0 x1 I J
theorem x_10 {Q : Nat → Option Nat} {D : Nat} (hD : 2 ≤ D) {x1 : Int32} {I : dI} {J : dJ} {R : (Int32 × dI × dJ)} (h : m_10 x1 I J = some R) : Ex Q D 10 I J [.ref 1, .int x1] (some (.int R.1)) R.2.1 R.2.2 := by
  obtain ⟨D, rfl⟩ : ∃ D', D = D' + 1 := ⟨D - 1, by omega⟩
  exact Ex.of (by decide) (by rw [L_10]; exact Nat.le_of_ble_eq_true rfl) (show xm_sub [(0, .ref 1), (1, .int x1)] [(0, .ref 1), (1, .int x1)] from xm_sub_of [0, 1] [0, 1] rfl rfl (by decide)) (p_10_0 (Nat.le_of_succ_le_succ hD) _ _ _ _ h)
-- ConditionDesk.type(C)Z
theorem L_9 : tb_mL 9 = 2 := by decide +kernel
theorem R_9 : tb_mr 9 = some .boolean := by decide +kernel
theorem dk_9_0 : decode (tb_mb 9) 0 = .ok (.aload_n 0, 1) := by decide +kernel
theorem dk_9_1 : decode (tb_mb 9) 1 = .ok (.getfield 10, 3) := by decide +kernel
theorem f_9_1 : ∃ b, tb_fr (tb_oc 9) 10 = some (8, 0, b) := ⟨_, rfl⟩
theorem dk_9_4 : decode (tb_mb 9) 4 = .ok (.iload_n 1, 1) := by decide +kernel
theorem dk_9_5 : decode (tb_mb 9) 5 = .ok (.invokevirtual 45, 3) := by decide +kernel
theorem ck_9_5 : ∃ b, tb_cr (tb_oc 9) 45 = some (0, 10, b, 1) := ⟨_, rfl⟩
theorem dk_9_8 : decode (tb_mb 9) 8 = .ok (.ireturn, 1) := by decide +kernel
def b_9_0 (x1 : Int32) (I : dI) (J : dJ) : Option (Int32 × dI × dJ) := (m_10 x1 I J).bind (fun r1 => if r1.1 = 0 ∨ r1.1 = 1 then (some (r1.1, r1.2.1, r1.2.2)) else none)
theorem p_9_0 {Q : Nat → Option Nat} {D : Nat} (hD : 2 ≤ D) (x1 : Int32) (I : dI) (J : dJ) (R : (Int32 × dI × dJ)) (h : b_9_0 x1 I J = some R) : Rn Q D 9 0 [(0, .ref 0), (1, .int x1)] [] I J (some (.int R.1)) R.2.1 R.2.2 := by
  replace h : ((m_10 x1 I J).bind (fun r1 => if r1.1 = 0 ∨ r1.1 = 1 then (some (r1.1, r1.2.1, r1.2.2)) else none)) = some R := h
  refine Rn.pu (st' := [.ref 0]) dk_9_0 L_9 rfl ?_
  refine Rn.gR (r := 1) dk_9_1 f_9_1.choose_spec sk_0 rfl ?_
  refine Rn.pu (st' := [.int x1, .ref 1]) dk_9_4 L_9 rfl ?_
  obtain ⟨r1, e2, h⟩ := bindS h
  refine Rn.cvI (p := 1) (As := [.int x1]) (rest := []) dk_9_5 ck_9_5.choose_spec rfl sk_1 rfl (x_10 (Nat.le_trans (Nat.le_of_ble_eq_true rfl) hD) e2) ?_
  obtain ⟨c3, h⟩ := xm_if h
  cases h
  exact Rn.ri dk_9_8 R_9 (nar_b c3)
def m_9 (x1 : Int32) (I : dI) (J : dJ) : Option (Int32 × dI × dJ) := b_9_0 x1 I J
theorem x_9 {Q : Nat → Option Nat} {D : Nat} (hD : 3 ≤ D) {x1 : Int32} {I : dI} {J : dJ} {R : (Int32 × dI × dJ)} (h : m_9 x1 I J = some R) : Ex Q D 9 I J [.ref 0, .int x1] (some (.int R.1)) R.2.1 R.2.2 := by
  obtain ⟨D, rfl⟩ : ∃ D', D = D' + 1 := ⟨D - 1, by omega⟩
  exact Ex.of (by decide) (by rw [L_9]; exact Nat.le_of_ble_eq_true rfl) (show xm_sub [(0, .ref 0), (1, .int x1)] [(0, .ref 0), (1, .int x1)] from xm_sub_of [0, 1] [0, 1] rfl rfl (by decide)) (p_9_0 (Nat.le_of_succ_le_succ hD) _ _ _ _ h)
-- ConditionDesk.go(J)V
theorem L_11 : tb_mL 11 = 3 := by decide +kernel
theorem R_11 : tb_mr 11 = none := by decide +kernel
theorem dk_11_0 : decode (tb_mb 11) 0 = .ok (.aload_n 0, 1) := by decide +kernel
theorem dk_11_1 : decode (tb_mb 11) 1 = .ok (.getfield 19, 3) := by decide +kernel
theorem f_11_1 : ∃ b, tb_fr (tb_oc 11) 19 = some (8, 1, b) := ⟨_, rfl⟩
theorem dk_11_4 : decode (tb_mb 11) 4 = .ok (.lload_n 1, 1) := by decide +kernel
theorem dk_11_5 : decode (tb_mb 11) 5 = .ok (.putfield 85, 3) := by decide +kernel
theorem f_11_5 : ∃ b, tb_fr (tb_oc 11) 85 = some (2, 2, b) ∧ xm_fin tb_cl (tb_ini 11) b 2 2 = true := ⟨_, rfl, rfl⟩
theorem dk_11_8 : decode (tb_mb 11) 8 = .ok (.return_, 1) := by decide +kernel
def b_11_0 (x1 : Int64) (I : dI) (J : dJ) : Option (dI × dJ) := lt_ (sJ J 3 2 x1) (fun J1 => some (I, J1))
theorem p_11_0 {Q : Nat → Option Nat} {D : Nat} (hD : 1 ≤ D) (x1 : Int64) (I : dI) (J : dJ) (R : (dI × dJ)) (h : b_11_0 x1 I J = some R) : Rn Q D 11 0 [(0, .ref 0), (1, .long x1)] [] I J (none) R.1 R.2 := by
  replace h : (lt_ (sJ J 3 2 x1) (fun J1 => some (I, J1))) = some R := h
  refine Rn.pu (st' := [.ref 0]) dk_11_0 L_11 rfl ?_
  refine Rn.gR (r := 3) dk_11_1 f_11_1.choose_spec sk_0 rfl ?_
  refine Rn.pu (st' := [.long x1, .ref 3]) dk_11_4 L_11 rfl ?_
  obtain ⟨J1, eJ1, h⟩ := letS h
  refine Rn.pJ dk_11_5 f_11_5.choose_spec.1 sk_3 rfl f_11_5.choose_spec.2 rfl rfl ?_
  rw [← eJ1]
  cases h
  exact Rn.rv dk_11_8 R_11
def m_11 (x1 : Int64) (I : dI) (J : dJ) : Option (dI × dJ) := b_11_0 x1 I J
theorem x_11 {Q : Nat → Option Nat} {D : Nat} (hD : 2 ≤ D) {x1 : Int64} {I : dI} {J : dJ} {R : (dI × dJ)} (h : m_11 x1 I J = some R) : Ex Q D 11 I J [.ref 0, .long x1] (none) R.1 R.2 := by
  obtain ⟨D, rfl⟩ : ∃ D', D = D' + 1 := ⟨D - 1, by omega⟩
  exact Ex.of (by decide) (by rw [L_11]; exact Nat.le_of_ble_eq_true rfl) (show xm_sub [(0, .ref 0), (1, .long x1)] [(0, .ref 0), (1, .long x1)] from xm_sub_of [0, 1] [0, 1] rfl rfl (by decide)) (p_11_0 (Nat.le_of_succ_le_succ hD) _ _ _ _ h)
-- ConditionDesk$Program.has(I)Z
theorem L_16 : tb_mL 16 = 2 := by decide +kernel
theorem R_16 : tb_mr 16 = some .boolean := by decide +kernel
theorem dk_16_0 : decode (tb_mb 16) 0 = .ok (.iload_n 1, 1) := by decide +kernel
theorem dk_16_1 : decode (tb_mb 16) 1 = .ok (.ifCond .lt (15), 3) := by decide +kernel
theorem dk_16_16 : decode (tb_mb 16) 16 = .ok (.iconst (0), 1) := by decide +kernel
theorem dk_16_17 : decode (tb_mb 16) 17 = .ok (.ireturn, 1) := by decide +kernel
theorem dk_16_4 : decode (tb_mb 16) 4 = .ok (.iload_n 1, 1) := by decide +kernel
theorem dk_16_5 : decode (tb_mb 16) 5 = .ok (.aload_n 0, 1) := by decide +kernel
theorem dk_16_6 : decode (tb_mb 16) 6 = .ok (.getfield 25, 3) := by decide +kernel
theorem f_16_6 : ∃ b, tb_fr (tb_oc 16) 25 = some (4, 4, b) := ⟨_, rfl⟩
theorem dk_16_9 : decode (tb_mb 16) 9 = .ok (.if_icmp .ge (7), 3) := by decide +kernel
theorem dk_16_12 : decode (tb_mb 16) 12 = .ok (.iconst (1), 1) := by decide +kernel
theorem dk_16_13 : decode (tb_mb 16) 13 = .ok (.goto (4), 3) := by decide +kernel
def b_16_0 (p : Nat) (x1 : Int32) (I : dI) (J : dJ) : Option Int32 := if x1 < 0 then (some 0) else (if (I p 4) ≤ x1 then (some 0) else (some 1))
theorem p_16_0 {Q : Nat → Option Nat} {D : Nat} {p : Nat} (hD : 1 ≤ D) (okp : okPr p) (x1 : Int32) (I : dI) (J : dJ) (R : Int32) (h : b_16_0 p x1 I J = some R) : Rn Q D 16 0 [(0, .ref p), (1, .int x1)] [] I J (some (.int R)) I J := by
  replace h : (if x1 < 0 then (some 0) else (if (I p 4) ≤ x1 then (some 0) else (some 1))) = some R := h
  refine Rn.pu (st' := [.int x1]) dk_16_0 L_16 rfl ?_
  by_cases c1 : x1 < 0
  · rw [if_pos c1] at h
    refine Rn.i1t (t := 16) dk_16_1 rfl (decide_eq_true c1) ?_
    refine Rn.ic dk_16_16 cic_0 ?_
    cases h
    exact Rn.ri dk_16_17 R_16 rfl
  · rw [if_neg c1] at h
    refine Rn.i1f (t := 16) dk_16_1 rfl (decide_eq_false c1) ?_
    refine Rn.pu (st' := [.int x1]) dk_16_4 L_16 rfl ?_
    refine Rn.pu (st' := [.ref p, .int x1]) dk_16_5 L_16 rfl ?_
    refine Rn.gI dk_16_6 f_16_6.choose_spec okp.1 rfl ?_
    by_cases c2 : (I p 4) ≤ x1
    · rw [if_pos c2] at h
      refine Rn.i2t (t := 16) dk_16_9 rfl (decide_eq_true c2) ?_
      refine Rn.ic dk_16_16 cic_0 ?_
      cases h
      exact Rn.ri dk_16_17 R_16 rfl
    · rw [if_neg c2] at h
      refine Rn.i2f (t := 16) dk_16_9 rfl (decide_eq_false c2) ?_
      refine Rn.ic dk_16_12 cic_1 ?_
      refine Rn.gt (t := 17) dk_16_13 rfl ?_
      cases h
      exact Rn.ri dk_16_17 R_16 rfl
def m_16 (p : Nat) (x1 : Int32) (I : dI) (J : dJ) : Option Int32 := b_16_0 p x1 I J
theorem x_16 {Q : Nat → Option Nat} {D : Nat} {p : Nat} (hD : 2 ≤ D) (okp : okPr p) {x1 : Int32} {I : dI} {J : dJ} {R : Int32} (h : m_16 p x1 I J = some R) : Ex Q D 16 I J [.ref p, .int x1] (some (.int R)) I J := by
  obtain ⟨D, rfl⟩ : ∃ D', D = D' + 1 := ⟨D - 1, by omega⟩
  exact Ex.of (by decide) (by rw [L_16]; exact Nat.le_of_ble_eq_true rfl) (show xm_sub [(0, .ref p), (1, .int x1)] [(0, .ref p), (1, .int x1)] from xm_sub_of [0, 1] [0, 1] rfl rfl (by decide)) (p_16_0 (Nat.le_of_succ_le_succ hD) okp _ _ _ _ h)
-- ConditionDesk$Program.kindAt(I)I
theorem L_17 : tb_mL 17 = 2 := by decide +kernel
theorem R_17 : tb_mr 17 = some .int := by decide +kernel
theorem dk_17_0 : decode (tb_mb 17) 0 = .ok (.iload_n 1, 1) := by decide +kernel
theorem dk_17_1 : decode (tb_mb 17) 1 = .ok (.ifCond .lt (21), 3) := by decide +kernel
theorem dk_17_22 : decode (tb_mb 17) 22 = .ok (.iconst (1), 1) := by decide +kernel
theorem dk_17_23 : decode (tb_mb 17) 23 = .ok (.ireturn, 1) := by decide +kernel
theorem dk_17_4 : decode (tb_mb 17) 4 = .ok (.iload_n 1, 1) := by decide +kernel
theorem dk_17_5 : decode (tb_mb 17) 5 = .ok (.aload_n 0, 1) := by decide +kernel
theorem dk_17_6 : decode (tb_mb 17) 6 = .ok (.getfield 9, 3) := by decide +kernel
theorem f_17_6 : ∃ b, tb_fr (tb_oc 17) 9 = some (4, 0, b) := ⟨_, rfl⟩
theorem dk_17_9 : decode (tb_mb 17) 9 = .ok (.arraylength, 1) := by decide +kernel
theorem dk_17_10 : decode (tb_mb 17) 10 = .ok (.if_icmp .ge (12), 3) := by decide +kernel
theorem dk_17_13 : decode (tb_mb 17) 13 = .ok (.aload_n 0, 1) := by decide +kernel
theorem dk_17_14 : decode (tb_mb 17) 14 = .ok (.getfield 9, 3) := by decide +kernel
theorem f_17_14 : ∃ b, tb_fr (tb_oc 17) 9 = some (4, 0, b) := ⟨_, rfl⟩
theorem dk_17_17 : decode (tb_mb 17) 17 = .ok (.iload_n 1, 1) := by decide +kernel
theorem dk_17_18 : decode (tb_mb 17) 18 = .ok (.iaload, 1) := by decide +kernel
theorem dk_17_19 : decode (tb_mb 17) 19 = .ok (.goto (4), 3) := by decide +kernel
def b_17_0 (p : Nat) (x1 : Int32) (I : dI) (J : dJ) : Option Int32 := if x1 < 0 then (some 1) else (if (Int32.ofNat 40) ≤ x1 then (some 1) else (if ¬ (x1 < 0 ∨ 40 ≤ Int32.toNatClampNeg x1) then (some (I (p + 1) (Int32.toNatClampNeg x1))) else none))
theorem p_17_0 {Q : Nat → Option Nat} {D : Nat} {p : Nat} (hD : 1 ≤ D) (okp : okPr p) (x1 : Int32) (I : dI) (J : dJ) (R : Int32) (h : b_17_0 p x1 I J = some R) : Rn Q D 17 0 [(0, .ref p), (1, .int x1)] [] I J (some (.int R)) I J := by
  replace h : (if x1 < 0 then (some 1) else (if (Int32.ofNat 40) ≤ x1 then (some 1) else (if ¬ (x1 < 0 ∨ 40 ≤ Int32.toNatClampNeg x1) then (some (I (p + 1) (Int32.toNatClampNeg x1))) else none))) = some R := h
  refine Rn.pu (st' := [.int x1]) dk_17_0 L_17 rfl ?_
  by_cases c1 : x1 < 0
  · rw [if_pos c1] at h
    refine Rn.i1t (t := 22) dk_17_1 rfl (decide_eq_true c1) ?_
    refine Rn.ic dk_17_22 cic_1 ?_
    cases h
    exact Rn.ri dk_17_23 R_17 rfl
  · rw [if_neg c1] at h
    refine Rn.i1f (t := 22) dk_17_1 rfl (decide_eq_false c1) ?_
    refine Rn.pu (st' := [.int x1]) dk_17_4 L_17 rfl ?_
    refine Rn.pu (st' := [.ref p, .int x1]) dk_17_5 L_17 rfl ?_
    refine Rn.gR (r := (p + 1)) dk_17_6 f_17_6.choose_spec okp.1 rfl ?_
    refine Rn.alen dk_17_9 okp.2.1 (by decide) ?_
    by_cases c2 : (Int32.ofNat 40) ≤ x1
    · rw [if_pos c2] at h
      refine Rn.i2t (t := 22) dk_17_10 rfl (decide_eq_true c2) ?_
      refine Rn.ic dk_17_22 cic_1 ?_
      cases h
      exact Rn.ri dk_17_23 R_17 rfl
    · rw [if_neg c2] at h
      refine Rn.i2f (t := 22) dk_17_10 rfl (decide_eq_false c2) ?_
      refine Rn.pu (st' := [.ref p]) dk_17_13 L_17 rfl ?_
      refine Rn.gR (r := (p + 1)) dk_17_14 f_17_14.choose_spec okp.1 rfl ?_
      refine Rn.pu (st' := [.int x1, .ref (p + 1)]) dk_17_17 L_17 rfl ?_
      obtain ⟨c3, h⟩ := xm_if h
      refine Rn.iald dk_17_18 okp.2.1 c3 ?_
      refine Rn.gt (t := 23) dk_17_19 rfl ?_
      cases h
      exact Rn.ri dk_17_23 R_17 rfl
def m_17 (p : Nat) (x1 : Int32) (I : dI) (J : dJ) : Option Int32 := b_17_0 p x1 I J
theorem x_17 {Q : Nat → Option Nat} {D : Nat} {p : Nat} (hD : 2 ≤ D) (okp : okPr p) {x1 : Int32} {I : dI} {J : dJ} {R : Int32} (h : m_17 p x1 I J = some R) : Ex Q D 17 I J [.ref p, .int x1] (some (.int R)) I J := by
  obtain ⟨D, rfl⟩ : ∃ D', D = D' + 1 := ⟨D - 1, by omega⟩
  exact Ex.of (by decide) (by rw [L_17]; exact Nat.le_of_ble_eq_true rfl) (show xm_sub [(0, .ref p), (1, .int x1)] [(0, .ref p), (1, .int x1)] from xm_sub_of [0, 1] [0, 1] rfl rfl (by decide)) (p_17_0 (Nat.le_of_succ_le_succ hD) okp _ _ _ _ h)
-- ConditionDesk$Program.valueAt(I)J
theorem L_18 : tb_mL 18 = 2 := by decide +kernel
theorem R_18 : tb_mr 18 = some .long := by decide +kernel
theorem dk_18_0 : decode (tb_mb 18) 0 = .ok (.iload_n 1, 1) := by decide +kernel
theorem dk_18_1 : decode (tb_mb 18) 1 = .ok (.ifCond .lt (21), 3) := by decide +kernel
theorem dk_18_22 : decode (tb_mb 18) 22 = .ok (.lconst 0, 1) := by decide +kernel
theorem dk_18_23 : decode (tb_mb 18) 23 = .ok (.lreturn, 1) := by decide +kernel
theorem dk_18_4 : decode (tb_mb 18) 4 = .ok (.iload_n 1, 1) := by decide +kernel
theorem dk_18_5 : decode (tb_mb 18) 5 = .ok (.aload_n 0, 1) := by decide +kernel
theorem dk_18_6 : decode (tb_mb 18) 6 = .ok (.getfield 21, 3) := by decide +kernel
theorem f_18_6 : ∃ b, tb_fr (tb_oc 18) 21 = some (4, 3, b) := ⟨_, rfl⟩
theorem dk_18_9 : decode (tb_mb 18) 9 = .ok (.arraylength, 1) := by decide +kernel
theorem dk_18_10 : decode (tb_mb 18) 10 = .ok (.if_icmp .ge (12), 3) := by decide +kernel
theorem dk_18_13 : decode (tb_mb 18) 13 = .ok (.aload_n 0, 1) := by decide +kernel
theorem dk_18_14 : decode (tb_mb 18) 14 = .ok (.getfield 21, 3) := by decide +kernel
theorem f_18_14 : ∃ b, tb_fr (tb_oc 18) 21 = some (4, 3, b) := ⟨_, rfl⟩
theorem dk_18_17 : decode (tb_mb 18) 17 = .ok (.iload_n 1, 1) := by decide +kernel
theorem dk_18_18 : decode (tb_mb 18) 18 = .ok (.laload, 1) := by decide +kernel
theorem dk_18_19 : decode (tb_mb 18) 19 = .ok (.goto (4), 3) := by decide +kernel
def b_18_0 (p : Nat) (x1 : Int32) (I : dI) (J : dJ) : Option Int64 := if x1 < 0 then (some 0) else (if (Int32.ofNat 40) ≤ x1 then (some 0) else (if ¬ (x1 < 0 ∨ 40 ≤ Int32.toNatClampNeg x1) then (some (J (p + 4) (Int32.toNatClampNeg x1))) else none))
theorem p_18_0 {Q : Nat → Option Nat} {D : Nat} {p : Nat} (hD : 1 ≤ D) (okp : okPr p) (x1 : Int32) (I : dI) (J : dJ) (R : Int64) (h : b_18_0 p x1 I J = some R) : Rn Q D 18 0 [(0, .ref p), (1, .int x1)] [] I J (some (.long R)) I J := by
  replace h : (if x1 < 0 then (some 0) else (if (Int32.ofNat 40) ≤ x1 then (some 0) else (if ¬ (x1 < 0 ∨ 40 ≤ Int32.toNatClampNeg x1) then (some (J (p + 4) (Int32.toNatClampNeg x1))) else none))) = some R := h
  refine Rn.pu (st' := [.int x1]) dk_18_0 L_18 rfl ?_
  by_cases c1 : x1 < 0
  · rw [if_pos c1] at h
    refine Rn.i1t (t := 22) dk_18_1 rfl (decide_eq_true c1) ?_
    refine Rn.lc dk_18_22 clc_0 ?_
    cases h
    exact Rn.rl dk_18_23 R_18
  · rw [if_neg c1] at h
    refine Rn.i1f (t := 22) dk_18_1 rfl (decide_eq_false c1) ?_
    refine Rn.pu (st' := [.int x1]) dk_18_4 L_18 rfl ?_
    refine Rn.pu (st' := [.ref p, .int x1]) dk_18_5 L_18 rfl ?_
    refine Rn.gR (r := (p + 4)) dk_18_6 f_18_6.choose_spec okp.1 rfl ?_
    refine Rn.alen dk_18_9 okp.2.2.2.2 (by decide) ?_
    by_cases c2 : (Int32.ofNat 40) ≤ x1
    · rw [if_pos c2] at h
      refine Rn.i2t (t := 22) dk_18_10 rfl (decide_eq_true c2) ?_
      refine Rn.lc dk_18_22 clc_0 ?_
      cases h
      exact Rn.rl dk_18_23 R_18
    · rw [if_neg c2] at h
      refine Rn.i2f (t := 22) dk_18_10 rfl (decide_eq_false c2) ?_
      refine Rn.pu (st' := [.ref p]) dk_18_13 L_18 rfl ?_
      refine Rn.gR (r := (p + 4)) dk_18_14 f_18_14.choose_spec okp.1 rfl ?_
      refine Rn.pu (st' := [.int x1, .ref (p + 4)]) dk_18_17 L_18 rfl ?_
      obtain ⟨c3, h⟩ := xm_if h
      refine Rn.lald dk_18_18 okp.2.2.2.2 c3 ?_
      refine Rn.gt (t := 23) dk_18_19 rfl ?_
      cases h
      exact Rn.rl dk_18_23 R_18
def m_18 (p : Nat) (x1 : Int32) (I : dI) (J : dJ) : Option Int64 := b_18_0 p x1 I J
theorem x_18 {Q : Nat → Option Nat} {D : Nat} {p : Nat} (hD : 2 ≤ D) (okp : okPr p) {x1 : Int32} {I : dI} {J : dJ} {R : Int64} (h : m_18 p x1 I J = some R) : Ex Q D 18 I J [.ref p, .int x1] (some (.long R)) I J := by
  obtain ⟨D, rfl⟩ : ∃ D', D = D' + 1 := ⟨D - 1, by omega⟩
  exact Ex.of (by decide) (by rw [L_18]; exact Nat.le_of_ble_eq_true rfl) (show xm_sub [(0, .ref p), (1, .int x1)] [(0, .ref p), (1, .int x1)] from xm_sub_of [0, 1] [0, 1] rfl rfl (by decide)) (p_18_0 (Nat.le_of_succ_le_succ hD) okp _ _ _ _ h)
-- ConditionDesk$Machine.registerAt(J)I
theorem L_19 : tb_mL 19 = 3 := by decide +kernel
theorem R_19 : tb_mr 19 = some .int := by decide +kernel
theorem dk_19_0 : decode (tb_mb 19) 0 = .ok (.lload_n 1, 1) := by decide +kernel
theorem dk_19_1 : decode (tb_mb 19) 1 = .ok (.lconst 0, 1) := by decide +kernel
theorem dk_19_2 : decode (tb_mb 19) 2 = .ok (.lcmp, 1) := by decide +kernel
theorem dk_19_3 : decode (tb_mb 19) 3 = .ok (.ifCond .lt (24), 3) := by decide +kernel
theorem dk_19_27 : decode (tb_mb 19) 27 = .ok (.iconst (0), 1) := by decide +kernel
theorem dk_19_28 : decode (tb_mb 19) 28 = .ok (.ireturn, 1) := by decide +kernel
theorem dk_19_6 : decode (tb_mb 19) 6 = .ok (.lload_n 1, 1) := by decide +kernel
theorem dk_19_7 : decode (tb_mb 19) 7 = .ok (.aload_n 0, 1) := by decide +kernel
theorem dk_19_8 : decode (tb_mb 19) 8 = .ok (.getfield 9, 3) := by decide +kernel
theorem f_19_8 : ∃ b, tb_fr (tb_oc 19) 9 = some (2, 0, b) := ⟨_, rfl⟩
theorem dk_19_11 : decode (tb_mb 19) 11 = .ok (.arraylength, 1) := by decide +kernel
theorem dk_19_12 : decode (tb_mb 19) 12 = .ok (.i2l, 1) := by decide +kernel
theorem dk_19_13 : decode (tb_mb 19) 13 = .ok (.lcmp, 1) := by decide +kernel
theorem dk_19_14 : decode (tb_mb 19) 14 = .ok (.ifCond .ge (13), 3) := by decide +kernel
theorem dk_19_17 : decode (tb_mb 19) 17 = .ok (.aload_n 0, 1) := by decide +kernel
theorem dk_19_18 : decode (tb_mb 19) 18 = .ok (.getfield 9, 3) := by decide +kernel
theorem f_19_18 : ∃ b, tb_fr (tb_oc 19) 9 = some (2, 0, b) := ⟨_, rfl⟩
theorem dk_19_21 : decode (tb_mb 19) 21 = .ok (.lload_n 1, 1) := by decide +kernel
theorem dk_19_22 : decode (tb_mb 19) 22 = .ok (.l2i, 1) := by decide +kernel
theorem dk_19_23 : decode (tb_mb 19) 23 = .ok (.iaload, 1) := by decide +kernel
theorem dk_19_24 : decode (tb_mb 19) 24 = .ok (.goto (4), 3) := by decide +kernel
def b_19_0 (x1 : Int64) (I : dI) (J : dJ) : Option Int32 := if (lg_cmp x1 0) < 0 then (some 0) else (if 0 ≤ (lg_cmp x1 (Int32.toInt64 (Int32.ofNat 34))) then (some 0) else (if ¬ ((Int64.toInt32 x1) < 0 ∨ 34 ≤ Int32.toNatClampNeg (Int64.toInt32 x1)) then (some (I 4 (Int32.toNatClampNeg (Int64.toInt32 x1)))) else none))
theorem p_19_0 {Q : Nat → Option Nat} {D : Nat} (hD : 1 ≤ D) (x1 : Int64) (I : dI) (J : dJ) (R : Int32) (h : b_19_0 x1 I J = some R) : Rn Q D 19 0 [(0, .ref 3), (1, .long x1)] [] I J (some (.int R)) I J := by
  replace h : (if (lg_cmp x1 0) < 0 then (some 0) else (if 0 ≤ (lg_cmp x1 (Int32.toInt64 (Int32.ofNat 34))) then (some 0) else (if ¬ ((Int64.toInt32 x1) < 0 ∨ 34 ≤ Int32.toNatClampNeg (Int64.toInt32 x1)) then (some (I 4 (Int32.toNatClampNeg (Int64.toInt32 x1)))) else none))) = some R := h
  refine Rn.pu (st' := [.long x1]) dk_19_0 L_19 rfl ?_
  refine Rn.lc dk_19_1 clc_0 ?_
  refine Rn.pu (st' := [.int (lg_cmp x1 0)]) dk_19_2 L_19 rfl ?_
  by_cases c1 : (lg_cmp x1 0) < 0
  · rw [if_pos c1] at h
    refine Rn.i1t (t := 27) dk_19_3 rfl (decide_eq_true c1) ?_
    refine Rn.ic dk_19_27 cic_0 ?_
    cases h
    exact Rn.ri dk_19_28 R_19 rfl
  · rw [if_neg c1] at h
    refine Rn.i1f (t := 27) dk_19_3 rfl (decide_eq_false c1) ?_
    refine Rn.pu (st' := [.long x1]) dk_19_6 L_19 rfl ?_
    refine Rn.pu (st' := [.ref 3, .long x1]) dk_19_7 L_19 rfl ?_
    refine Rn.gR (r := 4) dk_19_8 f_19_8.choose_spec sk_3 rfl ?_
    refine Rn.alen dk_19_11 sk_4 (by decide) ?_
    refine Rn.pu (st' := [.long (Int32.toInt64 (Int32.ofNat 34)), .long x1]) dk_19_12 L_19 rfl ?_
    refine Rn.pu (st' := [.int (lg_cmp x1 (Int32.toInt64 (Int32.ofNat 34)))]) dk_19_13 L_19 rfl ?_
    by_cases c2 : 0 ≤ (lg_cmp x1 (Int32.toInt64 (Int32.ofNat 34)))
    · rw [if_pos c2] at h
      refine Rn.i1t (t := 27) dk_19_14 rfl (decide_eq_true c2) ?_
      refine Rn.ic dk_19_27 cic_0 ?_
      cases h
      exact Rn.ri dk_19_28 R_19 rfl
    · rw [if_neg c2] at h
      refine Rn.i1f (t := 27) dk_19_14 rfl (decide_eq_false c2) ?_
      refine Rn.pu (st' := [.ref 3]) dk_19_17 L_19 rfl ?_
      refine Rn.gR (r := 4) dk_19_18 f_19_18.choose_spec sk_3 rfl ?_
      refine Rn.pu (st' := [.long x1, .ref 4]) dk_19_21 L_19 rfl ?_
      refine Rn.pu (st' := [.int (Int64.toInt32 x1), .ref 4]) dk_19_22 L_19 rfl ?_
      obtain ⟨c3, h⟩ := xm_if h
      refine Rn.iald dk_19_23 sk_4 c3 ?_
      refine Rn.gt (t := 28) dk_19_24 rfl ?_
      cases h
      exact Rn.ri dk_19_28 R_19 rfl
def m_19 (x1 : Int64) (I : dI) (J : dJ) : Option Int32 := b_19_0 x1 I J
theorem x_19 {Q : Nat → Option Nat} {D : Nat} (hD : 2 ≤ D) {x1 : Int64} {I : dI} {J : dJ} {R : Int32} (h : m_19 x1 I J = some R) : Ex Q D 19 I J [.ref 3, .long x1] (some (.int R)) I J := by
  obtain ⟨D, rfl⟩ : ∃ D', D = D' + 1 := ⟨D - 1, by omega⟩
  exact Ex.of (by decide) (by rw [L_19]; exact Nat.le_of_ble_eq_true rfl) (show xm_sub [(0, .ref 3), (1, .long x1)] [(0, .ref 3), (1, .long x1)] from xm_sub_of [0, 1] [0, 1] rfl rfl (by decide)) (p_19_0 (Nat.le_of_succ_le_succ hD) _ _ _ _ h)
-- ConditionDesk$Worker.rememberedAt(I)J
theorem L_20 : tb_mL 20 = 2 := by decide +kernel
theorem R_20 : tb_mr 20 = some .long := by decide +kernel
theorem dk_20_0 : decode (tb_mb 20) 0 = .ok (.iload_n 1, 1) := by decide +kernel
theorem dk_20_1 : decode (tb_mb 20) 1 = .ok (.ifCond .lt (21), 3) := by decide +kernel
theorem dk_20_22 : decode (tb_mb 20) 22 = .ok (.lconst 0, 1) := by decide +kernel
theorem dk_20_23 : decode (tb_mb 20) 23 = .ok (.lreturn, 1) := by decide +kernel
theorem dk_20_4 : decode (tb_mb 20) 4 = .ok (.iload_n 1, 1) := by decide +kernel
theorem dk_20_5 : decode (tb_mb 20) 5 = .ok (.aload_n 0, 1) := by decide +kernel
theorem dk_20_6 : decode (tb_mb 20) 6 = .ok (.getfield 18, 3) := by decide +kernel
theorem f_20_6 : ∃ b, tb_fr (tb_oc 20) 18 = some (7, 2, b) := ⟨_, rfl⟩
theorem dk_20_9 : decode (tb_mb 20) 9 = .ok (.arraylength, 1) := by decide +kernel
theorem dk_20_10 : decode (tb_mb 20) 10 = .ok (.if_icmp .ge (12), 3) := by decide +kernel
theorem dk_20_13 : decode (tb_mb 20) 13 = .ok (.aload_n 0, 1) := by decide +kernel
theorem dk_20_14 : decode (tb_mb 20) 14 = .ok (.getfield 18, 3) := by decide +kernel
theorem f_20_14 : ∃ b, tb_fr (tb_oc 20) 18 = some (7, 2, b) := ⟨_, rfl⟩
theorem dk_20_17 : decode (tb_mb 20) 17 = .ok (.iload_n 1, 1) := by decide +kernel
theorem dk_20_18 : decode (tb_mb 20) 18 = .ok (.laload, 1) := by decide +kernel
theorem dk_20_19 : decode (tb_mb 20) 19 = .ok (.goto (4), 3) := by decide +kernel
def b_20_0 (p : Nat) (x1 : Int32) (I : dI) (J : dJ) : Option Int64 := if x1 < 0 then (some 0) else (if (Int32.ofNat 40) ≤ x1 then (some 0) else (if ¬ (x1 < 0 ∨ 40 ≤ Int32.toNatClampNeg x1) then (some (J (p + 6) (Int32.toNatClampNeg x1))) else none))
theorem p_20_0 {Q : Nat → Option Nat} {D : Nat} {p : Nat} (hD : 1 ≤ D) (okp : okW p) (x1 : Int32) (I : dI) (J : dJ) (R : Int64) (h : b_20_0 p x1 I J = some R) : Rn Q D 20 0 [(0, .ref p), (1, .int x1)] [] I J (some (.long R)) I J := by
  replace h : (if x1 < 0 then (some 0) else (if (Int32.ofNat 40) ≤ x1 then (some 0) else (if ¬ (x1 < 0 ∨ 40 ≤ Int32.toNatClampNeg x1) then (some (J (p + 6) (Int32.toNatClampNeg x1))) else none))) = some R := h
  refine Rn.pu (st' := [.int x1]) dk_20_0 L_20 rfl ?_
  by_cases c1 : x1 < 0
  · rw [if_pos c1] at h
    refine Rn.i1t (t := 22) dk_20_1 rfl (decide_eq_true c1) ?_
    refine Rn.lc dk_20_22 clc_0 ?_
    cases h
    exact Rn.rl dk_20_23 R_20
  · rw [if_neg c1] at h
    refine Rn.i1f (t := 22) dk_20_1 rfl (decide_eq_false c1) ?_
    refine Rn.pu (st' := [.int x1]) dk_20_4 L_20 rfl ?_
    refine Rn.pu (st' := [.ref p, .int x1]) dk_20_5 L_20 rfl ?_
    refine Rn.gR (r := (p + 6)) dk_20_6 f_20_6.choose_spec okp.1 rfl ?_
    refine Rn.alen dk_20_9 okp.2.2.1 (by decide) ?_
    by_cases c2 : (Int32.ofNat 40) ≤ x1
    · rw [if_pos c2] at h
      refine Rn.i2t (t := 22) dk_20_10 rfl (decide_eq_true c2) ?_
      refine Rn.lc dk_20_22 clc_0 ?_
      cases h
      exact Rn.rl dk_20_23 R_20
    · rw [if_neg c2] at h
      refine Rn.i2f (t := 22) dk_20_10 rfl (decide_eq_false c2) ?_
      refine Rn.pu (st' := [.ref p]) dk_20_13 L_20 rfl ?_
      refine Rn.gR (r := (p + 6)) dk_20_14 f_20_14.choose_spec okp.1 rfl ?_
      refine Rn.pu (st' := [.int x1, .ref (p + 6)]) dk_20_17 L_20 rfl ?_
      obtain ⟨c3, h⟩ := xm_if h
      refine Rn.lald dk_20_18 okp.2.2.1 c3 ?_
      refine Rn.gt (t := 23) dk_20_19 rfl ?_
      cases h
      exact Rn.rl dk_20_23 R_20
def m_20 (p : Nat) (x1 : Int32) (I : dI) (J : dJ) : Option Int64 := b_20_0 p x1 I J
theorem x_20 {Q : Nat → Option Nat} {D : Nat} {p : Nat} (hD : 2 ≤ D) (okp : okW p) {x1 : Int32} {I : dI} {J : dJ} {R : Int64} (h : m_20 p x1 I J = some R) : Ex Q D 20 I J [.ref p, .int x1] (some (.long R)) I J := by
  obtain ⟨D, rfl⟩ : ∃ D', D = D' + 1 := ⟨D - 1, by omega⟩
  exact Ex.of (by decide) (by rw [L_20]; exact Nat.le_of_ble_eq_true rfl) (show xm_sub [(0, .ref p), (1, .int x1)] [(0, .ref p), (1, .int x1)] from xm_sub_of [0, 1] [0, 1] rfl rfl (by decide)) (p_20_0 (Nat.le_of_succ_le_succ hD) okp _ _ _ _ h)
-- ConditionDesk$Program.leftOf(I)I
theorem L_21 : tb_mL 21 = 2 := by decide +kernel
theorem R_21 : tb_mr 21 = some .int := by decide +kernel
theorem dk_21_0 : decode (tb_mb 21) 0 = .ok (.iload_n 1, 1) := by decide +kernel
theorem dk_21_1 : decode (tb_mb 21) 1 = .ok (.ifCond .lt (21), 3) := by decide +kernel
theorem dk_21_22 : decode (tb_mb 21) 22 = .ok (.iconst (-1), 1) := by decide +kernel
theorem dk_21_23 : decode (tb_mb 21) 23 = .ok (.ireturn, 1) := by decide +kernel
theorem dk_21_4 : decode (tb_mb 21) 4 = .ok (.iload_n 1, 1) := by decide +kernel
theorem dk_21_5 : decode (tb_mb 21) 5 = .ok (.aload_n 0, 1) := by decide +kernel
theorem dk_21_6 : decode (tb_mb 21) 6 = .ok (.getfield 15, 3) := by decide +kernel
theorem f_21_6 : ∃ b, tb_fr (tb_oc 21) 15 = some (4, 1, b) := ⟨_, rfl⟩
theorem dk_21_9 : decode (tb_mb 21) 9 = .ok (.arraylength, 1) := by decide +kernel
theorem dk_21_10 : decode (tb_mb 21) 10 = .ok (.if_icmp .ge (12), 3) := by decide +kernel
theorem dk_21_13 : decode (tb_mb 21) 13 = .ok (.aload_n 0, 1) := by decide +kernel
theorem dk_21_14 : decode (tb_mb 21) 14 = .ok (.getfield 15, 3) := by decide +kernel
theorem f_21_14 : ∃ b, tb_fr (tb_oc 21) 15 = some (4, 1, b) := ⟨_, rfl⟩
theorem dk_21_17 : decode (tb_mb 21) 17 = .ok (.iload_n 1, 1) := by decide +kernel
theorem dk_21_18 : decode (tb_mb 21) 18 = .ok (.iaload, 1) := by decide +kernel
theorem dk_21_19 : decode (tb_mb 21) 19 = .ok (.goto (4), 3) := by decide +kernel
def b_21_0 (p : Nat) (x1 : Int32) (I : dI) (J : dJ) : Option Int32 := if x1 < 0 then (some (-1)) else (if (Int32.ofNat 40) ≤ x1 then (some (-1)) else (if ¬ (x1 < 0 ∨ 40 ≤ Int32.toNatClampNeg x1) then (some (I (p + 2) (Int32.toNatClampNeg x1))) else none))
theorem p_21_0 {Q : Nat → Option Nat} {D : Nat} {p : Nat} (hD : 1 ≤ D) (okp : okPr p) (x1 : Int32) (I : dI) (J : dJ) (R : Int32) (h : b_21_0 p x1 I J = some R) : Rn Q D 21 0 [(0, .ref p), (1, .int x1)] [] I J (some (.int R)) I J := by
  replace h : (if x1 < 0 then (some (-1)) else (if (Int32.ofNat 40) ≤ x1 then (some (-1)) else (if ¬ (x1 < 0 ∨ 40 ≤ Int32.toNatClampNeg x1) then (some (I (p + 2) (Int32.toNatClampNeg x1))) else none))) = some R := h
  refine Rn.pu (st' := [.int x1]) dk_21_0 L_21 rfl ?_
  by_cases c1 : x1 < 0
  · rw [if_pos c1] at h
    refine Rn.i1t (t := 22) dk_21_1 rfl (decide_eq_true c1) ?_
    refine Rn.ic dk_21_22 cic_m1 ?_
    cases h
    exact Rn.ri dk_21_23 R_21 rfl
  · rw [if_neg c1] at h
    refine Rn.i1f (t := 22) dk_21_1 rfl (decide_eq_false c1) ?_
    refine Rn.pu (st' := [.int x1]) dk_21_4 L_21 rfl ?_
    refine Rn.pu (st' := [.ref p, .int x1]) dk_21_5 L_21 rfl ?_
    refine Rn.gR (r := (p + 2)) dk_21_6 f_21_6.choose_spec okp.1 rfl ?_
    refine Rn.alen dk_21_9 okp.2.2.1 (by decide) ?_
    by_cases c2 : (Int32.ofNat 40) ≤ x1
    · rw [if_pos c2] at h
      refine Rn.i2t (t := 22) dk_21_10 rfl (decide_eq_true c2) ?_
      refine Rn.ic dk_21_22 cic_m1 ?_
      cases h
      exact Rn.ri dk_21_23 R_21 rfl
    · rw [if_neg c2] at h
      refine Rn.i2f (t := 22) dk_21_10 rfl (decide_eq_false c2) ?_
      refine Rn.pu (st' := [.ref p]) dk_21_13 L_21 rfl ?_
      refine Rn.gR (r := (p + 2)) dk_21_14 f_21_14.choose_spec okp.1 rfl ?_
      refine Rn.pu (st' := [.int x1, .ref (p + 2)]) dk_21_17 L_21 rfl ?_
      obtain ⟨c3, h⟩ := xm_if h
      refine Rn.iald dk_21_18 okp.2.2.1 c3 ?_
      refine Rn.gt (t := 23) dk_21_19 rfl ?_
      cases h
      exact Rn.ri dk_21_23 R_21 rfl
def m_21 (p : Nat) (x1 : Int32) (I : dI) (J : dJ) : Option Int32 := b_21_0 p x1 I J
theorem x_21 {Q : Nat → Option Nat} {D : Nat} {p : Nat} (hD : 2 ≤ D) (okp : okPr p) {x1 : Int32} {I : dI} {J : dJ} {R : Int32} (h : m_21 p x1 I J = some R) : Ex Q D 21 I J [.ref p, .int x1] (some (.int R)) I J := by
  obtain ⟨D, rfl⟩ : ∃ D', D = D' + 1 := ⟨D - 1, by omega⟩
  exact Ex.of (by decide) (by rw [L_21]; exact Nat.le_of_ble_eq_true rfl) (show xm_sub [(0, .ref p), (1, .int x1)] [(0, .ref p), (1, .int x1)] from xm_sub_of [0, 1] [0, 1] rfl rfl (by decide)) (p_21_0 (Nat.le_of_succ_le_succ hD) okp _ _ _ _ h)
-- ConditionDesk$Worker.truth(Z)J
theorem L_23 : tb_mL 23 = 1 := by decide +kernel
theorem R_23 : tb_mr 23 = some .long := by decide +kernel
theorem dk_23_0 : decode (tb_mb 23) 0 = .ok (.iload_n 0, 1) := by decide +kernel
theorem dk_23_1 : decode (tb_mb 23) 1 = .ok (.ifCond .eq (7), 3) := by decide +kernel
theorem dk_23_8 : decode (tb_mb 23) 8 = .ok (.lconst 0, 1) := by decide +kernel
theorem dk_23_9 : decode (tb_mb 23) 9 = .ok (.lreturn, 1) := by decide +kernel
theorem dk_23_4 : decode (tb_mb 23) 4 = .ok (.lconst 1, 1) := by decide +kernel
theorem dk_23_5 : decode (tb_mb 23) 5 = .ok (.goto (4), 3) := by decide +kernel
def b_23_0 (x0 : Int32) (I : dI) (J : dJ) : Option Int64 := if x0 = 0 then (some 0) else (some 1)
theorem p_23_0 {Q : Nat → Option Nat} {D : Nat} (hD : 1 ≤ D) (x0 : Int32) (I : dI) (J : dJ) (R : Int64) (h : b_23_0 x0 I J = some R) : Rn Q D 23 0 [(0, .int x0)] [] I J (some (.long R)) I J := by
  replace h : (if x0 = 0 then (some 0) else (some 1)) = some R := h
  refine Rn.pu (st' := [.int x0]) dk_23_0 L_23 rfl ?_
  by_cases c1 : x0 = 0
  · rw [if_pos c1] at h
    refine Rn.i1t (t := 8) dk_23_1 rfl (decide_eq_true c1) ?_
    refine Rn.lc dk_23_8 clc_0 ?_
    cases h
    exact Rn.rl dk_23_9 R_23
  · rw [if_neg c1] at h
    refine Rn.i1f (t := 8) dk_23_1 rfl (decide_eq_false c1) ?_
    refine Rn.lc dk_23_4 clc_1 ?_
    refine Rn.gt (t := 9) dk_23_5 rfl ?_
    cases h
    exact Rn.rl dk_23_9 R_23
def m_23 (x0 : Int32) (I : dI) (J : dJ) : Option Int64 := b_23_0 x0 I J
theorem x_23 {Q : Nat → Option Nat} {D : Nat} (hD : 2 ≤ D) {x0 : Int32} {I : dI} {J : dJ} {R : Int64} (h : m_23 x0 I J = some R) : Ex Q D 23 I J [.int x0] (some (.long R)) I J := by
  obtain ⟨D, rfl⟩ : ∃ D', D = D' + 1 := ⟨D - 1, by omega⟩
  exact Ex.of (by decide) (by rw [L_23]; exact Nat.le_of_ble_eq_true rfl) (show xm_sub [(0, .int x0)] [(0, .int x0)] from xm_sub_of [0] [0] rfl rfl (by decide)) (p_23_0 (Nat.le_of_succ_le_succ hD) _ _ _ _ h)
-- ConditionDesk$Machine.byteAt(I)J
theorem L_25 : tb_mL 25 = 2 := by decide +kernel
theorem R_25 : tb_mr 25 = some .long := by decide +kernel
theorem dk_25_0 : decode (tb_mb 25) 0 = .ok (.iload_n 1, 1) := by decide +kernel
theorem dk_25_1 : decode (tb_mb 25) 1 = .ok (.ifCond .lt (22), 3) := by decide +kernel
theorem dk_25_23 : decode (tb_mb 25) 23 = .ok (.lconst 0, 1) := by decide +kernel
theorem dk_25_24 : decode (tb_mb 25) 24 = .ok (.lreturn, 1) := by decide +kernel
theorem dk_25_4 : decode (tb_mb 25) 4 = .ok (.iload_n 1, 1) := by decide +kernel
theorem dk_25_5 : decode (tb_mb 25) 5 = .ok (.aload_n 0, 1) := by decide +kernel
theorem dk_25_6 : decode (tb_mb 25) 6 = .ok (.getfield 15, 3) := by decide +kernel
theorem f_25_6 : ∃ b, tb_fr (tb_oc 25) 15 = some (2, 1, b) := ⟨_, rfl⟩
theorem dk_25_9 : decode (tb_mb 25) 9 = .ok (.arraylength, 1) := by decide +kernel
theorem dk_25_10 : decode (tb_mb 25) 10 = .ok (.if_icmp .ge (13), 3) := by decide +kernel
theorem dk_25_13 : decode (tb_mb 25) 13 = .ok (.aload_n 0, 1) := by decide +kernel
theorem dk_25_14 : decode (tb_mb 25) 14 = .ok (.getfield 15, 3) := by decide +kernel
theorem f_25_14 : ∃ b, tb_fr (tb_oc 25) 15 = some (2, 1, b) := ⟨_, rfl⟩
theorem dk_25_17 : decode (tb_mb 25) 17 = .ok (.iload_n 1, 1) := by decide +kernel
theorem dk_25_18 : decode (tb_mb 25) 18 = .ok (.iaload, 1) := by decide +kernel
theorem dk_25_19 : decode (tb_mb 25) 19 = .ok (.i2l, 1) := by decide +kernel
theorem dk_25_20 : decode (tb_mb 25) 20 = .ok (.goto (4), 3) := by decide +kernel
def b_25_0 (x1 : Int32) (I : dI) (J : dJ) : Option Int64 := if x1 < 0 then (some 0) else (if (Int32.ofNat 256) ≤ x1 then (some 0) else (if ¬ (x1 < 0 ∨ 256 ≤ Int32.toNatClampNeg x1) then (some (Int32.toInt64 (I 5 (Int32.toNatClampNeg x1)))) else none))
theorem p_25_0 {Q : Nat → Option Nat} {D : Nat} (hD : 1 ≤ D) (x1 : Int32) (I : dI) (J : dJ) (R : Int64) (h : b_25_0 x1 I J = some R) : Rn Q D 25 0 [(0, .ref 3), (1, .int x1)] [] I J (some (.long R)) I J := by
  replace h : (if x1 < 0 then (some 0) else (if (Int32.ofNat 256) ≤ x1 then (some 0) else (if ¬ (x1 < 0 ∨ 256 ≤ Int32.toNatClampNeg x1) then (some (Int32.toInt64 (I 5 (Int32.toNatClampNeg x1)))) else none))) = some R := h
  refine Rn.pu (st' := [.int x1]) dk_25_0 L_25 rfl ?_
  by_cases c1 : x1 < 0
  · rw [if_pos c1] at h
    refine Rn.i1t (t := 23) dk_25_1 rfl (decide_eq_true c1) ?_
    refine Rn.lc dk_25_23 clc_0 ?_
    cases h
    exact Rn.rl dk_25_24 R_25
  · rw [if_neg c1] at h
    refine Rn.i1f (t := 23) dk_25_1 rfl (decide_eq_false c1) ?_
    refine Rn.pu (st' := [.int x1]) dk_25_4 L_25 rfl ?_
    refine Rn.pu (st' := [.ref 3, .int x1]) dk_25_5 L_25 rfl ?_
    refine Rn.gR (r := 5) dk_25_6 f_25_6.choose_spec sk_3 rfl ?_
    refine Rn.alen dk_25_9 sk_5 (by decide) ?_
    by_cases c2 : (Int32.ofNat 256) ≤ x1
    · rw [if_pos c2] at h
      refine Rn.i2t (t := 23) dk_25_10 rfl (decide_eq_true c2) ?_
      refine Rn.lc dk_25_23 clc_0 ?_
      cases h
      exact Rn.rl dk_25_24 R_25
    · rw [if_neg c2] at h
      refine Rn.i2f (t := 23) dk_25_10 rfl (decide_eq_false c2) ?_
      refine Rn.pu (st' := [.ref 3]) dk_25_13 L_25 rfl ?_
      refine Rn.gR (r := 5) dk_25_14 f_25_14.choose_spec sk_3 rfl ?_
      refine Rn.pu (st' := [.int x1, .ref 5]) dk_25_17 L_25 rfl ?_
      obtain ⟨c3, h⟩ := xm_if h
      refine Rn.iald dk_25_18 sk_5 c3 ?_
      refine Rn.pu (st' := [.long (Int32.toInt64 (I 5 (Int32.toNatClampNeg x1)))]) dk_25_19 L_25 rfl ?_
      refine Rn.gt (t := 24) dk_25_20 rfl ?_
      cases h
      exact Rn.rl dk_25_24 R_25
def m_25 (x1 : Int32) (I : dI) (J : dJ) : Option Int64 := b_25_0 x1 I J
theorem x_25 {Q : Nat → Option Nat} {D : Nat} (hD : 2 ≤ D) {x1 : Int32} {I : dI} {J : dJ} {R : Int64} (h : m_25 x1 I J = some R) : Ex Q D 25 I J [.ref 3, .int x1] (some (.long R)) I J := by
  obtain ⟨D, rfl⟩ : ∃ D', D = D' + 1 := ⟨D - 1, by omega⟩
  exact Ex.of (by decide) (by rw [L_25]; exact Nat.le_of_ble_eq_true rfl) (show xm_sub [(0, .ref 3), (1, .int x1)] [(0, .ref 3), (1, .int x1)] from xm_sub_of [0, 1] [0, 1] rfl rfl (by decide)) (p_25_0 (Nat.le_of_succ_le_succ hD) _ _ _ _ h)
-- ConditionDesk$Machine.halfAt(I)J
theorem L_26 : tb_mL 26 = 2 := by decide +kernel
theorem R_26 : tb_mr 26 = some .long := by decide +kernel
theorem dk_26_0 : decode (tb_mb 26) 0 = .ok (.aload_n 0, 1) := by decide +kernel
theorem dk_26_1 : decode (tb_mb 26) 1 = .ok (.iload_n 1, 1) := by decide +kernel
theorem dk_26_2 : decode (tb_mb 26) 2 = .ok (.invokevirtual 22, 3) := by decide +kernel
theorem ck_26_2 : ∃ b, tb_cr (tb_oc 26) 22 = some (0, 25, b, 1) := ⟨_, rfl⟩
theorem dk_26_5 : decode (tb_mb 26) 5 = .ok (.aload_n 0, 1) := by decide +kernel
theorem dk_26_6 : decode (tb_mb 26) 6 = .ok (.iload_n 1, 1) := by decide +kernel
theorem dk_26_7 : decode (tb_mb 26) 7 = .ok (.iconst (1), 1) := by decide +kernel
theorem dk_26_8 : decode (tb_mb 26) 8 = .ok (.iadd, 1) := by decide +kernel
theorem dk_26_9 : decode (tb_mb 26) 9 = .ok (.invokevirtual 22, 3) := by decide +kernel
theorem ck_26_9 : ∃ b, tb_cr (tb_oc 26) 22 = some (0, 25, b, 1) := ⟨_, rfl⟩
theorem dk_26_12 : decode (tb_mb 26) 12 = .ok (.bipush (8), 2) := by decide +kernel
theorem dk_26_14 : decode (tb_mb 26) 14 = .ok (.lshl, 1) := by decide +kernel
theorem dk_26_15 : decode (tb_mb 26) 15 = .ok (.lor, 1) := by decide +kernel
theorem dk_26_16 : decode (tb_mb 26) 16 = .ok (.l2i, 1) := by decide +kernel
theorem dk_26_17 : decode (tb_mb 26) 17 = .ok (.i2s, 1) := by decide +kernel
theorem dk_26_18 : decode (tb_mb 26) 18 = .ok (.i2l, 1) := by decide +kernel
theorem dk_26_19 : decode (tb_mb 26) 19 = .ok (.lreturn, 1) := by decide +kernel
def b_26_0 (x1 : Int32) (I : dI) (J : dJ) : Option Int64 := (m_25 x1 I J).bind (fun r1 => (m_25 (x1 + 1) I J).bind (fun r3 => some (Int32.toInt64 ((Int32.toInt16 (Int64.toInt32 (r1 ||| (r3 <<< ((Int32.toInt64 8) &&& 63))))).toInt32))))
theorem p_26_0 {Q : Nat → Option Nat} {D : Nat} (hD : 2 ≤ D) (x1 : Int32) (I : dI) (J : dJ) (R : Int64) (h : b_26_0 x1 I J = some R) : Rn Q D 26 0 [(0, .ref 3), (1, .int x1)] [] I J (some (.long R)) I J := by
  replace h : ((m_25 x1 I J).bind (fun r1 => (m_25 (x1 + 1) I J).bind (fun r3 => some (Int32.toInt64 ((Int32.toInt16 (Int64.toInt32 (r1 ||| (r3 <<< ((Int32.toInt64 8) &&& 63))))).toInt32))))) = some R := h
  refine Rn.pu (st' := [.ref 3]) dk_26_0 L_26 rfl ?_
  refine Rn.pu (st' := [.int x1, .ref 3]) dk_26_1 L_26 rfl ?_
  obtain ⟨r1, e2, h⟩ := bindS h
  refine Rn.cvJ (p := 3) (As := [.int x1]) (rest := []) dk_26_2 ck_26_2.choose_spec rfl sk_3 rfl (x_25 (Nat.le_trans (Nat.le_of_ble_eq_true rfl) hD) e2) ?_
  refine Rn.pu (st' := [.ref 3, .long r1]) dk_26_5 L_26 rfl ?_
  refine Rn.pu (st' := [.int x1, .ref 3, .long r1]) dk_26_6 L_26 rfl ?_
  refine Rn.ic dk_26_7 cic_1 ?_
  refine Rn.pu (st' := [.int (x1 + 1), .ref 3, .long r1]) dk_26_8 L_26 rfl ?_
  obtain ⟨r3, e4, h⟩ := bindS h
  refine Rn.cvJ (p := 3) (As := [.int (x1 + 1)]) (rest := [.long r1]) dk_26_9 ck_26_9.choose_spec rfl sk_3 rfl (x_25 (Nat.le_trans (Nat.le_of_ble_eq_true rfl) hD) e4) ?_
  refine Rn.bp dk_26_12 cbp_8 ?_
  refine Rn.pu (st' := [.long (r3 <<< ((Int32.toInt64 8) &&& 63)), .long r1]) dk_26_14 L_26 rfl ?_
  refine Rn.pu (st' := [.long (r1 ||| (r3 <<< ((Int32.toInt64 8) &&& 63)))]) dk_26_15 L_26 rfl ?_
  refine Rn.pu (st' := [.int (Int64.toInt32 (r1 ||| (r3 <<< ((Int32.toInt64 8) &&& 63))))]) dk_26_16 L_26 rfl ?_
  refine Rn.pu (st' := [.int ((Int32.toInt16 (Int64.toInt32 (r1 ||| (r3 <<< ((Int32.toInt64 8) &&& 63))))).toInt32)]) dk_26_17 L_26 rfl ?_
  refine Rn.pu (st' := [.long (Int32.toInt64 ((Int32.toInt16 (Int64.toInt32 (r1 ||| (r3 <<< ((Int32.toInt64 8) &&& 63))))).toInt32))]) dk_26_18 L_26 rfl ?_
  cases h
  exact Rn.rl dk_26_19 R_26
def m_26 (x1 : Int32) (I : dI) (J : dJ) : Option Int64 := b_26_0 x1 I J
theorem x_26 {Q : Nat → Option Nat} {D : Nat} (hD : 3 ≤ D) {x1 : Int32} {I : dI} {J : dJ} {R : Int64} (h : m_26 x1 I J = some R) : Ex Q D 26 I J [.ref 3, .int x1] (some (.long R)) I J := by
  obtain ⟨D, rfl⟩ : ∃ D', D = D' + 1 := ⟨D - 1, by omega⟩
  exact Ex.of (by decide) (by rw [L_26]; exact Nat.le_of_ble_eq_true rfl) (show xm_sub [(0, .ref 3), (1, .int x1)] [(0, .ref 3), (1, .int x1)] from xm_sub_of [0, 1] [0, 1] rfl rfl (by decide)) (p_26_0 (Nat.le_of_succ_le_succ hD) _ _ _ _ h)
-- ConditionDesk$Machine.wordAt(I)J
theorem L_27 : tb_mL 27 = 2 := by decide +kernel
theorem R_27 : tb_mr 27 = some .long := by decide +kernel
theorem dk_27_0 : decode (tb_mb 27) 0 = .ok (.aload_n 0, 1) := by decide +kernel
theorem dk_27_1 : decode (tb_mb 27) 1 = .ok (.iload_n 1, 1) := by decide +kernel
theorem dk_27_2 : decode (tb_mb 27) 2 = .ok (.invokevirtual 22, 3) := by decide +kernel
theorem ck_27_2 : ∃ b, tb_cr (tb_oc 27) 22 = some (0, 25, b, 1) := ⟨_, rfl⟩
theorem dk_27_5 : decode (tb_mb 27) 5 = .ok (.aload_n 0, 1) := by decide +kernel
theorem dk_27_6 : decode (tb_mb 27) 6 = .ok (.iload_n 1, 1) := by decide +kernel
theorem dk_27_7 : decode (tb_mb 27) 7 = .ok (.iconst (1), 1) := by decide +kernel
theorem dk_27_8 : decode (tb_mb 27) 8 = .ok (.iadd, 1) := by decide +kernel
theorem dk_27_9 : decode (tb_mb 27) 9 = .ok (.invokevirtual 22, 3) := by decide +kernel
theorem ck_27_9 : ∃ b, tb_cr (tb_oc 27) 22 = some (0, 25, b, 1) := ⟨_, rfl⟩
theorem dk_27_12 : decode (tb_mb 27) 12 = .ok (.bipush (8), 2) := by decide +kernel
theorem dk_27_14 : decode (tb_mb 27) 14 = .ok (.lshl, 1) := by decide +kernel
theorem dk_27_15 : decode (tb_mb 27) 15 = .ok (.lor, 1) := by decide +kernel
theorem dk_27_16 : decode (tb_mb 27) 16 = .ok (.aload_n 0, 1) := by decide +kernel
theorem dk_27_17 : decode (tb_mb 27) 17 = .ok (.iload_n 1, 1) := by decide +kernel
theorem dk_27_18 : decode (tb_mb 27) 18 = .ok (.iconst (2), 1) := by decide +kernel
theorem dk_27_19 : decode (tb_mb 27) 19 = .ok (.iadd, 1) := by decide +kernel
theorem dk_27_20 : decode (tb_mb 27) 20 = .ok (.invokevirtual 22, 3) := by decide +kernel
theorem ck_27_20 : ∃ b, tb_cr (tb_oc 27) 22 = some (0, 25, b, 1) := ⟨_, rfl⟩
theorem dk_27_23 : decode (tb_mb 27) 23 = .ok (.bipush (16), 2) := by decide +kernel
theorem dk_27_25 : decode (tb_mb 27) 25 = .ok (.lshl, 1) := by decide +kernel
theorem dk_27_26 : decode (tb_mb 27) 26 = .ok (.lor, 1) := by decide +kernel
theorem dk_27_27 : decode (tb_mb 27) 27 = .ok (.aload_n 0, 1) := by decide +kernel
theorem dk_27_28 : decode (tb_mb 27) 28 = .ok (.iload_n 1, 1) := by decide +kernel
theorem dk_27_29 : decode (tb_mb 27) 29 = .ok (.iconst (3), 1) := by decide +kernel
theorem dk_27_30 : decode (tb_mb 27) 30 = .ok (.iadd, 1) := by decide +kernel
theorem dk_27_31 : decode (tb_mb 27) 31 = .ok (.invokevirtual 22, 3) := by decide +kernel
theorem ck_27_31 : ∃ b, tb_cr (tb_oc 27) 22 = some (0, 25, b, 1) := ⟨_, rfl⟩
theorem dk_27_34 : decode (tb_mb 27) 34 = .ok (.bipush (24), 2) := by decide +kernel
theorem dk_27_36 : decode (tb_mb 27) 36 = .ok (.lshl, 1) := by decide +kernel
theorem dk_27_37 : decode (tb_mb 27) 37 = .ok (.lor, 1) := by decide +kernel
theorem dk_27_38 : decode (tb_mb 27) 38 = .ok (.l2i, 1) := by decide +kernel
theorem dk_27_39 : decode (tb_mb 27) 39 = .ok (.i2l, 1) := by decide +kernel
theorem dk_27_40 : decode (tb_mb 27) 40 = .ok (.lreturn, 1) := by decide +kernel
def b_27_0 (x1 : Int32) (I : dI) (J : dJ) : Option Int64 := (m_25 x1 I J).bind (fun r1 => (m_25 (x1 + 1) I J).bind (fun r3 => (m_25 (x1 + 2) I J).bind (fun r5 => (m_25 (x1 + 3) I J).bind (fun r7 => some (Int32.toInt64 (Int64.toInt32 (((r1 ||| (r3 <<< ((Int32.toInt64 8) &&& 63))) ||| (r5 <<< ((Int32.toInt64 16) &&& 63))) ||| (r7 <<< ((Int32.toInt64 24) &&& 63)))))))))
theorem p_27_0 {Q : Nat → Option Nat} {D : Nat} (hD : 2 ≤ D) (x1 : Int32) (I : dI) (J : dJ) (R : Int64) (h : b_27_0 x1 I J = some R) : Rn Q D 27 0 [(0, .ref 3), (1, .int x1)] [] I J (some (.long R)) I J := by
  replace h : ((m_25 x1 I J).bind (fun r1 => (m_25 (x1 + 1) I J).bind (fun r3 => (m_25 (x1 + 2) I J).bind (fun r5 => (m_25 (x1 + 3) I J).bind (fun r7 => some (Int32.toInt64 (Int64.toInt32 (((r1 ||| (r3 <<< ((Int32.toInt64 8) &&& 63))) ||| (r5 <<< ((Int32.toInt64 16) &&& 63))) ||| (r7 <<< ((Int32.toInt64 24) &&& 63)))))))))) = some R := h
  refine Rn.pu (st' := [.ref 3]) dk_27_0 L_27 rfl ?_
  refine Rn.pu (st' := [.int x1, .ref 3]) dk_27_1 L_27 rfl ?_
  obtain ⟨r1, e2, h⟩ := bindS h
  refine Rn.cvJ (p := 3) (As := [.int x1]) (rest := []) dk_27_2 ck_27_2.choose_spec rfl sk_3 rfl (x_25 (Nat.le_trans (Nat.le_of_ble_eq_true rfl) hD) e2) ?_
  refine Rn.pu (st' := [.ref 3, .long r1]) dk_27_5 L_27 rfl ?_
  refine Rn.pu (st' := [.int x1, .ref 3, .long r1]) dk_27_6 L_27 rfl ?_
  refine Rn.ic dk_27_7 cic_1 ?_
  refine Rn.pu (st' := [.int (x1 + 1), .ref 3, .long r1]) dk_27_8 L_27 rfl ?_
  obtain ⟨r3, e4, h⟩ := bindS h
  refine Rn.cvJ (p := 3) (As := [.int (x1 + 1)]) (rest := [.long r1]) dk_27_9 ck_27_9.choose_spec rfl sk_3 rfl (x_25 (Nat.le_trans (Nat.le_of_ble_eq_true rfl) hD) e4) ?_
  refine Rn.bp dk_27_12 cbp_8 ?_
  refine Rn.pu (st' := [.long (r3 <<< ((Int32.toInt64 8) &&& 63)), .long r1]) dk_27_14 L_27 rfl ?_
  refine Rn.pu (st' := [.long (r1 ||| (r3 <<< ((Int32.toInt64 8) &&& 63)))]) dk_27_15 L_27 rfl ?_
  refine Rn.pu (st' := [.ref 3, .long (r1 ||| (r3 <<< ((Int32.toInt64 8) &&& 63)))]) dk_27_16 L_27 rfl ?_
  refine Rn.pu (st' := [.int x1, .ref 3, .long (r1 ||| (r3 <<< ((Int32.toInt64 8) &&& 63)))]) dk_27_17 L_27 rfl ?_
  refine Rn.ic dk_27_18 cic_2 ?_
  refine Rn.pu (st' := [.int (x1 + 2), .ref 3, .long (r1 ||| (r3 <<< ((Int32.toInt64 8) &&& 63)))]) dk_27_19 L_27 rfl ?_
  obtain ⟨r5, e6, h⟩ := bindS h
  refine Rn.cvJ (p := 3) (As := [.int (x1 + 2)]) (rest := [.long (r1 ||| (r3 <<< ((Int32.toInt64 8) &&& 63)))]) dk_27_20 ck_27_20.choose_spec rfl sk_3 rfl (x_25 (Nat.le_trans (Nat.le_of_ble_eq_true rfl) hD) e6) ?_
  refine Rn.bp dk_27_23 cbp_16 ?_
  refine Rn.pu (st' := [.long (r5 <<< ((Int32.toInt64 16) &&& 63)), .long (r1 ||| (r3 <<< ((Int32.toInt64 8) &&& 63)))]) dk_27_25 L_27 rfl ?_
  refine Rn.pu (st' := [.long ((r1 ||| (r3 <<< ((Int32.toInt64 8) &&& 63))) ||| (r5 <<< ((Int32.toInt64 16) &&& 63)))]) dk_27_26 L_27 rfl ?_
  refine Rn.pu (st' := [.ref 3, .long ((r1 ||| (r3 <<< ((Int32.toInt64 8) &&& 63))) ||| (r5 <<< ((Int32.toInt64 16) &&& 63)))]) dk_27_27 L_27 rfl ?_
  refine Rn.pu (st' := [.int x1, .ref 3, .long ((r1 ||| (r3 <<< ((Int32.toInt64 8) &&& 63))) ||| (r5 <<< ((Int32.toInt64 16) &&& 63)))]) dk_27_28 L_27 rfl ?_
  refine Rn.ic dk_27_29 cic_3 ?_
  refine Rn.pu (st' := [.int (x1 + 3), .ref 3, .long ((r1 ||| (r3 <<< ((Int32.toInt64 8) &&& 63))) ||| (r5 <<< ((Int32.toInt64 16) &&& 63)))]) dk_27_30 L_27 rfl ?_
  obtain ⟨r7, e8, h⟩ := bindS h
  refine Rn.cvJ (p := 3) (As := [.int (x1 + 3)]) (rest := [.long ((r1 ||| (r3 <<< ((Int32.toInt64 8) &&& 63))) ||| (r5 <<< ((Int32.toInt64 16) &&& 63)))]) dk_27_31 ck_27_31.choose_spec rfl sk_3 rfl (x_25 (Nat.le_trans (Nat.le_of_ble_eq_true rfl) hD) e8) ?_
  refine Rn.bp dk_27_34 cbp_24 ?_
  refine Rn.pu (st' := [.long (r7 <<< ((Int32.toInt64 24) &&& 63)), .long ((r1 ||| (r3 <<< ((Int32.toInt64 8) &&& 63))) ||| (r5 <<< ((Int32.toInt64 16) &&& 63)))]) dk_27_36 L_27 rfl ?_
  refine Rn.pu (st' := [.long (((r1 ||| (r3 <<< ((Int32.toInt64 8) &&& 63))) ||| (r5 <<< ((Int32.toInt64 16) &&& 63))) ||| (r7 <<< ((Int32.toInt64 24) &&& 63)))]) dk_27_37 L_27 rfl ?_
  refine Rn.pu (st' := [.int (Int64.toInt32 (((r1 ||| (r3 <<< ((Int32.toInt64 8) &&& 63))) ||| (r5 <<< ((Int32.toInt64 16) &&& 63))) ||| (r7 <<< ((Int32.toInt64 24) &&& 63))))]) dk_27_38 L_27 rfl ?_
  refine Rn.pu (st' := [.long (Int32.toInt64 (Int64.toInt32 (((r1 ||| (r3 <<< ((Int32.toInt64 8) &&& 63))) ||| (r5 <<< ((Int32.toInt64 16) &&& 63))) ||| (r7 <<< ((Int32.toInt64 24) &&& 63)))))]) dk_27_39 L_27 rfl ?_
  cases h
  exact Rn.rl dk_27_40 R_27
def m_27 (x1 : Int32) (I : dI) (J : dJ) : Option Int64 := b_27_0 x1 I J
theorem x_27 {Q : Nat → Option Nat} {D : Nat} (hD : 3 ≤ D) {x1 : Int32} {I : dI} {J : dJ} {R : Int64} (h : m_27 x1 I J = some R) : Ex Q D 27 I J [.ref 3, .int x1] (some (.long R)) I J := by
  obtain ⟨D, rfl⟩ : ∃ D', D = D' + 1 := ⟨D - 1, by omega⟩
  exact Ex.of (by decide) (by rw [L_27]; exact Nat.le_of_ble_eq_true rfl) (show xm_sub [(0, .ref 3), (1, .int x1)] [(0, .ref 3), (1, .int x1)] from xm_sub_of [0, 1] [0, 1] rfl rfl (by decide)) (p_27_0 (Nat.le_of_succ_le_succ hD) _ _ _ _ h)
-- ConditionDesk$Worker.access(IJ)J
theorem L_24 : tb_mL 24 = 6 := by decide +kernel
theorem R_24 : tb_mr 24 = some .long := by decide +kernel
theorem dk_24_0 : decode (tb_mb 24) 0 = .ok (.aload_n 0, 1) := by decide +kernel
theorem dk_24_1 : decode (tb_mb 24) 1 = .ok (.getfield 33, 3) := by decide +kernel
theorem f_24_1 : ∃ b, tb_fr (tb_oc 24) 33 = some (7, 6, b) := ⟨_, rfl⟩
theorem dk_24_4 : decode (tb_mb 24) 4 = .ok (.ifCond .eq (5), 3) := by decide +kernel
theorem dk_24_9 : decode (tb_mb 24) 9 = .ok (.iload_n 1, 1) := by decide +kernel
theorem dk_24_10 : decode (tb_mb 24) 10 = .ok (.bipush (34), 2) := by decide +kernel
theorem dk_24_12 : decode (tb_mb 24) 12 = .ok (.if_icmp .ne (7), 3) := by decide +kernel
theorem dk_24_19 : decode (tb_mb 24) 19 = .ok (.iload_n 1, 1) := by decide +kernel
theorem dk_24_20 : decode (tb_mb 24) 20 = .ok (.bipush (7), 2) := by decide +kernel
theorem dk_24_22 : decode (tb_mb 24) 22 = .ok (.if_icmp .ne (7), 3) := by decide +kernel
theorem dk_24_29 : decode (tb_mb 24) 29 = .ok (.iconst (1), 1) := by decide +kernel
theorem dk_24_30 : decode (tb_mb 24) 30 = .ok (.istore 4, 2) := by decide +kernel
theorem dk_24_32 : decode (tb_mb 24) 32 = .ok (.lload_n 2, 1) := by decide +kernel
theorem dk_24_33 : decode (tb_mb 24) 33 = .ok (.lconst 0, 1) := by decide +kernel
theorem dk_24_34 : decode (tb_mb 24) 34 = .ok (.lcmp, 1) := by decide +kernel
theorem dk_24_35 : decode (tb_mb 24) 35 = .ok (.ifCond .lt (23), 3) := by decide +kernel
theorem dk_24_58 : decode (tb_mb 24) 58 = .ok (.aload_n 0, 1) := by decide +kernel
theorem dk_24_59 : decode (tb_mb 24) 59 = .ok (.iconst (2), 1) := by decide +kernel
theorem dk_24_60 : decode (tb_mb 24) 60 = .ok (.putfield 33, 3) := by decide +kernel
theorem f_24_60 : ∃ b, tb_fr (tb_oc 24) 33 = some (7, 6, b) ∧ xm_fin tb_cl (tb_ini 24) b 7 6 = true := ⟨_, rfl, rfl⟩
theorem dk_24_63 : decode (tb_mb 24) 63 = .ok (.lconst 0, 1) := by decide +kernel
theorem dk_24_64 : decode (tb_mb 24) 64 = .ok (.lreturn, 1) := by decide +kernel
theorem dk_24_38 : decode (tb_mb 24) 38 = .ok (.lload_n 2, 1) := by decide +kernel
theorem dk_24_39 : decode (tb_mb 24) 39 = .ok (.ldc2_w 125, 3) := by decide +kernel
theorem kl_24_39 : tb_kl (tb_oc 24) 125 = some (256) := by decide +kernel
theorem dk_24_42 : decode (tb_mb 24) 42 = .ok (.lcmp, 1) := by decide +kernel
theorem dk_24_43 : decode (tb_mb 24) 43 = .ok (.ifCond .ge (15), 3) := by decide +kernel
theorem dk_24_46 : decode (tb_mb 24) 46 = .ok (.lload_n 2, 1) := by decide +kernel
theorem dk_24_47 : decode (tb_mb 24) 47 = .ok (.iload 4, 2) := by decide +kernel
theorem dk_24_49 : decode (tb_mb 24) 49 = .ok (.iconst (1), 1) := by decide +kernel
theorem dk_24_50 : decode (tb_mb 24) 50 = .ok (.isub, 1) := by decide +kernel
theorem dk_24_51 : decode (tb_mb 24) 51 = .ok (.i2l, 1) := by decide +kernel
theorem dk_24_52 : decode (tb_mb 24) 52 = .ok (.land, 1) := by decide +kernel
theorem dk_24_53 : decode (tb_mb 24) 53 = .ok (.lconst 0, 1) := by decide +kernel
theorem dk_24_54 : decode (tb_mb 24) 54 = .ok (.lcmp, 1) := by decide +kernel
theorem dk_24_55 : decode (tb_mb 24) 55 = .ok (.ifCond .eq (10), 3) := by decide +kernel
theorem dk_24_65 : decode (tb_mb 24) 65 = .ok (.lload_n 2, 1) := by decide +kernel
theorem dk_24_66 : decode (tb_mb 24) 66 = .ok (.l2i, 1) := by decide +kernel
theorem dk_24_67 : decode (tb_mb 24) 67 = .ok (.istore 5, 2) := by decide +kernel
theorem dk_24_69 : decode (tb_mb 24) 69 = .ok (.iload_n 1, 1) := by decide +kernel
theorem dk_24_70 : decode (tb_mb 24) 70 = .ok (.bipush (6), 2) := by decide +kernel
theorem dk_24_72 : decode (tb_mb 24) 72 = .ok (.if_icmp .ne (13), 3) := by decide +kernel
theorem dk_24_85 : decode (tb_mb 24) 85 = .ok (.iload_n 1, 1) := by decide +kernel
theorem dk_24_86 : decode (tb_mb 24) 86 = .ok (.bipush (7), 2) := by decide +kernel
theorem dk_24_88 : decode (tb_mb 24) 88 = .ok (.if_icmp .ne (15), 3) := by decide +kernel
theorem dk_24_103 : decode (tb_mb 24) 103 = .ok (.aload_n 0, 1) := by decide +kernel
theorem dk_24_104 : decode (tb_mb 24) 104 = .ok (.getfield 36, 3) := by decide +kernel
theorem f_24_104 : ∃ b, tb_fr (tb_oc 24) 36 = some (7, 0, b) := ⟨_, rfl⟩
theorem dk_24_107 : decode (tb_mb 24) 107 = .ok (.iload 5, 2) := by decide +kernel
theorem dk_24_109 : decode (tb_mb 24) 109 = .ok (.invokevirtual 133, 3) := by decide +kernel
theorem ck_24_109 : ∃ b, tb_cr (tb_oc 24) 133 = some (0, 27, b, 1) := ⟨_, rfl⟩
theorem dk_24_112 : decode (tb_mb 24) 112 = .ok (.lreturn, 1) := by decide +kernel
theorem dk_24_91 : decode (tb_mb 24) 91 = .ok (.aload_n 0, 1) := by decide +kernel
theorem dk_24_92 : decode (tb_mb 24) 92 = .ok (.getfield 36, 3) := by decide +kernel
theorem f_24_92 : ∃ b, tb_fr (tb_oc 24) 36 = some (7, 0, b) := ⟨_, rfl⟩
theorem dk_24_95 : decode (tb_mb 24) 95 = .ok (.iload 5, 2) := by decide +kernel
theorem dk_24_97 : decode (tb_mb 24) 97 = .ok (.invokevirtual 130, 3) := by decide +kernel
theorem ck_24_97 : ∃ b, tb_cr (tb_oc 24) 130 = some (0, 26, b, 1) := ⟨_, rfl⟩
theorem dk_24_100 : decode (tb_mb 24) 100 = .ok (.goto (12), 3) := by decide +kernel
theorem dk_24_75 : decode (tb_mb 24) 75 = .ok (.aload_n 0, 1) := by decide +kernel
theorem dk_24_76 : decode (tb_mb 24) 76 = .ok (.getfield 36, 3) := by decide +kernel
theorem f_24_76 : ∃ b, tb_fr (tb_oc 24) 36 = some (7, 0, b) := ⟨_, rfl⟩
theorem dk_24_79 : decode (tb_mb 24) 79 = .ok (.iload 5, 2) := by decide +kernel
theorem dk_24_81 : decode (tb_mb 24) 81 = .ok (.invokevirtual 127, 3) := by decide +kernel
theorem ck_24_81 : ∃ b, tb_cr (tb_oc 24) 127 = some (0, 25, b, 1) := ⟨_, rfl⟩
theorem dk_24_84 : decode (tb_mb 24) 84 = .ok (.lreturn, 1) := by decide +kernel
theorem dk_24_25 : decode (tb_mb 24) 25 = .ok (.iconst (2), 1) := by decide +kernel
theorem dk_24_26 : decode (tb_mb 24) 26 = .ok (.goto (4), 3) := by decide +kernel
theorem dk_24_15 : decode (tb_mb 24) 15 = .ok (.iconst (4), 1) := by decide +kernel
theorem dk_24_16 : decode (tb_mb 24) 16 = .ok (.goto (14), 3) := by decide +kernel
theorem dk_24_7 : decode (tb_mb 24) 7 = .ok (.lconst 0, 1) := by decide +kernel
theorem dk_24_8 : decode (tb_mb 24) 8 = .ok (.lreturn, 1) := by decide +kernel
def b_24_58 (p : Nat) (I : dI) (J : dJ) : Option (Int64 × dI × dJ) := lt_ (sI I p 6 2) (fun I5 => some (0, I5, J))
theorem p_24_58 {Q : Nat → Option Nat} {D : Nat} {p : Nat} (hD : 3 ≤ D) (okp : okW p) (I : dI) (J : dJ) (R : (Int64 × dI × dJ)) (h : b_24_58 p I J = some R) : Rn Q D 24 58 [(0, .ref p)] [] I J (some (.long R.1)) R.2.1 R.2.2 := by
  replace h : (lt_ (sI I p 6 2) (fun I5 => some (0, I5, J))) = some R := h
  refine Rn.pu (st' := [.ref p]) dk_24_58 L_24 rfl ?_
  refine Rn.ic dk_24_59 cic_2 ?_
  obtain ⟨I5, eI5, h⟩ := letS h
  refine Rn.pI dk_24_60 f_24_60.choose_spec.1 okp.1 rfl f_24_60.choose_spec.2 rfl rfl ?_
  rw [← eI5]
  refine Rn.lc dk_24_63 clc_0 ?_
  cases h
  exact Rn.rl dk_24_64 R_24
def b_24_30 (p : Nat) (x1 : Int32) (x2 : Int64) (s0 : Int32) (I : dI) (J : dJ) : Option (Int64 × dI × dJ) := if (lg_cmp x2 0) < 0 then (b_24_58 p I J) else (if 0 ≤ (lg_cmp x2 256) then (b_24_58 p I J) else (if (lg_cmp (x2 &&& (Int32.toInt64 (s0 - 1))) 0) = 0 then (if ¬ x1 = 6 then (if ¬ x1 = 7 then ((m_27 (Int64.toInt32 x2) I J).bind (fun r9 => some (r9, I, J))) else ((m_26 (Int64.toInt32 x2) I J).bind (fun r11 => some (r11, I, J)))) else ((m_25 (Int64.toInt32 x2) I J).bind (fun r13 => some (r13, I, J)))) else (b_24_58 p I J)))
theorem p_24_30 {Q : Nat → Option Nat} {D : Nat} {p : Nat} (hD : 3 ≤ D) (okp : okW p) (x1 : Int32) (x2 : Int64) (s0 : Int32) (I : dI) (J : dJ) (R : (Int64 × dI × dJ)) (h : b_24_30 p x1 x2 s0 I J = some R) : Rn Q D 24 30 [(0, .ref p), (1, .int x1), (2, .long x2)] [.int s0] I J (some (.long R.1)) R.2.1 R.2.2 := by
  replace h : (if (lg_cmp x2 0) < 0 then (b_24_58 p I J) else (if 0 ≤ (lg_cmp x2 256) then (b_24_58 p I J) else (if (lg_cmp (x2 &&& (Int32.toInt64 (s0 - 1))) 0) = 0 then (if ¬ x1 = 6 then (if ¬ x1 = 7 then ((m_27 (Int64.toInt32 x2) I J).bind (fun r9 => some (r9, I, J))) else ((m_26 (Int64.toInt32 x2) I J).bind (fun r11 => some (r11, I, J)))) else ((m_25 (Int64.toInt32 x2) I J).bind (fun r13 => some (r13, I, J)))) else (b_24_58 p I J)))) = some R := h
  refine Rn.pu (ls' := [(4, .int s0), (0, .ref p), (1, .int x1), (2, .long x2)]) (st' := []) dk_24_30 L_24 rfl ?_
  refine Rn.pu (st' := [.long x2]) dk_24_32 L_24 rfl ?_
  refine Rn.lc dk_24_33 clc_0 ?_
  refine Rn.pu (st' := [.int (lg_cmp x2 0)]) dk_24_34 L_24 rfl ?_
  by_cases c4 : (lg_cmp x2 0) < 0
  · rw [if_pos c4] at h
    refine Rn.i1t (t := 58) dk_24_35 rfl (decide_eq_true c4) ?_
    exact Rn.wk [1] rfl (p_24_58 hD okp _ _ _ h)
  · rw [if_neg c4] at h
    refine Rn.i1f (t := 58) dk_24_35 rfl (decide_eq_false c4) ?_
    refine Rn.pu (st' := [.long x2]) dk_24_38 L_24 rfl ?_
    refine Rn.ldl dk_24_39 kl_24_39 ?_
    refine Rn.pu (st' := [.int (lg_cmp x2 256)]) dk_24_42 L_24 rfl ?_
    by_cases c5 : 0 ≤ (lg_cmp x2 256)
    · rw [if_pos c5] at h
      refine Rn.i1t (t := 58) dk_24_43 rfl (decide_eq_true c5) ?_
      exact Rn.wk [1] rfl (p_24_58 hD okp _ _ _ h)
    · rw [if_neg c5] at h
      refine Rn.i1f (t := 58) dk_24_43 rfl (decide_eq_false c5) ?_
      refine Rn.pu (st' := [.long x2]) dk_24_46 L_24 rfl ?_
      refine Rn.pu (st' := [.int s0, .long x2]) dk_24_47 L_24 rfl ?_
      refine Rn.ic dk_24_49 cic_1 ?_
      refine Rn.pu (st' := [.int (s0 - 1), .long x2]) dk_24_50 L_24 rfl ?_
      refine Rn.pu (st' := [.long (Int32.toInt64 (s0 - 1)), .long x2]) dk_24_51 L_24 rfl ?_
      refine Rn.pu (st' := [.long (x2 &&& (Int32.toInt64 (s0 - 1)))]) dk_24_52 L_24 rfl ?_
      refine Rn.lc dk_24_53 clc_0 ?_
      refine Rn.pu (st' := [.int (lg_cmp (x2 &&& (Int32.toInt64 (s0 - 1))) 0)]) dk_24_54 L_24 rfl ?_
      by_cases c6 : (lg_cmp (x2 &&& (Int32.toInt64 (s0 - 1))) 0) = 0
      · rw [if_pos c6] at h
        refine Rn.i1t (t := 65) dk_24_55 rfl (decide_eq_true c6) ?_
        refine Rn.pu (st' := [.long x2]) dk_24_65 L_24 rfl ?_
        refine Rn.pu (st' := [.int (Int64.toInt32 x2)]) dk_24_66 L_24 rfl ?_
        refine Rn.pu (ls' := [(5, .int (Int64.toInt32 x2)), (4, .int s0), (0, .ref p), (1, .int x1), (2, .long x2)]) (st' := []) dk_24_67 L_24 rfl ?_
        refine Rn.pu (st' := [.int x1]) dk_24_69 L_24 rfl ?_
        refine Rn.bp dk_24_70 cbp_6 ?_
        by_cases c7 : ¬ x1 = 6
        · rw [if_pos c7] at h
          refine Rn.i2t (t := 85) dk_24_72 rfl (decide_eq_true c7) ?_
          refine Rn.pu (st' := [.int x1]) dk_24_85 L_24 rfl ?_
          refine Rn.bp dk_24_86 cbp_7 ?_
          by_cases c8 : ¬ x1 = 7
          · rw [if_pos c8] at h
            refine Rn.i2t (t := 103) dk_24_88 rfl (decide_eq_true c8) ?_
            refine Rn.pu (st' := [.ref p]) dk_24_103 L_24 rfl ?_
            refine Rn.gR (r := 3) dk_24_104 f_24_104.choose_spec okp.1 rfl ?_
            refine Rn.pu (st' := [.int (Int64.toInt32 x2), .ref 3]) dk_24_107 L_24 rfl ?_
            obtain ⟨r9, e10, h⟩ := bindS h
            refine Rn.cvJ (p := 3) (As := [.int (Int64.toInt32 x2)]) (rest := []) dk_24_109 ck_24_109.choose_spec rfl sk_3 rfl (x_27 (Nat.le_trans (Nat.le_of_ble_eq_true rfl) hD) e10) ?_
            cases h
            exact Rn.rl dk_24_112 R_24
          · rw [if_neg c8] at h
            refine Rn.i2f (t := 103) dk_24_88 rfl (decide_eq_false c8) ?_
            refine Rn.pu (st' := [.ref p]) dk_24_91 L_24 rfl ?_
            refine Rn.gR (r := 3) dk_24_92 f_24_92.choose_spec okp.1 rfl ?_
            refine Rn.pu (st' := [.int (Int64.toInt32 x2), .ref 3]) dk_24_95 L_24 rfl ?_
            obtain ⟨r11, e12, h⟩ := bindS h
            refine Rn.cvJ (p := 3) (As := [.int (Int64.toInt32 x2)]) (rest := []) dk_24_97 ck_24_97.choose_spec rfl sk_3 rfl (x_26 (Nat.le_trans (Nat.le_of_ble_eq_true rfl) hD) e12) ?_
            refine Rn.gt (t := 112) dk_24_100 rfl ?_
            cases h
            exact Rn.rl dk_24_112 R_24
        · rw [if_neg c7] at h
          refine Rn.i2f (t := 85) dk_24_72 rfl (decide_eq_false c7) ?_
          refine Rn.pu (st' := [.ref p]) dk_24_75 L_24 rfl ?_
          refine Rn.gR (r := 3) dk_24_76 f_24_76.choose_spec okp.1 rfl ?_
          refine Rn.pu (st' := [.int (Int64.toInt32 x2), .ref 3]) dk_24_79 L_24 rfl ?_
          obtain ⟨r13, e14, h⟩ := bindS h
          refine Rn.cvJ (p := 3) (As := [.int (Int64.toInt32 x2)]) (rest := []) dk_24_81 ck_24_81.choose_spec rfl sk_3 rfl (x_25 (Nat.le_trans (Nat.le_of_ble_eq_true rfl) hD) e14) ?_
          cases h
          exact Rn.rl dk_24_84 R_24
      · rw [if_neg c6] at h
        refine Rn.i1f (t := 65) dk_24_55 rfl (decide_eq_false c6) ?_
        exact Rn.wk [1] rfl (p_24_58 hD okp _ _ _ h)
def b_24_0 (p : Nat) (x1 : Int32) (x2 : Int64) (I : dI) (J : dJ) : Option (Int64 × dI × dJ) := if (I p 6) = 0 then (if ¬ x1 = 34 then (if ¬ x1 = 7 then (b_24_30 p x1 x2 1 I J) else (b_24_30 p x1 x2 2 I J)) else (b_24_30 p x1 x2 4 I J)) else (some (0, I, J))
theorem p_24_0 {Q : Nat → Option Nat} {D : Nat} {p : Nat} (hD : 3 ≤ D) (okp : okW p) (x1 : Int32) (x2 : Int64) (I : dI) (J : dJ) (R : (Int64 × dI × dJ)) (h : b_24_0 p x1 x2 I J = some R) : Rn Q D 24 0 [(0, .ref p), (1, .int x1), (2, .long x2)] [] I J (some (.long R.1)) R.2.1 R.2.2 := by
  replace h : (if (I p 6) = 0 then (if ¬ x1 = 34 then (if ¬ x1 = 7 then (b_24_30 p x1 x2 1 I J) else (b_24_30 p x1 x2 2 I J)) else (b_24_30 p x1 x2 4 I J)) else (some (0, I, J))) = some R := h
  refine Rn.pu (st' := [.ref p]) dk_24_0 L_24 rfl ?_
  refine Rn.gI dk_24_1 f_24_1.choose_spec okp.1 rfl ?_
  by_cases c1 : (I p 6) = 0
  · rw [if_pos c1] at h
    refine Rn.i1t (t := 9) dk_24_4 rfl (decide_eq_true c1) ?_
    refine Rn.pu (st' := [.int x1]) dk_24_9 L_24 rfl ?_
    refine Rn.bp dk_24_10 cbp_34 ?_
    by_cases c2 : ¬ x1 = 34
    · rw [if_pos c2] at h
      refine Rn.i2t (t := 19) dk_24_12 rfl (decide_eq_true c2) ?_
      refine Rn.pu (st' := [.int x1]) dk_24_19 L_24 rfl ?_
      refine Rn.bp dk_24_20 cbp_7 ?_
      by_cases c3 : ¬ x1 = 7
      · rw [if_pos c3] at h
        refine Rn.i2t (t := 29) dk_24_22 rfl (decide_eq_true c3) ?_
        refine Rn.ic dk_24_29 cic_1 ?_
        exact Rn.wk [0, 1, 2] rfl (p_24_30 hD okp _ _ _ _ _ _ h)
      · rw [if_neg c3] at h
        refine Rn.i2f (t := 29) dk_24_22 rfl (decide_eq_false c3) ?_
        refine Rn.ic dk_24_25 cic_2 ?_
        refine Rn.gt (t := 30) dk_24_26 rfl ?_
        exact Rn.wk [0, 1, 2] rfl (p_24_30 hD okp _ _ _ _ _ _ h)
    · rw [if_neg c2] at h
      refine Rn.i2f (t := 19) dk_24_12 rfl (decide_eq_false c2) ?_
      refine Rn.ic dk_24_15 cic_4 ?_
      refine Rn.gt (t := 30) dk_24_16 rfl ?_
      exact Rn.wk [0, 1, 2] rfl (p_24_30 hD okp _ _ _ _ _ _ h)
  · rw [if_neg c1] at h
    refine Rn.i1f (t := 9) dk_24_4 rfl (decide_eq_false c1) ?_
    refine Rn.lc dk_24_7 clc_0 ?_
    cases h
    exact Rn.rl dk_24_8 R_24
def m_24 (p : Nat) (x1 : Int32) (x2 : Int64) (I : dI) (J : dJ) : Option (Int64 × dI × dJ) := b_24_0 p x1 x2 I J
theorem x_24 {Q : Nat → Option Nat} {D : Nat} {p : Nat} (hD : 4 ≤ D) (okp : okW p) {x1 : Int32} {x2 : Int64} {I : dI} {J : dJ} {R : (Int64 × dI × dJ)} (h : m_24 p x1 x2 I J = some R) : Ex Q D 24 I J [.ref p, .int x1, .long x2] (some (.long R.1)) R.2.1 R.2.2 := by
  obtain ⟨D, rfl⟩ : ∃ D', D = D' + 1 := ⟨D - 1, by omega⟩
  exact Ex.of (by decide) (by rw [L_24]; exact Nat.le_of_ble_eq_true rfl) (show xm_sub [(0, .ref p), (1, .int x1), (2, .long x2)] [(0, .ref p), (1, .int x1), (2, .long x2)] from xm_sub_of [0, 1, 2] [0, 1, 2] rfl rfl (by decide)) (p_24_0 (Nat.le_of_succ_le_succ hD) okp _ _ _ _ _ h)
end
