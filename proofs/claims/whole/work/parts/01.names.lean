/-- a private method of a class that the tables say can be made, by its rows of tables_1 -/
def lw_okq (q : MethodName × Nat) : Prop := (q.1.cls ≠ "java/lang/invoke/MethodHandle" ∧ q.1.cls ≠ "java/lang/invoke/VarHandle") ∧ Cond.instantiable q.1.cls q.2 ∈ tables_1 ∧ Cond.privateMethod q.1 ∈ tables_1 ∧ Cond.instanceMethod q.1 ∈ tables_1
theorem lw_p0 : lw_okq (⟨"RowPatterns$PatternReader", "choice", "(I)I"⟩, 4) := ⟨⟨by decide +kernel, by decide +kernel⟩, List.mem_of_getElem? (i := 275) (by decide +kernel), List.mem_of_getElem? (i := 314) (by decide +kernel), List.mem_of_getElem? (i := 315) (by decide +kernel)⟩
theorem lw_p1 : lw_okq (⟨"RowPatterns$PatternReader", "sequence", "(I)I"⟩, 4) := ⟨⟨by decide +kernel, by decide +kernel⟩, List.mem_of_getElem? (i := 275) (by decide +kernel), List.mem_of_getElem? (i := 318) (by decide +kernel), List.mem_of_getElem? (i := 319) (by decide +kernel)⟩
theorem lw_p2 : lw_okq (⟨"RowPatterns$PatternReader", "piece", "(I)I"⟩, 4) := ⟨⟨by decide +kernel, by decide +kernel⟩, List.mem_of_getElem? (i := 275) (by decide +kernel), List.mem_of_getElem? (i := 322) (by decide +kernel), List.mem_of_getElem? (i := 323) (by decide +kernel)⟩
theorem lw_p3 : lw_okq (⟨"RowPatterns$PatternReader", "atom", "(I)I"⟩, 4) := ⟨⟨by decide +kernel, by decide +kernel⟩, List.mem_of_getElem? (i := 275) (by decide +kernel), List.mem_of_getElem? (i := 326) (by decide +kernel), List.mem_of_getElem? (i := 327) (by decide +kernel)⟩
theorem lw_p4 : lw_okq (⟨"RowPatterns$PatternReader", "atomComes", "(I)Z"⟩, 4) := ⟨⟨by decide +kernel, by decide +kernel⟩, List.mem_of_getElem? (i := 275) (by decide +kernel), List.mem_of_getElem? (i := 330) (by decide +kernel), List.mem_of_getElem? (i := 331) (by decide +kernel)⟩
theorem lw_p5 : lw_okq (⟨"RowPatterns$PatternReader", "failed", "(I)I"⟩, 4) := ⟨⟨by decide +kernel, by decide +kernel⟩, List.mem_of_getElem? (i := 275) (by decide +kernel), List.mem_of_getElem? (i := 341) (by decide +kernel), List.mem_of_getElem? (i := 342) (by decide +kernel)⟩
theorem lw_p6 : lw_okq (⟨"RowPatterns$Parts", "note", "(III)V"⟩, 2) := ⟨⟨by decide +kernel, by decide +kernel⟩, List.mem_of_getElem? (i := 281) (by decide +kernel), List.mem_of_getElem? (i := 353) (by decide +kernel), List.mem_of_getElem? (i := 354) (by decide +kernel)⟩
theorem lw_p7 : lw_okq (⟨"RowPatterns$PatternReader", "bracketed", "(I)I"⟩, 4) := ⟨⟨by decide +kernel, by decide +kernel⟩, List.mem_of_getElem? (i := 275) (by decide +kernel), List.mem_of_getElem? (i := 361) (by decide +kernel), List.mem_of_getElem? (i := 362) (by decide +kernel)⟩
theorem lw_p8 : lw_okq (⟨"RowPatterns$PatternReader", "comes", "(I)Z"⟩, 4) := ⟨⟨by decide +kernel, by decide +kernel⟩, List.mem_of_getElem? (i := 275) (by decide +kernel), List.mem_of_getElem? (i := 365) (by decide +kernel), List.mem_of_getElem? (i := 366) (by decide +kernel)⟩
theorem lw_p9 : lw_okq (⟨"RowPatterns$PatternReader", "anyOrder", "(I)I"⟩, 4) := ⟨⟨by decide +kernel, by decide +kernel⟩, List.mem_of_getElem? (i := 275) (by decide +kernel), List.mem_of_getElem? (i := 369) (by decide +kernel), List.mem_of_getElem? (i := 370) (by decide +kernel)⟩
theorem lw_p10 : lw_okq (⟨"RowPatterns$PatternReader", "repeated", "(III)I"⟩, 4) := ⟨⟨by decide +kernel, by decide +kernel⟩, List.mem_of_getElem? (i := 275) (by decide +kernel), List.mem_of_getElem? (i := 378) (by decide +kernel), List.mem_of_getElem? (i := 379) (by decide +kernel)⟩
theorem lw_p11 : lw_okq (⟨"RowPatterns$PatternReader", "bounded", "(I)I"⟩, 4) := ⟨⟨by decide +kernel, by decide +kernel⟩, List.mem_of_getElem? (i := 275) (by decide +kernel), List.mem_of_getElem? (i := 386) (by decide +kernel), List.mem_of_getElem? (i := 387) (by decide +kernel)⟩
theorem lw_p12 : lw_okq (⟨"RowPatterns$PatternReader", "number", "()I"⟩, 4) := ⟨⟨by decide +kernel, by decide +kernel⟩, List.mem_of_getElem? (i := 275) (by decide +kernel), List.mem_of_getElem? (i := 390) (by decide +kernel), List.mem_of_getElem? (i := 391) (by decide +kernel)⟩
theorem lw_p13 : lw_okq (⟨"RowPatterns$PatternReader", "mostBehind", "(I)I"⟩, 4) := ⟨⟨by decide +kernel, by decide +kernel⟩, List.mem_of_getElem? (i := 275) (by decide +kernel), List.mem_of_getElem? (i := 394) (by decide +kernel), List.mem_of_getElem? (i := 395) (by decide +kernel)⟩
theorem lw_p14 : lw_okq (⟨"RowPatterns$ConditionReader", "failed", "()Z"⟩, 7) := ⟨⟨by decide +kernel, by decide +kernel⟩, List.mem_of_getElem? (i := 402) (by decide +kernel), List.mem_of_getElem? (i := 440) (by decide +kernel), List.mem_of_getElem? (i := 441) (by decide +kernel)⟩
theorem lw_p15 : lw_okq (⟨"RowPatterns$ConditionReader", "passes", "(I)Z"⟩, 7) := ⟨⟨by decide +kernel, by decide +kernel⟩, List.mem_of_getElem? (i := 402) (by decide +kernel), List.mem_of_getElem? (i := 444) (by decide +kernel), List.mem_of_getElem? (i := 445) (by decide +kernel)⟩
def lw_privs_1 : List (MethodName × Nat) := [(⟨"RowPatterns$PatternReader", "choice", "(I)I"⟩, 4), (⟨"RowPatterns$PatternReader", "sequence", "(I)I"⟩, 4), (⟨"RowPatterns$PatternReader", "piece", "(I)I"⟩, 4), (⟨"RowPatterns$PatternReader", "atom", "(I)I"⟩, 4), (⟨"RowPatterns$PatternReader", "atomComes", "(I)Z"⟩, 4), (⟨"RowPatterns$PatternReader", "failed", "(I)I"⟩, 4), (⟨"RowPatterns$Parts", "note", "(III)V"⟩, 2), (⟨"RowPatterns$PatternReader", "bracketed", "(I)I"⟩, 4), (⟨"RowPatterns$PatternReader", "comes", "(I)Z"⟩, 4), (⟨"RowPatterns$PatternReader", "anyOrder", "(I)I"⟩, 4), (⟨"RowPatterns$PatternReader", "repeated", "(III)I"⟩, 4), (⟨"RowPatterns$PatternReader", "bounded", "(I)I"⟩, 4), (⟨"RowPatterns$PatternReader", "number", "()I"⟩, 4), (⟨"RowPatterns$PatternReader", "mostBehind", "(I)I"⟩, 4), (⟨"RowPatterns$ConditionReader", "failed", "()Z"⟩, 7), (⟨"RowPatterns$ConditionReader", "passes", "(I)Z"⟩, 7)]
theorem lw_r1 : ∀ q ∈ lw_privs_1, lw_okq q := List.forall_mem_cons.mpr ⟨lw_p0, List.forall_mem_cons.mpr ⟨lw_p1, List.forall_mem_cons.mpr ⟨lw_p2, List.forall_mem_cons.mpr ⟨lw_p3, List.forall_mem_cons.mpr ⟨lw_p4, List.forall_mem_cons.mpr ⟨lw_p5, List.forall_mem_cons.mpr ⟨lw_p6, List.forall_mem_cons.mpr ⟨lw_p7, List.forall_mem_cons.mpr ⟨lw_p8, List.forall_mem_cons.mpr ⟨lw_p9, List.forall_mem_cons.mpr ⟨lw_p10, List.forall_mem_cons.mpr ⟨lw_p11, List.forall_mem_cons.mpr ⟨lw_p12, List.forall_mem_cons.mpr ⟨lw_p13, List.forall_mem_cons.mpr ⟨lw_p14, List.forall_mem_cons.mpr ⟨lw_p15, fun _ h => absurd h List.not_mem_nil⟩⟩⟩⟩⟩⟩⟩⟩⟩⟩⟩⟩⟩⟩⟩⟩
theorem lw_p16 : lw_okq (⟨"RowPatterns$ConditionReader", "comes", "(I)Z"⟩, 7) := ⟨⟨by decide +kernel, by decide +kernel⟩, List.mem_of_getElem? (i := 402) (by decide +kernel), List.mem_of_getElem? (i := 448) (by decide +kernel), List.mem_of_getElem? (i := 449) (by decide +kernel)⟩
theorem lw_p17 : lw_okq (⟨"RowPatterns$ConditionReader", "conditionOf", "(I)Z"⟩, 7) := ⟨⟨by decide +kernel, by decide +kernel⟩, List.mem_of_getElem? (i := 402) (by decide +kernel), List.mem_of_getElem? (i := 452) (by decide +kernel), List.mem_of_getElem? (i := 453) (by decide +kernel)⟩
theorem lw_p18 : lw_okq (⟨"RowPatterns$ConditionReader", "either", "(I)Z"⟩, 7) := ⟨⟨by decide +kernel, by decide +kernel⟩, List.mem_of_getElem? (i := 402) (by decide +kernel), List.mem_of_getElem? (i := 456) (by decide +kernel), List.mem_of_getElem? (i := 457) (by decide +kernel)⟩
theorem lw_p19 : lw_okq (⟨"RowPatterns$ConditionReader", "both", "(I)Z"⟩, 7) := ⟨⟨by decide +kernel, by decide +kernel⟩, List.mem_of_getElem? (i := 402) (by decide +kernel), List.mem_of_getElem? (i := 460) (by decide +kernel), List.mem_of_getElem? (i := 461) (by decide +kernel)⟩
theorem lw_p20 : lw_okq (⟨"RowPatterns$ConditionReader", "factor", "(I)Z"⟩, 7) := ⟨⟨by decide +kernel, by decide +kernel⟩, List.mem_of_getElem? (i := 402) (by decide +kernel), List.mem_of_getElem? (i := 464) (by decide +kernel), List.mem_of_getElem? (i := 465) (by decide +kernel)⟩
theorem lw_p21 : lw_okq (⟨"RowPatterns$ConditionReader", "test", "()Z"⟩, 7) := ⟨⟨by decide +kernel, by decide +kernel⟩, List.mem_of_getElem? (i := 402) (by decide +kernel), List.mem_of_getElem? (i := 468) (by decide +kernel), List.mem_of_getElem? (i := 469) (by decide +kernel)⟩
theorem lw_p22 : lw_okq (⟨"RowPatterns$ConditionReader", "emit", "(I)V"⟩, 7) := ⟨⟨by decide +kernel, by decide +kernel⟩, List.mem_of_getElem? (i := 402) (by decide +kernel), List.mem_of_getElem? (i := 472) (by decide +kernel), List.mem_of_getElem? (i := 473) (by decide +kernel)⟩
theorem lw_p23 : lw_okq (⟨"RowPatterns$ConditionReader", "operand", "()Z"⟩, 7) := ⟨⟨by decide +kernel, by decide +kernel⟩, List.mem_of_getElem? (i := 402) (by decide +kernel), List.mem_of_getElem? (i := 476) (by decide +kernel), List.mem_of_getElem? (i := 477) (by decide +kernel)⟩
theorem lw_p24 : lw_okq (⟨"RowPatterns$ConditionReader", "column", "(II)Z"⟩, 7) := ⟨⟨by decide +kernel, by decide +kernel⟩, List.mem_of_getElem? (i := 402) (by decide +kernel), List.mem_of_getElem? (i := 480) (by decide +kernel), List.mem_of_getElem? (i := 481) (by decide +kernel)⟩
theorem lw_p25 : lw_okq (⟨"RowPatterns$ConditionReader", "number", "()Z"⟩, 7) := ⟨⟨by decide +kernel, by decide +kernel⟩, List.mem_of_getElem? (i := 402) (by decide +kernel), List.mem_of_getElem? (i := 487) (by decide +kernel), List.mem_of_getElem? (i := 488) (by decide +kernel)⟩
theorem lw_p26 : lw_okq (⟨"RowPatterns$Parts", "writePart", "(ILRowPatterns$Text;I)V"⟩, 2) := ⟨⟨by decide +kernel, by decide +kernel⟩, List.mem_of_getElem? (i := 281) (by decide +kernel), List.mem_of_getElem? (i := 529) (by decide +kernel), List.mem_of_getElem? (i := 530) (by decide +kernel)⟩
theorem lw_p27 : lw_okq (⟨"RowPatterns$Parts", "writeInner", "(IILRowPatterns$Text;I)V"⟩, 2) := ⟨⟨by decide +kernel, by decide +kernel⟩, List.mem_of_getElem? (i := 281) (by decide +kernel), List.mem_of_getElem? (i := 534) (by decide +kernel), List.mem_of_getElem? (i := 535) (by decide +kernel)⟩
theorem lw_p28 : lw_okq (⟨"RowPatterns$Parts", "writeQuantity", "(ILRowPatterns$Text;)V"⟩, 2) := ⟨⟨by decide +kernel, by decide +kernel⟩, List.mem_of_getElem? (i := 281) (by decide +kernel), List.mem_of_getElem? (i := 541) (by decide +kernel), List.mem_of_getElem? (i := 542) (by decide +kernel)⟩
theorem lw_p29 : lw_okq (⟨"RowPatterns$Search", "begin", "(II)V"⟩, 14) := ⟨⟨by decide +kernel, by decide +kernel⟩, List.mem_of_getElem? (i := 108) (by decide +kernel), List.mem_of_getElem? (i := 617) (by decide +kernel), List.mem_of_getElem? (i := 618) (by decide +kernel)⟩
theorem lw_p30 : lw_okq (⟨"RowPatterns$Search", "come", "(LRowPatterns$Parts;)I"⟩, 14) := ⟨⟨by decide +kernel, by decide +kernel⟩, List.mem_of_getElem? (i := 108) (by decide +kernel), List.mem_of_getElem? (i := 622) (by decide +kernel), List.mem_of_getElem? (i := 623) (by decide +kernel)⟩
theorem lw_p31 : lw_okq (⟨"RowPatterns$Search", "comeWithin", "(LRowPatterns$Parts;I)I"⟩, 14) := ⟨⟨by decide +kernel, by decide +kernel⟩, List.mem_of_getElem? (i := 108) (by decide +kernel), List.mem_of_getElem? (i := 627) (by decide +kernel), List.mem_of_getElem? (i := 628) (by decide +kernel)⟩
def lw_privs_2 : List (MethodName × Nat) := [(⟨"RowPatterns$ConditionReader", "comes", "(I)Z"⟩, 7), (⟨"RowPatterns$ConditionReader", "conditionOf", "(I)Z"⟩, 7), (⟨"RowPatterns$ConditionReader", "either", "(I)Z"⟩, 7), (⟨"RowPatterns$ConditionReader", "both", "(I)Z"⟩, 7), (⟨"RowPatterns$ConditionReader", "factor", "(I)Z"⟩, 7), (⟨"RowPatterns$ConditionReader", "test", "()Z"⟩, 7), (⟨"RowPatterns$ConditionReader", "emit", "(I)V"⟩, 7), (⟨"RowPatterns$ConditionReader", "operand", "()Z"⟩, 7), (⟨"RowPatterns$ConditionReader", "column", "(II)Z"⟩, 7), (⟨"RowPatterns$ConditionReader", "number", "()Z"⟩, 7), (⟨"RowPatterns$Parts", "writePart", "(ILRowPatterns$Text;I)V"⟩, 2), (⟨"RowPatterns$Parts", "writeInner", "(IILRowPatterns$Text;I)V"⟩, 2), (⟨"RowPatterns$Parts", "writeQuantity", "(ILRowPatterns$Text;)V"⟩, 2), (⟨"RowPatterns$Search", "begin", "(II)V"⟩, 14), (⟨"RowPatterns$Search", "come", "(LRowPatterns$Parts;)I"⟩, 14), (⟨"RowPatterns$Search", "comeWithin", "(LRowPatterns$Parts;I)I"⟩, 14)]
theorem lw_r2 : ∀ q ∈ lw_privs_2, lw_okq q := List.forall_mem_cons.mpr ⟨lw_p16, List.forall_mem_cons.mpr ⟨lw_p17, List.forall_mem_cons.mpr ⟨lw_p18, List.forall_mem_cons.mpr ⟨lw_p19, List.forall_mem_cons.mpr ⟨lw_p20, List.forall_mem_cons.mpr ⟨lw_p21, List.forall_mem_cons.mpr ⟨lw_p22, List.forall_mem_cons.mpr ⟨lw_p23, List.forall_mem_cons.mpr ⟨lw_p24, List.forall_mem_cons.mpr ⟨lw_p25, List.forall_mem_cons.mpr ⟨lw_p26, List.forall_mem_cons.mpr ⟨lw_p27, List.forall_mem_cons.mpr ⟨lw_p28, List.forall_mem_cons.mpr ⟨lw_p29, List.forall_mem_cons.mpr ⟨lw_p30, List.forall_mem_cons.mpr ⟨lw_p31, fun _ h => absurd h List.not_mem_nil⟩⟩⟩⟩⟩⟩⟩⟩⟩⟩⟩⟩⟩⟩⟩⟩
theorem lw_p32 : lw_okq (⟨"RowPatterns$Search", "pushFrame", "(I)V"⟩, 14) := ⟨⟨by decide +kernel, by decide +kernel⟩, List.mem_of_getElem? (i := 108) (by decide +kernel), List.mem_of_getElem? (i := 631) (by decide +kernel), List.mem_of_getElem? (i := 632) (by decide +kernel)⟩
theorem lw_p33 : lw_okq (⟨"RowPatterns$Search", "mayTry", "()Z"⟩, 14) := ⟨⟨by decide +kernel, by decide +kernel⟩, List.mem_of_getElem? (i := 108) (by decide +kernel), List.mem_of_getElem? (i := 636) (by decide +kernel), List.mem_of_getElem? (i := 637) (by decide +kernel)⟩
theorem lw_p34 : lw_okq (⟨"RowPatterns$Search", "takeLetter", "(I)I"⟩, 14) := ⟨⟨by decide +kernel, by decide +kernel⟩, List.mem_of_getElem? (i := 108) (by decide +kernel), List.mem_of_getElem? (i := 640) (by decide +kernel), List.mem_of_getElem? (i := 641) (by decide +kernel)⟩
theorem lw_p35 : lw_okq (⟨"RowPatterns$Search", "choose", "(LRowPatterns$Parts;I)I"⟩, 14) := ⟨⟨by decide +kernel, by decide +kernel⟩, List.mem_of_getElem? (i := 108) (by decide +kernel), List.mem_of_getElem? (i := 644) (by decide +kernel), List.mem_of_getElem? (i := 645) (by decide +kernel)⟩
theorem lw_p36 : lw_okq (⟨"RowPatterns$Search", "pushOption", "(I)V"⟩, 14) := ⟨⟨by decide +kernel, by decide +kernel⟩, List.mem_of_getElem? (i := 108) (by decide +kernel), List.mem_of_getElem? (i := 648) (by decide +kernel), List.mem_of_getElem? (i := 649) (by decide +kernel)⟩
theorem lw_p37 : lw_okq (⟨"RowPatterns$Search", "repeat", "(LRowPatterns$Parts;II)I"⟩, 14) := ⟨⟨by decide +kernel, by decide +kernel⟩, List.mem_of_getElem? (i := 108) (by decide +kernel), List.mem_of_getElem? (i := 652) (by decide +kernel), List.mem_of_getElem? (i := 653) (by decide +kernel)⟩
theorem lw_p38 : lw_okq (⟨"RowPatterns$Search", "onceMore", "(LRowPatterns$Parts;I)I"⟩, 14) := ⟨⟨by decide +kernel, by decide +kernel⟩, List.mem_of_getElem? (i := 108) (by decide +kernel), List.mem_of_getElem? (i := 656) (by decide +kernel), List.mem_of_getElem? (i := 657) (by decide +kernel)⟩
theorem lw_p39 : lw_okq (⟨"RowPatterns$Search", "order", "(LRowPatterns$Parts;II)I"⟩, 14) := ⟨⟨by decide +kernel, by decide +kernel⟩, List.mem_of_getElem? (i := 108) (by decide +kernel), List.mem_of_getElem? (i := 660) (by decide +kernel), List.mem_of_getElem? (i := 661) (by decide +kernel)⟩
theorem lw_p40 : lw_okq (⟨"RowPatterns$Search", "goOn", "(LRowPatterns$Parts;)I"⟩, 14) := ⟨⟨by decide +kernel, by decide +kernel⟩, List.mem_of_getElem? (i := 108) (by decide +kernel), List.mem_of_getElem? (i := 667) (by decide +kernel), List.mem_of_getElem? (i := 668) (by decide +kernel)⟩
theorem lw_p41 : lw_okq (⟨"RowPatterns$Search", "frameFact", "(II)I"⟩, 14) := ⟨⟨by decide +kernel, by decide +kernel⟩, List.mem_of_getElem? (i := 108) (by decide +kernel), List.mem_of_getElem? (i := 671) (by decide +kernel), List.mem_of_getElem? (i := 672) (by decide +kernel)⟩
theorem lw_p42 : lw_okq (⟨"RowPatterns$Search", "noteWay", "()V"⟩, 14) := ⟨⟨by decide +kernel, by decide +kernel⟩, List.mem_of_getElem? (i := 108) (by decide +kernel), List.mem_of_getElem? (i := 675) (by decide +kernel), List.mem_of_getElem? (i := 676) (by decide +kernel)⟩
theorem lw_p43 : lw_okq (⟨"RowPatterns$Search", "goBack", "(LRowPatterns$Parts;)I"⟩, 14) := ⟨⟨by decide +kernel, by decide +kernel⟩, List.mem_of_getElem? (i := 108) (by decide +kernel), List.mem_of_getElem? (i := 683) (by decide +kernel), List.mem_of_getElem? (i := 684) (by decide +kernel)⟩
theorem lw_p44 : lw_okq (⟨"RowPatterns$Search", "optionFact", "(I)I"⟩, 14) := ⟨⟨by decide +kernel, by decide +kernel⟩, List.mem_of_getElem? (i := 108) (by decide +kernel), List.mem_of_getElem? (i := 687) (by decide +kernel), List.mem_of_getElem? (i := 688) (by decide +kernel)⟩
theorem lw_p45 : lw_okq (⟨"RowPatterns", "startBehind", "(I)I"⟩, 7) := ⟨⟨by decide +kernel, by decide +kernel⟩, List.mem_of_getElem? (i := 18) (by decide +kernel), List.mem_of_getElem? (i := 721) (by decide +kernel), List.mem_of_getElem? (i := 722) (by decide +kernel)⟩
theorem lw_p46 : lw_okq (⟨"RowPatterns", "rowsInNoMatch", "()I"⟩, 7) := ⟨⟨by decide +kernel, by decide +kernel⟩, List.mem_of_getElem? (i := 18) (by decide +kernel), List.mem_of_getElem? (i := 800) (by decide +kernel), List.mem_of_getElem? (i := 801) (by decide +kernel)⟩
theorem lw_p47 : lw_okq (⟨"RowPatterns", "listAt", "(I)LRowPatterns$Longs;"⟩, 7) := ⟨⟨by decide +kernel, by decide +kernel⟩, List.mem_of_getElem? (i := 18) (by decide +kernel), List.mem_of_getElem? (i := 808) (by decide +kernel), List.mem_of_getElem? (i := 809) (by decide +kernel)⟩
def lw_privs_3 : List (MethodName × Nat) := [(⟨"RowPatterns$Search", "pushFrame", "(I)V"⟩, 14), (⟨"RowPatterns$Search", "mayTry", "()Z"⟩, 14), (⟨"RowPatterns$Search", "takeLetter", "(I)I"⟩, 14), (⟨"RowPatterns$Search", "choose", "(LRowPatterns$Parts;I)I"⟩, 14), (⟨"RowPatterns$Search", "pushOption", "(I)V"⟩, 14), (⟨"RowPatterns$Search", "repeat", "(LRowPatterns$Parts;II)I"⟩, 14), (⟨"RowPatterns$Search", "onceMore", "(LRowPatterns$Parts;I)I"⟩, 14), (⟨"RowPatterns$Search", "order", "(LRowPatterns$Parts;II)I"⟩, 14), (⟨"RowPatterns$Search", "goOn", "(LRowPatterns$Parts;)I"⟩, 14), (⟨"RowPatterns$Search", "frameFact", "(II)I"⟩, 14), (⟨"RowPatterns$Search", "noteWay", "()V"⟩, 14), (⟨"RowPatterns$Search", "goBack", "(LRowPatterns$Parts;)I"⟩, 14), (⟨"RowPatterns$Search", "optionFact", "(I)I"⟩, 14), (⟨"RowPatterns", "startBehind", "(I)I"⟩, 7), (⟨"RowPatterns", "rowsInNoMatch", "()I"⟩, 7), (⟨"RowPatterns", "listAt", "(I)LRowPatterns$Longs;"⟩, 7)]
theorem lw_r3 : ∀ q ∈ lw_privs_3, lw_okq q := List.forall_mem_cons.mpr ⟨lw_p32, List.forall_mem_cons.mpr ⟨lw_p33, List.forall_mem_cons.mpr ⟨lw_p34, List.forall_mem_cons.mpr ⟨lw_p35, List.forall_mem_cons.mpr ⟨lw_p36, List.forall_mem_cons.mpr ⟨lw_p37, List.forall_mem_cons.mpr ⟨lw_p38, List.forall_mem_cons.mpr ⟨lw_p39, List.forall_mem_cons.mpr ⟨lw_p40, List.forall_mem_cons.mpr ⟨lw_p41, List.forall_mem_cons.mpr ⟨lw_p42, List.forall_mem_cons.mpr ⟨lw_p43, List.forall_mem_cons.mpr ⟨lw_p44, List.forall_mem_cons.mpr ⟨lw_p45, List.forall_mem_cons.mpr ⟨lw_p46, List.forall_mem_cons.mpr ⟨lw_p47, fun _ h => absurd h List.not_mem_nil⟩⟩⟩⟩⟩⟩⟩⟩⟩⟩⟩⟩⟩⟩⟩⟩
theorem lw_p48 : lw_okq (⟨"RowPatternsModel", "many", "()I"⟩, 53) := ⟨⟨by decide +kernel, by decide +kernel⟩, List.mem_of_getElem? (i := 881) (by decide +kernel), List.mem_of_getElem? (i := 1059) (by decide +kernel), List.mem_of_getElem? (i := 1060) (by decide +kernel)⟩
theorem lw_p49 : lw_okq (⟨"RowPatternsModel", "isRow", "(I)Z"⟩, 53) := ⟨⟨by decide +kernel, by decide +kernel⟩, List.mem_of_getElem? (i := 881) (by decide +kernel), List.mem_of_getElem? (i := 1067) (by decide +kernel), List.mem_of_getElem? (i := 1068) (by decide +kernel)⟩
theorem lw_p50 : lw_okq (⟨"RowPatternsModel", "takesTape", "()V"⟩, 53) := ⟨⟨by decide +kernel, by decide +kernel⟩, List.mem_of_getElem? (i := 881) (by decide +kernel), List.mem_of_getElem? (i := 1092) (by decide +kernel), List.mem_of_getElem? (i := 1093) (by decide +kernel)⟩
theorem lw_p51 : lw_okq (⟨"RowPatternsModel", "alternatives", "(I)I"⟩, 53) := ⟨⟨by decide +kernel, by decide +kernel⟩, List.mem_of_getElem? (i := 881) (by decide +kernel), List.mem_of_getElem? (i := 1096) (by decide +kernel), List.mem_of_getElem? (i := 1097) (by decide +kernel)⟩
theorem lw_p52 : lw_okq (⟨"RowPatternsModel", "series", "(I)I"⟩, 53) := ⟨⟨by decide +kernel, by decide +kernel⟩, List.mem_of_getElem? (i := 881) (by decide +kernel), List.mem_of_getElem? (i := 1100) (by decide +kernel), List.mem_of_getElem? (i := 1101) (by decide +kernel)⟩
theorem lw_p53 : lw_okq (⟨"RowPatternsModel", "repeated", "(I)I"⟩, 53) := ⟨⟨by decide +kernel, by decide +kernel⟩, List.mem_of_getElem? (i := 881) (by decide +kernel), List.mem_of_getElem? (i := 1104) (by decide +kernel), List.mem_of_getElem? (i := 1105) (by decide +kernel)⟩
theorem lw_p54 : lw_okq (⟨"RowPatternsModel", "atom", "(I)I"⟩, 53) := ⟨⟨by decide +kernel, by decide +kernel⟩, List.mem_of_getElem? (i := 881) (by decide +kernel), List.mem_of_getElem? (i := 1108) (by decide +kernel), List.mem_of_getElem? (i := 1109) (by decide +kernel)⟩
theorem lw_p55 : lw_okq (⟨"RowPatternsModel", "isAmong", "(II)Z"⟩, 53) := ⟨⟨by decide +kernel, by decide +kernel⟩, List.mem_of_getElem? (i := 881) (by decide +kernel), List.mem_of_getElem? (i := 1112) (by decide +kernel), List.mem_of_getElem? (i := 1113) (by decide +kernel)⟩
theorem lw_p56 : lw_okq (⟨"RowPatternsModel", "makes", "(I)I"⟩, 53) := ⟨⟨by decide +kernel, by decide +kernel⟩, List.mem_of_getElem? (i := 881) (by decide +kernel), List.mem_of_getElem? (i := 1116) (by decide +kernel), List.mem_of_getElem? (i := 1117) (by decide +kernel)⟩
theorem lw_p57 : lw_okq (⟨"RowPatternsModel", "isAt", "(I)Z"⟩, 53) := ⟨⟨by decide +kernel, by decide +kernel⟩, List.mem_of_getElem? (i := 881) (by decide +kernel), List.mem_of_getElem? (i := 1120) (by decide +kernel), List.mem_of_getElem? (i := 1121) (by decide +kernel)⟩
theorem lw_p58 : lw_okq (⟨"RowPatternsModel", "takes", "(I)V"⟩, 53) := ⟨⟨by decide +kernel, by decide +kernel⟩, List.mem_of_getElem? (i := 881) (by decide +kernel), List.mem_of_getElem? (i := 1124) (by decide +kernel), List.mem_of_getElem? (i := 1125) (by decide +kernel)⟩
theorem lw_p59 : lw_okq (⟨"RowPatternsModel", "anyParts", "(I)I"⟩, 53) := ⟨⟨by decide +kernel, by decide +kernel⟩, List.mem_of_getElem? (i := 881) (by decide +kernel), List.mem_of_getElem? (i := 1128) (by decide +kernel), List.mem_of_getElem? (i := 1129) (by decide +kernel)⟩
theorem lw_p60 : lw_okq (⟨"RowPatternsModel", "round", "(III)I"⟩, 53) := ⟨⟨by decide +kernel, by decide +kernel⟩, List.mem_of_getElem? (i := 881) (by decide +kernel), List.mem_of_getElem? (i := 1132) (by decide +kernel), List.mem_of_getElem? (i := 1133) (by decide +kernel)⟩
theorem lw_p61 : lw_okq (⟨"RowPatternsModel", "curly", "()V"⟩, 53) := ⟨⟨by decide +kernel, by decide +kernel⟩, List.mem_of_getElem? (i := 881) (by decide +kernel), List.mem_of_getElem? (i := 1136) (by decide +kernel), List.mem_of_getElem? (i := 1137) (by decide +kernel)⟩
theorem lw_p62 : lw_okq (⟨"RowPatternsModel", "number", "(I)I"⟩, 53) := ⟨⟨by decide +kernel, by decide +kernel⟩, List.mem_of_getElem? (i := 881) (by decide +kernel), List.mem_of_getElem? (i := 1140) (by decide +kernel), List.mem_of_getElem? (i := 1141) (by decide +kernel)⟩
theorem lw_p63 : lw_okq (⟨"RowPatternsModel", "fails", "(I)V"⟩, 53) := ⟨⟨by decide +kernel, by decide +kernel⟩, List.mem_of_getElem? (i := 881) (by decide +kernel), List.mem_of_getElem? (i := 1144) (by decide +kernel), List.mem_of_getElem? (i := 1145) (by decide +kernel)⟩
def lw_privs_4 : List (MethodName × Nat) := [(⟨"RowPatternsModel", "many", "()I"⟩, 53), (⟨"RowPatternsModel", "isRow", "(I)Z"⟩, 53), (⟨"RowPatternsModel", "takesTape", "()V"⟩, 53), (⟨"RowPatternsModel", "alternatives", "(I)I"⟩, 53), (⟨"RowPatternsModel", "series", "(I)I"⟩, 53), (⟨"RowPatternsModel", "repeated", "(I)I"⟩, 53), (⟨"RowPatternsModel", "atom", "(I)I"⟩, 53), (⟨"RowPatternsModel", "isAmong", "(II)Z"⟩, 53), (⟨"RowPatternsModel", "makes", "(I)I"⟩, 53), (⟨"RowPatternsModel", "isAt", "(I)Z"⟩, 53), (⟨"RowPatternsModel", "takes", "(I)V"⟩, 53), (⟨"RowPatternsModel", "anyParts", "(I)I"⟩, 53), (⟨"RowPatternsModel", "round", "(III)I"⟩, 53), (⟨"RowPatternsModel", "curly", "()V"⟩, 53), (⟨"RowPatternsModel", "number", "(I)I"⟩, 53), (⟨"RowPatternsModel", "fails", "(I)V"⟩, 53)]
theorem lw_r4 : ∀ q ∈ lw_privs_4, lw_okq q := List.forall_mem_cons.mpr ⟨lw_p48, List.forall_mem_cons.mpr ⟨lw_p49, List.forall_mem_cons.mpr ⟨lw_p50, List.forall_mem_cons.mpr ⟨lw_p51, List.forall_mem_cons.mpr ⟨lw_p52, List.forall_mem_cons.mpr ⟨lw_p53, List.forall_mem_cons.mpr ⟨lw_p54, List.forall_mem_cons.mpr ⟨lw_p55, List.forall_mem_cons.mpr ⟨lw_p56, List.forall_mem_cons.mpr ⟨lw_p57, List.forall_mem_cons.mpr ⟨lw_p58, List.forall_mem_cons.mpr ⟨lw_p59, List.forall_mem_cons.mpr ⟨lw_p60, List.forall_mem_cons.mpr ⟨lw_p61, List.forall_mem_cons.mpr ⟨lw_p62, List.forall_mem_cons.mpr ⟨lw_p63, fun _ h => absurd h List.not_mem_nil⟩⟩⟩⟩⟩⟩⟩⟩⟩⟩⟩⟩⟩⟩⟩⟩
theorem lw_p64 : lw_okq (⟨"RowPatternsModel", "isAtom", "()Z"⟩, 53) := ⟨⟨by decide +kernel, by decide +kernel⟩, List.mem_of_getElem? (i := 881) (by decide +kernel), List.mem_of_getElem? (i := 1148) (by decide +kernel), List.mem_of_getElem? (i := 1149) (by decide +kernel)⟩
theorem lw_p65 : lw_okq (⟨"RowPatternsModel", "isRead", "()Z"⟩, 53) := ⟨⟨by decide +kernel, by decide +kernel⟩, List.mem_of_getElem? (i := 881) (by decide +kernel), List.mem_of_getElem? (i := 1158) (by decide +kernel), List.mem_of_getElem? (i := 1159) (by decide +kernel)⟩
theorem lw_p66 : lw_okq (⟨"RowPatternsModel", "spells", "(IZ)V"⟩, 53) := ⟨⟨by decide +kernel, by decide +kernel⟩, List.mem_of_getElem? (i := 881) (by decide +kernel), List.mem_of_getElem? (i := 1167) (by decide +kernel), List.mem_of_getElem? (i := 1168) (by decide +kernel)⟩
theorem lw_p67 : lw_okq (⟨"RowPatternsModel", "writes", "(I)V"⟩, 53) := ⟨⟨by decide +kernel, by decide +kernel⟩, List.mem_of_getElem? (i := 881) (by decide +kernel), List.mem_of_getElem? (i := 1171) (by decide +kernel), List.mem_of_getElem? (i := 1172) (by decide +kernel)⟩
theorem lw_p68 : lw_okq (⟨"RowPatternsModel", "times", "(I)V"⟩, 53) := ⟨⟨by decide +kernel, by decide +kernel⟩, List.mem_of_getElem? (i := 881) (by decide +kernel), List.mem_of_getElem? (i := 1175) (by decide +kernel), List.mem_of_getElem? (i := 1176) (by decide +kernel)⟩
theorem lw_p69 : lw_okq (⟨"RowPatternsModel", "writesNumber", "(I)V"⟩, 53) := ⟨⟨by decide +kernel, by decide +kernel⟩, List.mem_of_getElem? (i := 881) (by decide +kernel), List.mem_of_getElem? (i := 1179) (by decide +kernel), List.mem_of_getElem? (i := 1180) (by decide +kernel)⟩
theorem lw_p70 : lw_okq (⟨"RowPatternsModel", "either", "()Z"⟩, 53) := ⟨⟨by decide +kernel, by decide +kernel⟩, List.mem_of_getElem? (i := 881) (by decide +kernel), List.mem_of_getElem? (i := 1191) (by decide +kernel), List.mem_of_getElem? (i := 1192) (by decide +kernel)⟩
theorem lw_p71 : lw_okq (⟨"RowPatternsModel", "both", "()Z"⟩, 53) := ⟨⟨by decide +kernel, by decide +kernel⟩, List.mem_of_getElem? (i := 881) (by decide +kernel), List.mem_of_getElem? (i := 1195) (by decide +kernel), List.mem_of_getElem? (i := 1196) (by decide +kernel)⟩
theorem lw_p72 : lw_okq (⟨"RowPatternsModel", "factor", "()Z"⟩, 53) := ⟨⟨by decide +kernel, by decide +kernel⟩, List.mem_of_getElem? (i := 881) (by decide +kernel), List.mem_of_getElem? (i := 1199) (by decide +kernel), List.mem_of_getElem? (i := 1200) (by decide +kernel)⟩
theorem lw_p73 : lw_okq (⟨"RowPatternsModel", "test", "()Z"⟩, 53) := ⟨⟨by decide +kernel, by decide +kernel⟩, List.mem_of_getElem? (i := 881) (by decide +kernel), List.mem_of_getElem? (i := 1203) (by decide +kernel), List.mem_of_getElem? (i := 1204) (by decide +kernel)⟩
theorem lw_p74 : lw_okq (⟨"RowPatternsModel", "operand", "()J"⟩, 53) := ⟨⟨by decide +kernel, by decide +kernel⟩, List.mem_of_getElem? (i := 881) (by decide +kernel), List.mem_of_getElem? (i := 1207) (by decide +kernel), List.mem_of_getElem? (i := 1208) (by decide +kernel)⟩
theorem lw_p75 : lw_okq (⟨"RowPatternsModel", "column", "()I"⟩, 53) := ⟨⟨by decide +kernel, by decide +kernel⟩, List.mem_of_getElem? (i := 881) (by decide +kernel), List.mem_of_getElem? (i := 1211) (by decide +kernel), List.mem_of_getElem? (i := 1212) (by decide +kernel)⟩
theorem lw_p76 : lw_okq (⟨"RowPatternsModel", "seen", "(II)J"⟩, 53) := ⟨⟨by decide +kernel, by decide +kernel⟩, List.mem_of_getElem? (i := 881) (by decide +kernel), List.mem_of_getElem? (i := 1215) (by decide +kernel), List.mem_of_getElem? (i := 1216) (by decide +kernel)⟩
theorem lw_p77 : lw_okq (⟨"RowPatternsModel", "counted", "(I)I"⟩, 53) := ⟨⟨by decide +kernel, by decide +kernel⟩, List.mem_of_getElem? (i := 881) (by decide +kernel), List.mem_of_getElem? (i := 1219) (by decide +kernel), List.mem_of_getElem? (i := 1220) (by decide +kernel)⟩
theorem lw_p78 : lw_okq (⟨"RowPatternsModel", "summed", "(II)J"⟩, 53) := ⟨⟨by decide +kernel, by decide +kernel⟩, List.mem_of_getElem? (i := 881) (by decide +kernel), List.mem_of_getElem? (i := 1223) (by decide +kernel), List.mem_of_getElem? (i := 1224) (by decide +kernel)⟩
theorem lw_p79 : lw_okq (⟨"RowPatternsModel", "lettered", "(IZ)I"⟩, 53) := ⟨⟨by decide +kernel, by decide +kernel⟩, List.mem_of_getElem? (i := 881) (by decide +kernel), List.mem_of_getElem? (i := 1227) (by decide +kernel), List.mem_of_getElem? (i := 1228) (by decide +kernel)⟩
def lw_privs_5 : List (MethodName × Nat) := [(⟨"RowPatternsModel", "isAtom", "()Z"⟩, 53), (⟨"RowPatternsModel", "isRead", "()Z"⟩, 53), (⟨"RowPatternsModel", "spells", "(IZ)V"⟩, 53), (⟨"RowPatternsModel", "writes", "(I)V"⟩, 53), (⟨"RowPatternsModel", "times", "(I)V"⟩, 53), (⟨"RowPatternsModel", "writesNumber", "(I)V"⟩, 53), (⟨"RowPatternsModel", "either", "()Z"⟩, 53), (⟨"RowPatternsModel", "both", "()Z"⟩, 53), (⟨"RowPatternsModel", "factor", "()Z"⟩, 53), (⟨"RowPatternsModel", "test", "()Z"⟩, 53), (⟨"RowPatternsModel", "operand", "()J"⟩, 53), (⟨"RowPatternsModel", "column", "()I"⟩, 53), (⟨"RowPatternsModel", "seen", "(II)J"⟩, 53), (⟨"RowPatternsModel", "counted", "(I)I"⟩, 53), (⟨"RowPatternsModel", "summed", "(II)J"⟩, 53), (⟨"RowPatternsModel", "lettered", "(IZ)I"⟩, 53)]
theorem lw_r5 : ∀ q ∈ lw_privs_5, lw_okq q := List.forall_mem_cons.mpr ⟨lw_p64, List.forall_mem_cons.mpr ⟨lw_p65, List.forall_mem_cons.mpr ⟨lw_p66, List.forall_mem_cons.mpr ⟨lw_p67, List.forall_mem_cons.mpr ⟨lw_p68, List.forall_mem_cons.mpr ⟨lw_p69, List.forall_mem_cons.mpr ⟨lw_p70, List.forall_mem_cons.mpr ⟨lw_p71, List.forall_mem_cons.mpr ⟨lw_p72, List.forall_mem_cons.mpr ⟨lw_p73, List.forall_mem_cons.mpr ⟨lw_p74, List.forall_mem_cons.mpr ⟨lw_p75, List.forall_mem_cons.mpr ⟨lw_p76, List.forall_mem_cons.mpr ⟨lw_p77, List.forall_mem_cons.mpr ⟨lw_p78, List.forall_mem_cons.mpr ⟨lw_p79, fun _ h => absurd h List.not_mem_nil⟩⟩⟩⟩⟩⟩⟩⟩⟩⟩⟩⟩⟩⟩⟩⟩
theorem lw_p80 : lw_okq (⟨"RowPatternsModel", "isHolding", "(III)Z"⟩, 53) := ⟨⟨by decide +kernel, by decide +kernel⟩, List.mem_of_getElem? (i := 881) (by decide +kernel), List.mem_of_getElem? (i := 1236) (by decide +kernel), List.mem_of_getElem? (i := 1237) (by decide +kernel)⟩
theorem lw_p81 : lw_okq (⟨"RowPatternsModel", "wrong", "(I)I"⟩, 53) := ⟨⟨by decide +kernel, by decide +kernel⟩, List.mem_of_getElem? (i := 881) (by decide +kernel), List.mem_of_getElem? (i := 1244) (by decide +kernel), List.mem_of_getElem? (i := 1245) (by decide +kernel)⟩
theorem lw_p82 : lw_okq (⟨"RowPatternsModel", "search", "(II)Z"⟩, 53) := ⟨⟨by decide +kernel, by decide +kernel⟩, List.mem_of_getElem? (i := 881) (by decide +kernel), List.mem_of_getElem? (i := 1248) (by decide +kernel), List.mem_of_getElem? (i := 1249) (by decide +kernel)⟩
theorem lw_p83 : lw_okq (⟨"RowPatternsModel", "goes", "(II)V"⟩, 53) := ⟨⟨by decide +kernel, by decide +kernel⟩, List.mem_of_getElem? (i := 881) (by decide +kernel), List.mem_of_getElem? (i := 1252) (by decide +kernel), List.mem_of_getElem? (i := 1253) (by decide +kernel)⟩
theorem lw_p84 : lw_okq (⟨"RowPatternsModel", "turns", "()V"⟩, 53) := ⟨⟨by decide +kernel, by decide +kernel⟩, List.mem_of_getElem? (i := 881) (by decide +kernel), List.mem_of_getElem? (i := 1256) (by decide +kernel), List.mem_of_getElem? (i := 1257) (by decide +kernel)⟩
theorem lw_p85 : lw_okq (⟨"RowPatternsModel", "leaves", "(III)V"⟩, 53) := ⟨⟨by decide +kernel, by decide +kernel⟩, List.mem_of_getElem? (i := 881) (by decide +kernel), List.mem_of_getElem? (i := 1260) (by decide +kernel), List.mem_of_getElem? (i := 1261) (by decide +kernel)⟩
theorem lw_p86 : lw_okq (⟨"RowPatternsModel", "kid", "(II)I"⟩, 53) := ⟨⟨by decide +kernel, by decide +kernel⟩, List.mem_of_getElem? (i := 881) (by decide +kernel), List.mem_of_getElem? (i := 1264) (by decide +kernel), List.mem_of_getElem? (i := 1265) (by decide +kernel)⟩
theorem lw_p87 : lw_okq (⟨"RowPatternsModel", "anyOf", "(IIII)V"⟩, 53) := ⟨⟨by decide +kernel, by decide +kernel⟩, List.mem_of_getElem? (i := 881) (by decide +kernel), List.mem_of_getElem? (i := 1268) (by decide +kernel), List.mem_of_getElem? (i := 1269) (by decide +kernel)⟩
theorem lw_p88 : lw_okq (⟨"RowPatternsModel", "undone", "(III)I"⟩, 53) := ⟨⟨by decide +kernel, by decide +kernel⟩, List.mem_of_getElem? (i := 881) (by decide +kernel), List.mem_of_getElem? (i := 1272) (by decide +kernel), List.mem_of_getElem? (i := 1273) (by decide +kernel)⟩
theorem lw_p89 : lw_okq (⟨"RowPatternsModel", "tells", "(IIII)I"⟩, 53) := ⟨⟨by decide +kernel, by decide +kernel⟩, List.mem_of_getElem? (i := 881) (by decide +kernel), List.mem_of_getElem? (i := 1276) (by decide +kernel), List.mem_of_getElem? (i := 1277) (by decide +kernel)⟩
theorem lw_p90 : lw_okq (⟨"RowPatternsModel", "once", "(III)V"⟩, 53) := ⟨⟨by decide +kernel, by decide +kernel⟩, List.mem_of_getElem? (i := 881) (by decide +kernel), List.mem_of_getElem? (i := 1280) (by decide +kernel), List.mem_of_getElem? (i := 1281) (by decide +kernel)⟩
theorem lw_p91 : lw_okq (⟨"RowPatternsModel", "come", "()V"⟩, 53) := ⟨⟨by decide +kernel, by decide +kernel⟩, List.mem_of_getElem? (i := 881) (by decide +kernel), List.mem_of_getElem? (i := 1284) (by decide +kernel), List.mem_of_getElem? (i := 1285) (by decide +kernel)⟩
theorem lw_p92 : lw_okq (⟨"RowPatternsModel", "order", "(III)V"⟩, 53) := ⟨⟨by decide +kernel, by decide +kernel⟩, List.mem_of_getElem? (i := 881) (by decide +kernel), List.mem_of_getElem? (i := 1288) (by decide +kernel), List.mem_of_getElem? (i := 1289) (by decide +kernel)⟩
theorem lw_p93 : lw_okq (⟨"RowPatternsModel", "isTry", "()Z"⟩, 53) := ⟨⟨by decide +kernel, by decide +kernel⟩, List.mem_of_getElem? (i := 881) (by decide +kernel), List.mem_of_getElem? (i := 1292) (by decide +kernel), List.mem_of_getElem? (i := 1293) (by decide +kernel)⟩
theorem lw_p94 : lw_okq (⟨"RowPatternsModel", "repetition", "(IIII)V"⟩, 53) := ⟨⟨by decide +kernel, by decide +kernel⟩, List.mem_of_getElem? (i := 881) (by decide +kernel), List.mem_of_getElem? (i := 1296) (by decide +kernel), List.mem_of_getElem? (i := 1297) (by decide +kernel)⟩
theorem lw_p95 : lw_okq (⟨"RowPatternsModel", "goOn", "()V"⟩, 53) := ⟨⟨by decide +kernel, by decide +kernel⟩, List.mem_of_getElem? (i := 881) (by decide +kernel), List.mem_of_getElem? (i := 1300) (by decide +kernel), List.mem_of_getElem? (i := 1301) (by decide +kernel)⟩
def lw_privs_6 : List (MethodName × Nat) := [(⟨"RowPatternsModel", "isHolding", "(III)Z"⟩, 53), (⟨"RowPatternsModel", "wrong", "(I)I"⟩, 53), (⟨"RowPatternsModel", "search", "(II)Z"⟩, 53), (⟨"RowPatternsModel", "goes", "(II)V"⟩, 53), (⟨"RowPatternsModel", "turns", "()V"⟩, 53), (⟨"RowPatternsModel", "leaves", "(III)V"⟩, 53), (⟨"RowPatternsModel", "kid", "(II)I"⟩, 53), (⟨"RowPatternsModel", "anyOf", "(IIII)V"⟩, 53), (⟨"RowPatternsModel", "undone", "(III)I"⟩, 53), (⟨"RowPatternsModel", "tells", "(IIII)I"⟩, 53), (⟨"RowPatternsModel", "once", "(III)V"⟩, 53), (⟨"RowPatternsModel", "come", "()V"⟩, 53), (⟨"RowPatternsModel", "order", "(III)V"⟩, 53), (⟨"RowPatternsModel", "isTry", "()Z"⟩, 53), (⟨"RowPatternsModel", "repetition", "(IIII)V"⟩, 53), (⟨"RowPatternsModel", "goOn", "()V"⟩, 53)]
theorem lw_r6 : ∀ q ∈ lw_privs_6, lw_okq q := List.forall_mem_cons.mpr ⟨lw_p80, List.forall_mem_cons.mpr ⟨lw_p81, List.forall_mem_cons.mpr ⟨lw_p82, List.forall_mem_cons.mpr ⟨lw_p83, List.forall_mem_cons.mpr ⟨lw_p84, List.forall_mem_cons.mpr ⟨lw_p85, List.forall_mem_cons.mpr ⟨lw_p86, List.forall_mem_cons.mpr ⟨lw_p87, List.forall_mem_cons.mpr ⟨lw_p88, List.forall_mem_cons.mpr ⟨lw_p89, List.forall_mem_cons.mpr ⟨lw_p90, List.forall_mem_cons.mpr ⟨lw_p91, List.forall_mem_cons.mpr ⟨lw_p92, List.forall_mem_cons.mpr ⟨lw_p93, List.forall_mem_cons.mpr ⟨lw_p94, List.forall_mem_cons.mpr ⟨lw_p95, fun _ h => absurd h List.not_mem_nil⟩⟩⟩⟩⟩⟩⟩⟩⟩⟩⟩⟩⟩⟩⟩⟩
theorem lw_p96 : lw_okq (⟨"RowPatternsModel", "behindMatch", "(II)I"⟩, 53) := ⟨⟨by decide +kernel, by decide +kernel⟩, List.mem_of_getElem? (i := 881) (by decide +kernel), List.mem_of_getElem? (i := 1344) (by decide +kernel), List.mem_of_getElem? (i := 1345) (by decide +kernel)⟩
theorem lw_p97 : lw_okq (⟨"RowPatternsModel", "isMatch", "(I)Z"⟩, 53) := ⟨⟨by decide +kernel, by decide +kernel⟩, List.mem_of_getElem? (i := 881) (by decide +kernel), List.mem_of_getElem? (i := 1352) (by decide +kernel), List.mem_of_getElem? (i := 1353) (by decide +kernel)⟩
theorem lw_p98 : lw_okq (⟨"RowPatternsModel", "matched", "(II)I"⟩, 53) := ⟨⟨by decide +kernel, by decide +kernel⟩, List.mem_of_getElem? (i := 881) (by decide +kernel), List.mem_of_getElem? (i := 1356) (by decide +kernel), List.mem_of_getElem? (i := 1357) (by decide +kernel)⟩
theorem lw_p99 : lw_okq (⟨"RowPatternsModel", "labelled", "(II)I"⟩, 53) := ⟨⟨by decide +kernel, by decide +kernel⟩, List.mem_of_getElem? (i := 881) (by decide +kernel), List.mem_of_getElem? (i := 1364) (by decide +kernel), List.mem_of_getElem? (i := 1365) (by decide +kernel)⟩
theorem lw_p100 : lw_okq (⟨"RowPatternsModel", "in", "(I)I"⟩, 53) := ⟨⟨by decide +kernel, by decide +kernel⟩, List.mem_of_getElem? (i := 881) (by decide +kernel), List.mem_of_getElem? (i := 1384) (by decide +kernel), List.mem_of_getElem? (i := 1385) (by decide +kernel)⟩
def lw_privs_7 : List (MethodName × Nat) := [(⟨"RowPatternsModel", "behindMatch", "(II)I"⟩, 53), (⟨"RowPatternsModel", "isMatch", "(I)Z"⟩, 53), (⟨"RowPatternsModel", "matched", "(II)I"⟩, 53), (⟨"RowPatternsModel", "labelled", "(II)I"⟩, 53), (⟨"RowPatternsModel", "in", "(I)I"⟩, 53)]
theorem lw_r7 : ∀ q ∈ lw_privs_7, lw_okq q := List.forall_mem_cons.mpr ⟨lw_p96, List.forall_mem_cons.mpr ⟨lw_p97, List.forall_mem_cons.mpr ⟨lw_p98, List.forall_mem_cons.mpr ⟨lw_p99, List.forall_mem_cons.mpr ⟨lw_p100, fun _ h => absurd h List.not_mem_nil⟩⟩⟩⟩⟩
def lw_privs : List (MethodName × Nat) := lw_privs_1 ++ (lw_privs_2 ++ (lw_privs_3 ++ (lw_privs_4 ++ (lw_privs_5 ++ (lw_privs_6 ++ (lw_privs_7))))))
def lw_tbl : List Cond := k2_sels lw_privs ++ tables_1
theorem lw_privs_ok : ∀ q ∈ lw_privs, lw_okq q := by
  show ∀ q ∈ lw_privs_1 ++ (lw_privs_2 ++ (lw_privs_3 ++ (lw_privs_4 ++ (lw_privs_5 ++ (lw_privs_6 ++ (lw_privs_7)))))), lw_okq q
  exact List.forall_mem_append.mpr ⟨lw_r1, List.forall_mem_append.mpr ⟨lw_r2, List.forall_mem_append.mpr ⟨lw_r3, List.forall_mem_append.mpr ⟨lw_r4, List.forall_mem_append.mpr ⟨lw_r5, List.forall_mem_append.mpr ⟨lw_r6, lw_r7⟩⟩⟩⟩⟩⟩

def RX0 : String := "RowPatterns$Condition"
def TX0 : u_T := fun k => match k with
  | _ => ("RowPatterns$Condition", "code", "[I", true)
def tyX0 : Nat → FieldType := fun k => match k with
  | _ => .array .int
theorem nmX0 : ∀ a, a < 1 → ∀ b, b < 1 → a ≠ b → (TX0 a).2.1 ≠ (TX0 b).2.1 := by decide +kernel
theorem tyX0_ok : ∀ k, k < 1 → parseFieldDescriptor (TX0 k).2.2.1 = some (tyX0 k) := by decide +kernel
abbrev cX0_init : ByteArray := prog_2_method_1_code
def yX0_init : MethodName := ⟨RX0, "<init>", "([I)V"⟩
abbrev cX0_operand : ByteArray := prog_2_method_2_code
def yX0_operand : MethodName := ⟨RX0, "operand", "(II)I"⟩
abbrev cX0_isTrue : ByteArray := prog_2_method_3_code
def yX0_isTrue : MethodName := ⟨RX0, "isTrue", "(LRowPatterns$Search;I)Z"⟩
abbrev cX0_compared : ByteArray := prog_2_method_4_code
def yX0_compared : MethodName := ⟨RX0, "compared", "(III)Z"⟩
abbrev cX0_value : ByteArray := prog_2_method_5_code
def yX0_value : MethodName := ⟨RX0, "value", "(ILRowPatterns$Search;I)I"⟩
def RX1 : String := "RowPatterns$ConditionReader"
def TX1 : u_T := fun k => match k with
  | 0 => ("RowPatterns$ConditionReader", "text", "LRowPatterns$Text;", true)
  | 1 => ("RowPatterns$ConditionReader", "code", "[I", true)
  | 2 => ("RowPatterns$ConditionReader", "size", "I", false)
  | 3 => ("RowPatterns$ConditionReader", "place", "I", false)
  | 4 => ("RowPatterns$ConditionReader", "fault", "I", false)
  | 5 => ("RowPatterns$ConditionReader", "named", "I", false)
  | _ => ("RowPatterns$ConditionReader", "conditions", "[LRowPatterns$Condition;", true)
def tyX1 : Nat → FieldType := fun k => match k with
  | 0 => .object "RowPatterns$Text"
  | 1 => .array .int
  | 2 => .int
  | 3 => .int
  | 4 => .int
  | 5 => .int
  | _ => .array (.object "RowPatterns$Condition")
theorem nmX1 : ∀ a, a < 7 → ∀ b, b < 7 → a ≠ b → (TX1 a).2.1 ≠ (TX1 b).2.1 := by decide +kernel
theorem tyX1_ok : ∀ k, k < 7 → parseFieldDescriptor (TX1 k).2.2.1 = some (tyX1 k) := by decide +kernel
abbrev cX1_init : ByteArray := prog_3_method_1_code
def yX1_init : MethodName := ⟨RX1, "<init>", "(LRowPatterns$Text;)V"⟩
abbrev cX1_read : ByteArray := prog_3_method_2_code
def yX1_read : MethodName := ⟨RX1, "read", "()I"⟩
abbrev cX1_conditionOf : ByteArray := prog_3_method_3_code
def yX1_conditionOf : MethodName := ⟨RX1, "conditionOf", "(I)Z"⟩
abbrev cX1_failed : ByteArray := prog_3_method_4_code
def yX1_failed : MethodName := ⟨RX1, "failed", "()Z"⟩
abbrev cX1_comes : ByteArray := prog_3_method_5_code
def yX1_comes : MethodName := ⟨RX1, "comes", "(I)Z"⟩
abbrev cX1_passes : ByteArray := prog_3_method_6_code
def yX1_passes : MethodName := ⟨RX1, "passes", "(I)Z"⟩
abbrev cX1_emit : ByteArray := prog_3_method_7_code
def yX1_emit : MethodName := ⟨RX1, "emit", "(I)V"⟩
abbrev cX1_either : ByteArray := prog_3_method_8_code
def yX1_either : MethodName := ⟨RX1, "either", "(I)Z"⟩
abbrev cX1_both : ByteArray := prog_3_method_9_code
def yX1_both : MethodName := ⟨RX1, "both", "(I)Z"⟩
abbrev cX1_factor : ByteArray := prog_3_method_10_code
def yX1_factor : MethodName := ⟨RX1, "factor", "(I)Z"⟩
abbrev cX1_test : ByteArray := prog_3_method_11_code
def yX1_test : MethodName := ⟨RX1, "test", "()Z"⟩
abbrev cX1_operand : ByteArray := prog_3_method_12_code
def yX1_operand : MethodName := ⟨RX1, "operand", "()Z"⟩
abbrev cX1_column : ByteArray := prog_3_method_13_code
def yX1_column : MethodName := ⟨RX1, "column", "(II)Z"⟩
abbrev cX1_number : ByteArray := prog_3_method_14_code
def yX1_number : MethodName := ⟨RX1, "number", "()Z"⟩
def RX2 : String := "RowPatterns$Longs"
def TX2 : u_T := fun k => match k with
  | 0 => ("RowPatterns$Longs", "values", "[J", true)
  | _ => ("RowPatterns$Longs", "size", "I", false)
def tyX2 : Nat → FieldType := fun k => match k with
  | 0 => .array .long
  | _ => .int
theorem nmX2 : ∀ a, a < 2 → ∀ b, b < 2 → a ≠ b → (TX2 a).2.1 ≠ (TX2 b).2.1 := by decide +kernel
theorem tyX2_ok : ∀ k, k < 2 → parseFieldDescriptor (TX2 k).2.2.1 = some (tyX2 k) := by decide +kernel
abbrev cX2_init : ByteArray := prog_4_method_1_code
def yX2_init : MethodName := ⟨RX2, "<init>", "()V"⟩
abbrev cX2_become : ByteArray := prog_4_method_2_code
def yX2_become : MethodName := ⟨RX2, "become", "(I)V"⟩
abbrev cX2_has : ByteArray := prog_4_method_3_code
def yX2_has : MethodName := ⟨RX2, "has", "(J)Z"⟩
abbrev cX2_hasAll : ByteArray := prog_4_method_4_code
def yX2_hasAll : MethodName := ⟨RX2, "hasAll", "(II)Z"⟩
abbrev cX2_at : ByteArray := prog_4_method_5_code
def yX2_at : MethodName := ⟨RX2, "at", "(J)J"⟩
abbrev cX2_write : ByteArray := prog_4_method_6_code
def yX2_write : MethodName := ⟨RX2, "write", "(JJ)Z"⟩
def RX3 : String := "RowPatterns$Matches"
def TX3 : u_T := fun k => match k with
  | 0 => ("RowPatterns$Matches", "starts", "[I", true)
  | 1 => ("RowPatterns$Matches", "ends", "[I", true)
  | 2 => ("RowPatterns$Matches", "letters", "[I", true)
  | _ => ("RowPatterns$Matches", "size", "I", false)
def tyX3 : Nat → FieldType := fun k => match k with
  | 0 => .array .int
  | 1 => .array .int
  | 2 => .array .int
  | _ => .int
theorem nmX3 : ∀ a, a < 4 → ∀ b, b < 4 → a ≠ b → (TX3 a).2.1 ≠ (TX3 b).2.1 := by decide +kernel
theorem tyX3_ok : ∀ k, k < 4 → parseFieldDescriptor (TX3 k).2.2.1 = some (tyX3 k) := by decide +kernel
abbrev cX3_init : ByteArray := prog_5_method_1_code
def yX3_init : MethodName := ⟨RX3, "<init>", "()V"⟩
abbrev cX3_has : ByteArray := prog_5_method_2_code
def yX3_has : MethodName := ⟨RX3, "has", "(I)Z"⟩
abbrev cX3_add : ByteArray := prog_5_method_3_code
def yX3_add : MethodName := ⟨RX3, "add", "(IILRowPatterns$Search;)V"⟩
abbrev cX3_become : ByteArray := prog_5_method_4_code
def yX3_become : MethodName := ⟨RX3, "become", "(LRowPatterns$Matches;)V"⟩
abbrev cX3_startOf : ByteArray := prog_5_method_5_code
def yX3_startOf : MethodName := ⟨RX3, "startOf", "(I)I"⟩
abbrev cX3_rowsOf : ByteArray := prog_5_method_6_code
def yX3_rowsOf : MethodName := ⟨RX3, "rowsOf", "(I)I"⟩
abbrev cX3_letterOf : ByteArray := prog_5_method_7_code
def yX3_letterOf : MethodName := ⟨RX3, "letterOf", "(II)I"⟩
abbrev cX3_lettersOf : ByteArray := prog_5_method_8_code
def yX3_lettersOf : MethodName := ⟨RX3, "lettersOf", "(I)I"⟩
abbrev cX3_covering : ByteArray := prog_5_method_9_code
def yX3_covering : MethodName := ⟨RX3, "covering", "(I)I"⟩
abbrev cX3_measured : ByteArray := prog_5_method_10_code
def yX3_measured : MethodName := ⟨RX3, "measured", "(IIIILRowPatterns$Table;)J"⟩
def RX4 : String := "RowPatterns$Parts"
def TX4 : u_T := fun k => match k with
  | 0 => ("RowPatterns$Parts", "facts", "[I", true)
  | _ => ("RowPatterns$Parts", "count", "I", false)
def tyX4 : Nat → FieldType := fun k => match k with
  | 0 => .array .int
  | _ => .int
theorem nmX4 : ∀ a, a < 2 → ∀ b, b < 2 → a ≠ b → (TX4 a).2.1 ≠ (TX4 b).2.1 := by decide +kernel
theorem tyX4_ok : ∀ k, k < 2 → parseFieldDescriptor (TX4 k).2.2.1 = some (tyX4 k) := by decide +kernel
abbrev cX4_init : ByteArray := prog_6_method_1_code
def yX4_init : MethodName := ⟨RX4, "<init>", "(I)V"⟩
abbrev cX4_fact : ByteArray := prog_6_method_2_code
def yX4_fact : MethodName := ⟨RX4, "fact", "(II)I"⟩
abbrev cX4_note : ByteArray := prog_6_method_3_code
def yX4_note : MethodName := ⟨RX4, "note", "(III)V"⟩
abbrev cX4_add : ByteArray := prog_6_method_4_code
def yX4_add : MethodName := ⟨RX4, "add", "(III)I"⟩
abbrev cX4_addLeaf : ByteArray := prog_6_method_5_code
def yX4_addLeaf : MethodName := ⟨RX4, "addLeaf", "(II)I"⟩
abbrev cX4_addRepetition : ByteArray := prog_6_method_6_code
def yX4_addRepetition : MethodName := ⟨RX4, "addRepetition", "(IIII)I"⟩
abbrev cX4_link : ByteArray := prog_6_method_7_code
def yX4_link : MethodName := ⟨RX4, "link", "(II)V"⟩
abbrev cX4_write : ByteArray := prog_6_method_8_code
def yX4_write : MethodName := ⟨RX4, "write", "(LRowPatterns$Text;)V"⟩
abbrev cX4_writePart : ByteArray := prog_6_method_9_code
def yX4_writePart : MethodName := ⟨RX4, "writePart", "(ILRowPatterns$Text;I)V"⟩
abbrev cX4_writeInner : ByteArray := prog_6_method_10_code
def yX4_writeInner : MethodName := ⟨RX4, "writeInner", "(IILRowPatterns$Text;I)V"⟩
abbrev cX4_needsBrackets : ByteArray := prog_6_method_11_code
def yX4_needsBrackets : MethodName := ⟨RX4, "needsBrackets", "(II)Z"⟩
abbrev cX4_writeQuantity : ByteArray := prog_6_method_12_code
def yX4_writeQuantity : MethodName := ⟨RX4, "writeQuantity", "(ILRowPatterns$Text;)V"⟩
abbrev cX4_writeNumber : ByteArray := prog_6_method_13_code
def yX4_writeNumber : MethodName := ⟨RX4, "writeNumber", "(ILRowPatterns$Text;)V"⟩
def RX5 : String := "RowPatterns$PatternReader"
def TX5 : u_T := fun k => match k with
  | 0 => ("RowPatterns$PatternReader", "text", "LRowPatterns$Text;", true)
  | 1 => ("RowPatterns$PatternReader", "parts", "LRowPatterns$Parts;", true)
  | 2 => ("RowPatterns$PatternReader", "place", "I", false)
  | _ => ("RowPatterns$PatternReader", "fault", "I", false)
def tyX5 : Nat → FieldType := fun k => match k with
  | 0 => .object "RowPatterns$Text"
  | 1 => .object "RowPatterns$Parts"
  | 2 => .int
  | _ => .int
theorem nmX5 : ∀ a, a < 4 → ∀ b, b < 4 → a ≠ b → (TX5 a).2.1 ≠ (TX5 b).2.1 := by decide +kernel
theorem tyX5_ok : ∀ k, k < 4 → parseFieldDescriptor (TX5 k).2.2.1 = some (tyX5 k) := by decide +kernel
abbrev cX5_init : ByteArray := prog_7_method_1_code
def yX5_init : MethodName := ⟨RX5, "<init>", "(LRowPatterns$Text;)V"⟩
abbrev cX5_read : ByteArray := prog_7_method_2_code
def yX5_read : MethodName := ⟨RX5, "read", "()LRowPatterns$Parts;"⟩
abbrev cX5_failed : ByteArray := prog_7_method_3_code
def yX5_failed : MethodName := ⟨RX5, "failed", "(I)I"⟩
abbrev cX5_comes : ByteArray := prog_7_method_4_code
def yX5_comes : MethodName := ⟨RX5, "comes", "(I)Z"⟩
abbrev cX5_choice : ByteArray := prog_7_method_5_code
def yX5_choice : MethodName := ⟨RX5, "choice", "(I)I"⟩
abbrev cX5_sequence : ByteArray := prog_7_method_6_code
def yX5_sequence : MethodName := ⟨RX5, "sequence", "(I)I"⟩
abbrev cX5_atomComes : ByteArray := prog_7_method_7_code
def yX5_atomComes : MethodName := ⟨RX5, "atomComes", "(I)Z"⟩
abbrev cX5_piece : ByteArray := prog_7_method_8_code
def yX5_piece : MethodName := ⟨RX5, "piece", "(I)I"⟩
abbrev cX5_atom : ByteArray := prog_7_method_9_code
def yX5_atom : MethodName := ⟨RX5, "atom", "(I)I"⟩
abbrev cX5_bracketed : ByteArray := prog_7_method_10_code
def yX5_bracketed : MethodName := ⟨RX5, "bracketed", "(I)I"⟩
abbrev cX5_anyOrder : ByteArray := prog_7_method_11_code
def yX5_anyOrder : MethodName := ⟨RX5, "anyOrder", "(I)I"⟩
abbrev cX5_bounded : ByteArray := prog_7_method_12_code
def yX5_bounded : MethodName := ⟨RX5, "bounded", "(I)I"⟩
abbrev cX5_mostBehind : ByteArray := prog_7_method_13_code
def yX5_mostBehind : MethodName := ⟨RX5, "mostBehind", "(I)I"⟩
abbrev cX5_number : ByteArray := prog_7_method_14_code
def yX5_number : MethodName := ⟨RX5, "number", "()I"⟩
abbrev cX5_repeated : ByteArray := prog_7_method_15_code
def yX5_repeated : MethodName := ⟨RX5, "repeated", "(III)I"⟩
def RX6 : String := "RowPatterns$Search"
def TX6 : u_T := fun k => match k with
  | 0 => ("RowPatterns$Search", "now", "LRowPatterns$Situation;", true)
  | 1 => ("RowPatterns$Search", "letters", "[I", true)
  | 2 => ("RowPatterns$Search", "frames", "[I", false)
  | 3 => ("RowPatterns$Search", "frameCount", "I", false)
  | 4 => ("RowPatterns$Search", "options", "[I", false)
  | 5 => ("RowPatterns$Search", "optionCount", "I", false)
  | 6 => ("RowPatterns$Search", "start", "I", false)
  | 7 => ("RowPatterns$Search", "part", "I", false)
  | 8 => ("RowPatterns$Search", "up", "I", false)
  | 9 => ("RowPatterns$Search", "place", "I", false)
  | 10 => ("RowPatterns$Search", "tries", "I", false)
  | 11 => ("RowPatterns$Search", "ways", "I", false)
  | 12 => ("RowPatterns$Search", "fewest", "I", false)
  | _ => ("RowPatterns$Search", "most", "I", false)
def tyX6 : Nat → FieldType := fun k => match k with
  | 0 => .object "RowPatterns$Situation"
  | 1 => .array .int
  | 2 => .array .int
  | 3 => .int
  | 4 => .array .int
  | 5 => .int
  | 6 => .int
  | 7 => .int
  | 8 => .int
  | 9 => .int
  | 10 => .int
  | 11 => .int
  | 12 => .int
  | _ => .int
theorem nmX6 : ∀ a, a < 14 → ∀ b, b < 14 → a ≠ b → (TX6 a).2.1 ≠ (TX6 b).2.1 := by decide +kernel
theorem tyX6_ok : ∀ k, k < 14 → parseFieldDescriptor (TX6 k).2.2.1 = some (tyX6 k) := by decide +kernel
abbrev cX6_init : ByteArray := prog_8_method_1_code
def yX6_init : MethodName := ⟨RX6, "<init>", "(LRowPatterns$Situation;)V"⟩
abbrev cX6_letterAt : ByteArray := prog_8_method_2_code
def yX6_letterAt : MethodName := ⟨RX6, "letterAt", "(I)I"⟩
abbrev cX6_seek : ByteArray := prog_8_method_3_code
def yX6_seek : MethodName := ⟨RX6, "seek", "(II)I"⟩
abbrev cX6_begin : ByteArray := prog_8_method_4_code
def yX6_begin : MethodName := ⟨RX6, "begin", "(II)V"⟩
abbrev cX6_noteWay : ByteArray := prog_8_method_5_code
def yX6_noteWay : MethodName := ⟨RX6, "noteWay", "()V"⟩
abbrev cX6_mayTry : ByteArray := prog_8_method_6_code
def yX6_mayTry : MethodName := ⟨RX6, "mayTry", "()Z"⟩
abbrev cX6_come : ByteArray := prog_8_method_7_code
def yX6_come : MethodName := ⟨RX6, "come", "(LRowPatterns$Parts;)I"⟩
abbrev cX6_goOn : ByteArray := prog_8_method_8_code
def yX6_goOn : MethodName := ⟨RX6, "goOn", "(LRowPatterns$Parts;)I"⟩
abbrev cX6_goBack : ByteArray := prog_8_method_9_code
def yX6_goBack : MethodName := ⟨RX6, "goBack", "(LRowPatterns$Parts;)I"⟩
abbrev cX6_takeLetter : ByteArray := prog_8_method_10_code
def yX6_takeLetter : MethodName := ⟨RX6, "takeLetter", "(I)I"⟩
abbrev cX6_comeWithin : ByteArray := prog_8_method_11_code
def yX6_comeWithin : MethodName := ⟨RX6, "comeWithin", "(LRowPatterns$Parts;I)I"⟩
abbrev cX6_choose : ByteArray := prog_8_method_12_code
def yX6_choose : MethodName := ⟨RX6, "choose", "(LRowPatterns$Parts;I)I"⟩
abbrev cX6_repeat : ByteArray := prog_8_method_13_code
def yX6_repeat : MethodName := ⟨RX6, "repeat", "(LRowPatterns$Parts;II)I"⟩
abbrev cX6_onceMore : ByteArray := prog_8_method_14_code
def yX6_onceMore : MethodName := ⟨RX6, "onceMore", "(LRowPatterns$Parts;I)I"⟩
abbrev cX6_order : ByteArray := prog_8_method_15_code
def yX6_order : MethodName := ⟨RX6, "order", "(LRowPatterns$Parts;II)I"⟩
abbrev cX6_notDone : ByteArray := prog_8_method_16_code
def yX6_notDone : MethodName := ⟨RX6, "notDone", "(III)I"⟩
abbrev cX6_pushFrame : ByteArray := prog_8_method_17_code
def yX6_pushFrame : MethodName := ⟨RX6, "pushFrame", "(I)V"⟩
abbrev cX6_frameFact : ByteArray := prog_8_method_18_code
def yX6_frameFact : MethodName := ⟨RX6, "frameFact", "(II)I"⟩
abbrev cX6_pushOption : ByteArray := prog_8_method_19_code
def yX6_pushOption : MethodName := ⟨RX6, "pushOption", "(I)V"⟩
abbrev cX6_optionFact : ByteArray := prog_8_method_20_code
def yX6_optionFact : MethodName := ⟨RX6, "optionFact", "(I)I"⟩
abbrev cX6_allows : ByteArray := prog_8_method_21_code
def yX6_allows : MethodName := ⟨RX6, "allows", "(II)Z"⟩
abbrev cX6_earliest : ByteArray := prog_8_method_22_code
def yX6_earliest : MethodName := ⟨RX6, "earliest", "(II)I"⟩
abbrev cX6_latest : ByteArray := prog_8_method_23_code
def yX6_latest : MethodName := ⟨RX6, "latest", "(II)I"⟩
abbrev cX6_count : ByteArray := prog_8_method_24_code
def yX6_count : MethodName := ⟨RX6, "count", "(II)I"⟩
abbrev cX6_sum : ByteArray := prog_8_method_25_code
def yX6_sum : MethodName := ⟨RX6, "sum", "(III)I"⟩
def RX7 : String := "RowPatterns$Situation"
def TX7 : u_T := fun k => match k with
  | 0 => ("RowPatterns$Situation", "table", "LRowPatterns$Table;", true)
  | 1 => ("RowPatterns$Situation", "conditions", "[LRowPatterns$Condition;", true)
  | 2 => ("RowPatterns$Situation", "parts", "LRowPatterns$Parts;", false)
  | 3 => ("RowPatterns$Situation", "matches", "LRowPatterns$Matches;", false)
  | 4 => ("RowPatterns$Situation", "mode", "I", false)
  | 5 => ("RowPatterns$Situation", "modeLetter", "I", false)
  | 6 => ("RowPatterns$Situation", "empties", "I", false)
  | _ => ("RowPatterns$Situation", "may", "I", false)
def tyX7 : Nat → FieldType := fun k => match k with
  | 0 => .object "RowPatterns$Table"
  | 1 => .array (.object "RowPatterns$Condition")
  | 2 => .object "RowPatterns$Parts"
  | 3 => .object "RowPatterns$Matches"
  | 4 => .int
  | 5 => .int
  | 6 => .int
  | _ => .int
theorem nmX7 : ∀ a, a < 8 → ∀ b, b < 8 → a ≠ b → (TX7 a).2.1 ≠ (TX7 b).2.1 := by decide +kernel
theorem tyX7_ok : ∀ k, k < 8 → parseFieldDescriptor (TX7 k).2.2.1 = some (tyX7 k) := by decide +kernel
abbrev cX7_init : ByteArray := prog_9_method_1_code
def yX7_init : MethodName := ⟨RX7, "<init>", "()V"⟩
abbrev cX7_become : ByteArray := prog_9_method_2_code
def yX7_become : MethodName := ⟨RX7, "become", "(LRowPatterns$Situation;)V"⟩
abbrev cX7_lettersWithCondition : ByteArray := prog_9_method_3_code
def yX7_lettersWithCondition : MethodName := ⟨RX7, "lettersWithCondition", "()I"⟩
def RX8 : String := "RowPatterns$Table"
def TX8 : u_T := fun k => match k with
  | 0 => ("RowPatterns$Table", "cells", "[I", true)
  | _ => ("RowPatterns$Table", "size", "I", false)
def tyX8 : Nat → FieldType := fun k => match k with
  | 0 => .array .int
  | _ => .int
theorem nmX8 : ∀ a, a < 2 → ∀ b, b < 2 → a ≠ b → (TX8 a).2.1 ≠ (TX8 b).2.1 := by decide +kernel
theorem tyX8_ok : ∀ k, k < 2 → parseFieldDescriptor (TX8 k).2.2.1 = some (tyX8 k) := by decide +kernel
abbrev cX8_init : ByteArray := prog_10_method_1_code
def yX8_init : MethodName := ⟨RX8, "<init>", "()V"⟩
abbrev cX8_hasRow : ByteArray := prog_10_method_2_code
def yX8_hasRow : MethodName := ⟨RX8, "hasRow", "(I)Z"⟩
abbrev cX8_number : ByteArray := prog_10_method_3_code
def yX8_number : MethodName := ⟨RX8, "number", "(II)I"⟩
abbrev cX8_write : ByteArray := prog_10_method_4_code
def yX8_write : MethodName := ⟨RX8, "write", "(III)V"⟩
abbrev cX8_become : ByteArray := prog_10_method_5_code
def yX8_become : MethodName := ⟨RX8, "become", "(LRowPatterns$Table;)V"⟩
def RX9 : String := "RowPatterns$Text"
def TX9 : u_T := fun k => match k with
  | 0 => ("RowPatterns$Text", "bytes", "[I", true)
  | _ => ("RowPatterns$Text", "size", "I", false)
def tyX9 : Nat → FieldType := fun k => match k with
  | 0 => .array .int
  | _ => .int
theorem nmX9 : ∀ a, a < 2 → ∀ b, b < 2 → a ≠ b → (TX9 a).2.1 ≠ (TX9 b).2.1 := by decide +kernel
theorem tyX9_ok : ∀ k, k < 2 → parseFieldDescriptor (TX9 k).2.2.1 = some (tyX9 k) := by decide +kernel
abbrev cX9_init : ByteArray := prog_11_method_1_code
def yX9_init : MethodName := ⟨RX9, "<init>", "()V"⟩
abbrev cX9_add : ByteArray := prog_11_method_2_code
def yX9_add : MethodName := ⟨RX9, "add", "(I)Z"⟩
abbrev cX9_at : ByteArray := prog_11_method_3_code
def yX9_at : MethodName := ⟨RX9, "at", "(I)I"⟩
abbrev cX9_empty : ByteArray := prog_11_method_4_code
def yX9_empty : MethodName := ⟨RX9, "empty", "()I"⟩
def RX10 : String := "RowPatterns"
def TX10 : u_T := fun k => match k with
  | 0 => ("RowPatterns", "now", "LRowPatterns$Situation;", true)
  | 1 => ("RowPatterns", "search", "LRowPatterns$Search;", true)
  | 2 => ("RowPatterns", "tape", "LRowPatterns$Text;", true)
  | 3 => ("RowPatterns", "sheet", "LRowPatterns$Text;", true)
  | 4 => ("RowPatterns", "lists", "[LRowPatterns$Longs;", true)
  | 5 => ("RowPatterns", "spare", "LRowPatterns$Matches;", false)
  | _ => ("RowPatterns", "kept", "LRowPatterns$Situation;", false)
def tyX10 : Nat → FieldType := fun k => match k with
  | 0 => .object "RowPatterns$Situation"
  | 1 => .object "RowPatterns$Search"
  | 2 => .object "RowPatterns$Text"
  | 3 => .object "RowPatterns$Text"
  | 4 => .array (.object "RowPatterns$Longs")
  | 5 => .object "RowPatterns$Matches"
  | _ => .object "RowPatterns$Situation"
theorem nmX10 : ∀ a, a < 7 → ∀ b, b < 7 → a ≠ b → (TX10 a).2.1 ≠ (TX10 b).2.1 := by decide +kernel
theorem tyX10_ok : ∀ k, k < 7 → parseFieldDescriptor (TX10 k).2.2.1 = some (tyX10 k) := by decide +kernel
abbrev cX10_init : ByteArray := prog_1_method_1_code
def yX10_init : MethodName := ⟨RX10, "<init>", "()V"⟩
abbrev cX10_row : ByteArray := prog_1_method_2_code
def yX10_row : MethodName := ⟨RX10, "row", "(II)I"⟩
abbrev cX10_set : ByteArray := prog_1_method_3_code
def yX10_set : MethodName := ⟨RX10, "set", "(III)I"⟩
abbrev cX10_drop : ByteArray := prog_1_method_4_code
def yX10_drop : MethodName := ⟨RX10, "drop", "()I"⟩
abbrev cX10_cell : ByteArray := prog_1_method_5_code
def yX10_cell : MethodName := ⟨RX10, "cell", "(II)I"⟩
abbrev cX10_feed : ByteArray := prog_1_method_6_code
def yX10_feed : MethodName := ⟨RX10, "feed", "(I)I"⟩
abbrev cX10_clear : ByteArray := prog_1_method_7_code
def yX10_clear : MethodName := ⟨RX10, "clear", "()I"⟩
abbrev cX10_pattern : ByteArray := prog_1_method_8_code
def yX10_pattern : MethodName := ⟨RX10, "pattern", "()I"⟩
abbrev cX10_define : ByteArray := prog_1_method_9_code
def yX10_define : MethodName := ⟨RX10, "define", "()I"⟩
abbrev cX10_part : ByteArray := prog_1_method_10_code
def yX10_part : MethodName := ⟨RX10, "part", "(II)I"⟩
abbrev cX10_spell : ByteArray := prog_1_method_11_code
def yX10_spell : MethodName := ⟨RX10, "spell", "()I"⟩
abbrev cX10_paper : ByteArray := prog_1_method_12_code
def yX10_paper : MethodName := ⟨RX10, "paper", "(I)I"⟩
abbrev cX10_mode : ByteArray := prog_1_method_13_code
def yX10_mode : MethodName := ⟨RX10, "mode", "(II)I"⟩
abbrev cX10_empties : ByteArray := prog_1_method_14_code
def yX10_empties : MethodName := ⟨RX10, "empties", "(I)I"⟩
abbrev cX10_may : ByteArray := prog_1_method_15_code
def yX10_may : MethodName := ⟨RX10, "may", "(I)I"⟩
abbrev cX10_holds : ByteArray := prog_1_method_16_code
def yX10_holds : MethodName := ⟨RX10, "holds", "(II)I"⟩
abbrev cX10_first : ByteArray := prog_1_method_17_code
def yX10_first : MethodName := ⟨RX10, "first", "(I)I"⟩
abbrev cX10_tries : ByteArray := prog_1_method_18_code
def yX10_tries : MethodName := ⟨RX10, "tries", "(I)I"⟩
abbrev cX10_way : ByteArray := prog_1_method_19_code
def yX10_way : MethodName := ⟨RX10, "way", "(II)I"⟩
abbrev cX10_ways : ByteArray := prog_1_method_20_code
def yX10_ways : MethodName := ⟨RX10, "ways", "(I)I"⟩
abbrev cX10_spans : ByteArray := prog_1_method_21_code
def yX10_spans : MethodName := ⟨RX10, "spans", "(II)I"⟩
abbrev cX10_fits : ByteArray := prog_1_method_22_code
def yX10_fits : MethodName := ⟨RX10, "fits", "(II)I"⟩
abbrev cX10_run : ByteArray := prog_1_method_23_code
def yX10_run : MethodName := ⟨RX10, "run", "()I"⟩
abbrev cX10_match : ByteArray := prog_1_method_24_code
def yX10_match : MethodName := ⟨RX10, "match", "(II)I"⟩
abbrev cX10_label : ByteArray := prog_1_method_25_code
def yX10_label : MethodName := ⟨RX10, "label", "(II)I"⟩
abbrev cX10_measure : ByteArray := prog_1_method_26_code
def yX10_measure : MethodName := ⟨RX10, "measure", "(IIII)J"⟩
abbrev cX10_covered : ByteArray := prog_1_method_27_code
def yX10_covered : MethodName := ⟨RX10, "covered", "(I)I"⟩
abbrev cX10_told : ByteArray := prog_1_method_28_code
def yX10_told : MethodName := ⟨RX10, "told", "(I)I"⟩
abbrev cX10_list : ByteArray := prog_1_method_29_code
def yX10_list : MethodName := ⟨RX10, "list", "(II)I"⟩
abbrev cX10_put : ByteArray := prog_1_method_30_code
def yX10_put : MethodName := ⟨RX10, "put", "(IIJ)I"⟩
abbrev cX10_get : ByteArray := prog_1_method_31_code
def yX10_get : MethodName := ⟨RX10, "get", "(II)J"⟩
abbrev cX10_move : ByteArray := prog_1_method_32_code
def yX10_move : MethodName := ⟨RX10, "move", "(IIIII)I"⟩
abbrev cX10_lay : ByteArray := prog_1_method_33_code
def yX10_lay : MethodName := ⟨RX10, "lay", "(IIIII)I"⟩
abbrev cX10_judge : ByteArray := prog_1_method_34_code
def yX10_judge : MethodName := ⟨RX10, "judge", "(IIIII)I"⟩
abbrev cX10_image : ByteArray := prog_1_method_35_code
def yX10_image : MethodName := ⟨RX10, "image", "()I"⟩
abbrev cX10_undo : ByteArray := prog_1_method_36_code
def yX10_undo : MethodName := ⟨RX10, "undo", "()I"⟩
abbrev cX10_startBehind : ByteArray := prog_1_method_37_code
def yX10_startBehind : MethodName := ⟨RX10, "startBehind", "(I)I"⟩
abbrev cX10_rowsInNoMatch : ByteArray := prog_1_method_38_code
def yX10_rowsInNoMatch : MethodName := ⟨RX10, "rowsInNoMatch", "()I"⟩
abbrev cX10_listAt : ByteArray := prog_1_method_39_code
def yX10_listAt : MethodName := ⟨RX10, "listAt", "(I)LRowPatterns$Longs;"⟩
abbrev cX10_isCell : ByteArray := prog_1_method_40_code
def yX10_isCell : MethodName := ⟨RX10, "isCell", "(I)Z"⟩
abbrev cX10_isColumn : ByteArray := prog_1_method_41_code
def yX10_isColumn : MethodName := ⟨RX10, "isColumn", "(I)Z"⟩
abbrev cX10_isLetter : ByteArray := prog_1_method_42_code
def yX10_isLetter : MethodName := ⟨RX10, "isLetter", "(I)Z"⟩
abbrev cX10_isMeasure : ByteArray := prog_1_method_43_code
def yX10_isMeasure : MethodName := ⟨RX10, "isMeasure", "(III)Z"⟩
def RX11 : String := "RowPatternsModel"
def TX11 : u_T := fun k => match k with
  | 0 => ("RowPatternsModel", "now", "[I", true)
  | 1 => ("RowPatternsModel", "then", "[I", true)
  | 2 => ("RowPatternsModel", "kept", "Z", false)
  | 3 => ("RowPatternsModel", "tape", "[I", true)
  | 4 => ("RowPatternsModel", "length", "I", false)
  | 5 => ("RowPatternsModel", "read", "[I", true)
  | 6 => ("RowPatternsModel", "size", "I", false)
  | 7 => ("RowPatternsModel", "at", "I", false)
  | 8 => ("RowPatternsModel", "well", "Z", false)
  | 9 => ("RowPatternsModel", "parts", "I", false)
  | 10 => ("RowPatternsModel", "sort", "[I", true)
  | 11 => ("RowPatternsModel", "letter", "[I", true)
  | 12 => ("RowPatternsModel", "least", "[I", true)
  | 13 => ("RowPatternsModel", "most", "[I", true)
  | 14 => ("RowPatternsModel", "more", "[I", true)
  | 15 => ("RowPatternsModel", "kids", "[I", true)
  | 16 => ("RowPatternsModel", "first", "[I", true)
  | 17 => ("RowPatternsModel", "behind", "[I", true)
  | 18 => ("RowPatternsModel", "within", "[I", true)
  | 19 => ("RowPatternsModel", "low", "I", false)
  | 20 => ("RowPatternsModel", "high", "I", false)
  | 21 => ("RowPatternsModel", "paper", "[I", true)
  | 22 => ("RowPatternsModel", "written", "I", false)
  | 23 => ("RowPatternsModel", "letters", "[I", true)
  | 24 => ("RowPatternsModel", "start", "I", false)
  | 25 => ("RowPatternsModel", "place", "I", false)
  | 26 => ("RowPatternsModel", "inside", "I", false)
  | 27 => ("RowPatternsModel", "lacks", "Z", false)
  | 28 => ("RowPatternsModel", "ends", "[I", true)
  | 29 => ("RowPatternsModel", "begins", "[I", true)
  | 30 => ("RowPatternsModel", "whose", "[I", true)
  | 31 => ("RowPatternsModel", "comes", "[I", true)
  | 32 => ("RowPatternsModel", "links", "[I", true)
  | 33 => ("RowPatternsModel", "told", "I", false)
  | 34 => ("RowPatternsModel", "choicePart", "[I", true)
  | 35 => ("RowPatternsModel", "choiceAt", "[I", true)
  | 36 => ("RowPatternsModel", "choiceNext", "[I", true)
  | 37 => ("RowPatternsModel", "choicePlace", "[I", true)
  | 38 => ("RowPatternsModel", "choices", "I", false)
  | 39 => ("RowPatternsModel", "tries", "I", false)
  | 40 => ("RowPatternsModel", "here", "I", false)
  | 41 => ("RowPatternsModel", "ways", "I", false)
  | 42 => ("RowPatternsModel", "fewest", "I", false)
  | 43 => ("RowPatternsModel", "longest", "I", false)
  | 44 => ("RowPatternsModel", "much", "Z", false)
  | 45 => ("RowPatternsModel", "failed", "Z", false)
  | 46 => ("RowPatternsModel", "part", "I", false)
  | 47 => ("RowPatternsModel", "next", "I", false)
  | 48 => ("RowPatternsModel", "from", "I", false)
  | 49 => ("RowPatternsModel", "found", "[I", true)
  | 50 => ("RowPatternsModel", "sizes", "[I", true)
  | 51 => ("RowPatternsModel", "items", "[J", true)
  | _ => ("RowPatternsModel", "moved", "[J", true)
def tyX11 : Nat → FieldType := fun k => match k with
  | 0 => .array .int
  | 1 => .array .int
  | 2 => .boolean
  | 3 => .array .int
  | 4 => .int
  | 5 => .array .int
  | 6 => .int
  | 7 => .int
  | 8 => .boolean
  | 9 => .int
  | 10 => .array .int
  | 11 => .array .int
  | 12 => .array .int
  | 13 => .array .int
  | 14 => .array .int
  | 15 => .array .int
  | 16 => .array .int
  | 17 => .array .int
  | 18 => .array .int
  | 19 => .int
  | 20 => .int
  | 21 => .array .int
  | 22 => .int
  | 23 => .array .int
  | 24 => .int
  | 25 => .int
  | 26 => .int
  | 27 => .boolean
  | 28 => .array .int
  | 29 => .array .int
  | 30 => .array .int
  | 31 => .array .int
  | 32 => .array .int
  | 33 => .int
  | 34 => .array .int
  | 35 => .array .int
  | 36 => .array .int
  | 37 => .array .int
  | 38 => .int
  | 39 => .int
  | 40 => .int
  | 41 => .int
  | 42 => .int
  | 43 => .int
  | 44 => .boolean
  | 45 => .boolean
  | 46 => .int
  | 47 => .int
  | 48 => .int
  | 49 => .array .int
  | 50 => .array .int
  | 51 => .array .long
  | _ => .array .long
theorem nmX11 : ∀ a, a < 53 → ∀ b, b < 53 → a ≠ b → (TX11 a).2.1 ≠ (TX11 b).2.1 := by decide +kernel
theorem tyX11_ok : ∀ k, k < 53 → parseFieldDescriptor (TX11 k).2.2.1 = some (tyX11 k) := by decide +kernel
abbrev cX11_isIn : ByteArray := prog_13_method_1_code
def yX11_isIn : MethodName := ⟨RX11, "isIn", "(JJJ)Z"⟩
abbrev cX11_init : ByteArray := prog_13_method_2_code
def yX11_init : MethodName := ⟨RX11, "<init>", "()V"⟩
abbrev cX11_pours : ByteArray := prog_13_method_3_code
def yX11_pours : MethodName := ⟨RX11, "pours", "([I[I)V"⟩
abbrev cX11_many : ByteArray := prog_13_method_4_code
def yX11_many : MethodName := ⟨RX11, "many", "()I"⟩
abbrev cX11_isRow : ByteArray := prog_13_method_5_code
def yX11_isRow : MethodName := ⟨RX11, "isRow", "(I)Z"⟩
abbrev cX11_isWorth : ByteArray := prog_13_method_6_code
def yX11_isWorth : MethodName := ⟨RX11, "isWorth", "(I)Z"⟩
abbrev cX11_row : ByteArray := prog_13_method_7_code
def yX11_row : MethodName := ⟨RX11, "row", "(II)I"⟩
abbrev cX11_set : ByteArray := prog_13_method_8_code
def yX11_set : MethodName := ⟨RX11, "set", "(III)I"⟩
abbrev cX11_drop : ByteArray := prog_13_method_9_code
def yX11_drop : MethodName := ⟨RX11, "drop", "()I"⟩
abbrev cX11_cell : ByteArray := prog_13_method_10_code
def yX11_cell : MethodName := ⟨RX11, "cell", "(II)I"⟩
abbrev cX11_feed : ByteArray := prog_13_method_11_code
def yX11_feed : MethodName := ⟨RX11, "feed", "(I)I"⟩
abbrev cX11_clear : ByteArray := prog_13_method_12_code
def yX11_clear : MethodName := ⟨RX11, "clear", "()I"⟩
abbrev cX11_takesTape : ByteArray := prog_13_method_13_code
def yX11_takesTape : MethodName := ⟨RX11, "takesTape", "()V"⟩
abbrev cX11_isAt : ByteArray := prog_13_method_14_code
def yX11_isAt : MethodName := ⟨RX11, "isAt", "(I)Z"⟩
abbrev cX11_isAmong : ByteArray := prog_13_method_15_code
def yX11_isAmong : MethodName := ⟨RX11, "isAmong", "(II)Z"⟩
abbrev cX11_takes : ByteArray := prog_13_method_16_code
def yX11_takes : MethodName := ⟨RX11, "takes", "(I)V"⟩
abbrev cX11_fails : ByteArray := prog_13_method_17_code
def yX11_fails : MethodName := ⟨RX11, "fails", "(I)V"⟩
abbrev cX11_number : ByteArray := prog_13_method_18_code
def yX11_number : MethodName := ⟨RX11, "number", "(I)I"⟩
abbrev cX11_makes : ByteArray := prog_13_method_19_code
def yX11_makes : MethodName := ⟨RX11, "makes", "(I)I"⟩
abbrev cX11_round : ByteArray := prog_13_method_20_code
def yX11_round : MethodName := ⟨RX11, "round", "(III)I"⟩
abbrev cX11_anyParts : ByteArray := prog_13_method_21_code
def yX11_anyParts : MethodName := ⟨RX11, "anyParts", "(I)I"⟩
abbrev cX11_atom : ByteArray := prog_13_method_22_code
def yX11_atom : MethodName := ⟨RX11, "atom", "(I)I"⟩
abbrev cX11_curly : ByteArray := prog_13_method_23_code
def yX11_curly : MethodName := ⟨RX11, "curly", "()V"⟩
abbrev cX11_repeated : ByteArray := prog_13_method_24_code
def yX11_repeated : MethodName := ⟨RX11, "repeated", "(I)I"⟩
abbrev cX11_isAtom : ByteArray := prog_13_method_25_code
def yX11_isAtom : MethodName := ⟨RX11, "isAtom", "()Z"⟩
abbrev cX11_series : ByteArray := prog_13_method_26_code
def yX11_series : MethodName := ⟨RX11, "series", "(I)I"⟩
abbrev cX11_alternatives : ByteArray := prog_13_method_27_code
def yX11_alternatives : MethodName := ⟨RX11, "alternatives", "(I)I"⟩
abbrev cX11_isRead : ByteArray := prog_13_method_28_code
def yX11_isRead : MethodName := ⟨RX11, "isRead", "()Z"⟩
abbrev cX11_pattern : ByteArray := prog_13_method_29_code
def yX11_pattern : MethodName := ⟨RX11, "pattern", "()I"⟩
abbrev cX11_part : ByteArray := prog_13_method_30_code
def yX11_part : MethodName := ⟨RX11, "part", "(II)I"⟩
abbrev cX11_writes : ByteArray := prog_13_method_31_code
def yX11_writes : MethodName := ⟨RX11, "writes", "(I)V"⟩
abbrev cX11_writesNumber : ByteArray := prog_13_method_32_code
def yX11_writesNumber : MethodName := ⟨RX11, "writesNumber", "(I)V"⟩
abbrev cX11_spells : ByteArray := prog_13_method_33_code
def yX11_spells : MethodName := ⟨RX11, "spells", "(IZ)V"⟩
abbrev cX11_times : ByteArray := prog_13_method_34_code
def yX11_times : MethodName := ⟨RX11, "times", "(I)V"⟩
abbrev cX11_spell : ByteArray := prog_13_method_35_code
def yX11_spell : MethodName := ⟨RX11, "spell", "()I"⟩
abbrev cX11_paper : ByteArray := prog_13_method_36_code
def yX11_paper : MethodName := ⟨RX11, "paper", "(I)I"⟩
abbrev cX11_seen : ByteArray := prog_13_method_37_code
def yX11_seen : MethodName := ⟨RX11, "seen", "(II)J"⟩
abbrev cX11_column : ByteArray := prog_13_method_38_code
def yX11_column : MethodName := ⟨RX11, "column", "()I"⟩
abbrev cX11_lettered : ByteArray := prog_13_method_39_code
def yX11_lettered : MethodName := ⟨RX11, "lettered", "(IZ)I"⟩
abbrev cX11_summed : ByteArray := prog_13_method_40_code
def yX11_summed : MethodName := ⟨RX11, "summed", "(II)J"⟩
abbrev cX11_counted : ByteArray := prog_13_method_41_code
def yX11_counted : MethodName := ⟨RX11, "counted", "(I)I"⟩
abbrev cX11_operand : ByteArray := prog_13_method_42_code
def yX11_operand : MethodName := ⟨RX11, "operand", "()J"⟩
abbrev cX11_test : ByteArray := prog_13_method_43_code
def yX11_test : MethodName := ⟨RX11, "test", "()Z"⟩
abbrev cX11_factor : ByteArray := prog_13_method_44_code
def yX11_factor : MethodName := ⟨RX11, "factor", "()Z"⟩
abbrev cX11_both : ByteArray := prog_13_method_45_code
def yX11_both : MethodName := ⟨RX11, "both", "()Z"⟩
abbrev cX11_either : ByteArray := prog_13_method_46_code
def yX11_either : MethodName := ⟨RX11, "either", "()Z"⟩
abbrev cX11_isHolding : ByteArray := prog_13_method_47_code
def yX11_isHolding : MethodName := ⟨RX11, "isHolding", "(III)Z"⟩
abbrev cX11_define : ByteArray := prog_13_method_48_code
def yX11_define : MethodName := ⟨RX11, "define", "()I"⟩
abbrev cX11_holds : ByteArray := prog_13_method_49_code
def yX11_holds : MethodName := ⟨RX11, "holds", "(II)I"⟩
abbrev cX11_tells : ByteArray := prog_13_method_50_code
def yX11_tells : MethodName := ⟨RX11, "tells", "(IIII)I"⟩
abbrev cX11_isTry : ByteArray := prog_13_method_51_code
def yX11_isTry : MethodName := ⟨RX11, "isTry", "()Z"⟩
abbrev cX11_leaves : ByteArray := prog_13_method_52_code
def yX11_leaves : MethodName := ⟨RX11, "leaves", "(III)V"⟩
abbrev cX11_kid : ByteArray := prog_13_method_53_code
def yX11_kid : MethodName := ⟨RX11, "kid", "(II)I"⟩
abbrev cX11_goes : ByteArray := prog_13_method_54_code
def yX11_goes : MethodName := ⟨RX11, "goes", "(II)V"⟩
abbrev cX11_once : ByteArray := prog_13_method_55_code
def yX11_once : MethodName := ⟨RX11, "once", "(III)V"⟩
abbrev cX11_repetition : ByteArray := prog_13_method_56_code
def yX11_repetition : MethodName := ⟨RX11, "repetition", "(IIII)V"⟩
abbrev cX11_undone : ByteArray := prog_13_method_57_code
def yX11_undone : MethodName := ⟨RX11, "undone", "(III)I"⟩
abbrev cX11_anyOf : ByteArray := prog_13_method_58_code
def yX11_anyOf : MethodName := ⟨RX11, "anyOf", "(IIII)V"⟩
abbrev cX11_order : ByteArray := prog_13_method_59_code
def yX11_order : MethodName := ⟨RX11, "order", "(III)V"⟩
abbrev cX11_come : ByteArray := prog_13_method_60_code
def yX11_come : MethodName := ⟨RX11, "come", "()V"⟩
abbrev cX11_goOn : ByteArray := prog_13_method_61_code
def yX11_goOn : MethodName := ⟨RX11, "goOn", "()V"⟩
abbrev cX11_turns : ByteArray := prog_13_method_62_code
def yX11_turns : MethodName := ⟨RX11, "turns", "()V"⟩
abbrev cX11_search : ByteArray := prog_13_method_63_code
def yX11_search : MethodName := ⟨RX11, "search", "(II)Z"⟩
abbrev cX11_wrong : ByteArray := prog_13_method_64_code
def yX11_wrong : MethodName := ⟨RX11, "wrong", "(I)I"⟩
abbrev cX11_first : ByteArray := prog_13_method_65_code
def yX11_first : MethodName := ⟨RX11, "first", "(I)I"⟩
abbrev cX11_tries : ByteArray := prog_13_method_66_code
def yX11_tries : MethodName := ⟨RX11, "tries", "(I)I"⟩
abbrev cX11_way : ByteArray := prog_13_method_67_code
def yX11_way : MethodName := ⟨RX11, "way", "(II)I"⟩
abbrev cX11_ways : ByteArray := prog_13_method_68_code
def yX11_ways : MethodName := ⟨RX11, "ways", "(I)I"⟩
abbrev cX11_spans : ByteArray := prog_13_method_69_code
def yX11_spans : MethodName := ⟨RX11, "spans", "(II)I"⟩
abbrev cX11_fits : ByteArray := prog_13_method_70_code
def yX11_fits : MethodName := ⟨RX11, "fits", "(II)I"⟩
abbrev cX11_mode : ByteArray := prog_13_method_71_code
def yX11_mode : MethodName := ⟨RX11, "mode", "(II)I"⟩
abbrev cX11_empties : ByteArray := prog_13_method_72_code
def yX11_empties : MethodName := ⟨RX11, "empties", "(I)I"⟩
abbrev cX11_may : ByteArray := prog_13_method_73_code
def yX11_may : MethodName := ⟨RX11, "may", "(I)I"⟩
abbrev cX11_behindMatch : ByteArray := prog_13_method_74_code
def yX11_behindMatch : MethodName := ⟨RX11, "behindMatch", "(II)I"⟩
abbrev cX11_run : ByteArray := prog_13_method_75_code
def yX11_run : MethodName := ⟨RX11, "run", "()I"⟩
abbrev cX11_isMatch : ByteArray := prog_13_method_76_code
def yX11_isMatch : MethodName := ⟨RX11, "isMatch", "(I)Z"⟩
abbrev cX11_matched : ByteArray := prog_13_method_77_code
def yX11_matched : MethodName := ⟨RX11, "matched", "(II)I"⟩
abbrev cX11_labelled : ByteArray := prog_13_method_78_code
def yX11_labelled : MethodName := ⟨RX11, "labelled", "(II)I"⟩
abbrev cX11_match : ByteArray := prog_13_method_79_code
def yX11_match : MethodName := ⟨RX11, "match", "(II)I"⟩
abbrev cX11_label : ByteArray := prog_13_method_80_code
def yX11_label : MethodName := ⟨RX11, "label", "(II)I"⟩
abbrev cX11_isMeasure : ByteArray := prog_13_method_81_code
def yX11_isMeasure : MethodName := ⟨RX11, "isMeasure", "(III)Z"⟩
abbrev cX11_measure : ByteArray := prog_13_method_82_code
def yX11_measure : MethodName := ⟨RX11, "measure", "(IIII)J"⟩
abbrev cX11_in : ByteArray := prog_13_method_83_code
def yX11_in : MethodName := ⟨RX11, "in", "(I)I"⟩
abbrev cX11_covered : ByteArray := prog_13_method_84_code
def yX11_covered : MethodName := ⟨RX11, "covered", "(I)I"⟩
abbrev cX11_told : ByteArray := prog_13_method_85_code
def yX11_told : MethodName := ⟨RX11, "told", "(I)I"⟩
abbrev cX11_isList : ByteArray := prog_13_method_86_code
def yX11_isList : MethodName := ⟨RX11, "isList", "(I)Z"⟩
abbrev cX11_list : ByteArray := prog_13_method_87_code
def yX11_list : MethodName := ⟨RX11, "list", "(II)I"⟩
abbrev cX11_put : ByteArray := prog_13_method_88_code
def yX11_put : MethodName := ⟨RX11, "put", "(IIJ)I"⟩
abbrev cX11_get : ByteArray := prog_13_method_89_code
def yX11_get : MethodName := ⟨RX11, "get", "(II)J"⟩
abbrev cX11_move : ByteArray := prog_13_method_90_code
def yX11_move : MethodName := ⟨RX11, "move", "(IIIII)I"⟩
abbrev cX11_lay : ByteArray := prog_13_method_91_code
def yX11_lay : MethodName := ⟨RX11, "lay", "(IIIII)I"⟩
abbrev cX11_judge : ByteArray := prog_13_method_92_code
def yX11_judge : MethodName := ⟨RX11, "judge", "(IIIII)I"⟩
abbrev cX11_image : ByteArray := prog_13_method_93_code
def yX11_image : MethodName := ⟨RX11, "image", "()I"⟩
abbrev cX11_undo : ByteArray := prog_13_method_94_code
def yX11_undo : MethodName := ⟨RX11, "undo", "()I"⟩
def RJx8e188 : String := "java/lang/Cloneable"
def RJ6 : String := "java/lang/Integer"
abbrev cJ6_bitCount_0f7a4 : ByteArray := prog_15_method_49_code
def yJ6_bitCount_0f7a4 : MethodName := ⟨RJ6, "bitCount", "(I)I"⟩
def RJ9 : String := "java/lang/Math"
abbrev cJ9_floorDiv_f86c9 : ByteArray := prog_16_method_49_code
def yJ9_floorDiv_f86c9 : MethodName := ⟨RJ9, "floorDiv", "(JJ)J"⟩
abbrev cJ9_max_7cf53 : ByteArray := prog_16_method_65_code
def yJ9_max_7cf53 : MethodName := ⟨RJ9, "max", "(II)I"⟩
abbrev cJ9_max_f86c9 : ByteArray := prog_16_method_66_code
def yJ9_max_f86c9 : MethodName := ⟨RJ9, "max", "(JJ)J"⟩
abbrev cJ9_min_7cf53 : ByteArray := prog_16_method_69_code
def yJ9_min_7cf53 : MethodName := ⟨RJ9, "min", "(II)I"⟩
abbrev cJ9_min_f86c9 : ByteArray := prog_16_method_70_code
def yJ9_min_f86c9 : MethodName := ⟨RJ9, "min", "(JJ)J"⟩
def RJ10 : String := "java/lang/System"
def RJ7 : String := "java/util/Arrays"
abbrev cJ7_fill_d0a16 : ByteArray := prog_18_method_101_code
def yJ7_fill_d0a16 : MethodName := ⟨RJ7, "fill", "([JJ)V"⟩
abbrev cJ7_copyOf_59c91 : ByteArray := prog_18_method_123_code
def yJ7_copyOf_59c91 : MethodName := ⟨RJ7, "copyOf", "([II)[I"⟩
def RL : String := "RowPatternsLaw"
abbrev cL_law : ByteArray := code
def yL_law : MethodName := ⟨RL, "law", "([I)Z"⟩
def lwg : List Cond := lw_tbl.filter goodWord
theorem wm (i : Nat) {w : Cond} (h : lw_tbl[i]? = some w ∧ goodWord w = true) : w ∈ lwg := List.mem_filter.mpr ⟨List.mem_of_getElem? h.1, h.2⟩
theorem lwg_good {y : Cond} (hy : y ∈ lwg) : GoodIn lwg (y :: lwg) := by
  have h : ∀ w ∈ lwg, w ∈ lwg ∧ ((w.onTables && w.keeps) = true ∨ ∃ ty, w = .arrayClass ty) := fun w hw => ⟨hw, good_of_word (List.mem_filter.mp hw).2⟩
  intro w hw
  rcases List.mem_cons.mp hw with rfl | hw
  · exact h _ hy
  · exact h _ hw
