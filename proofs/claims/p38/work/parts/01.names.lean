/-- a private method of a class that the tables say can be made, by its rows of tables_1 -/
def lw_okq (q : MethodName × Nat) : Prop := (q.1.cls ≠ "java/lang/invoke/MethodHandle" ∧ q.1.cls ≠ "java/lang/invoke/VarHandle") ∧ Cond.instantiable q.1.cls q.2 ∈ tables_1 ∧ Cond.privateMethod q.1 ∈ tables_1 ∧ Cond.instanceMethod q.1 ∈ tables_1
theorem lw_p0 : lw_okq (⟨"RowPatterns$Search", "begin", "(II)V"⟩, 14) := ⟨⟨by decide +kernel, by decide +kernel⟩, List.mem_of_getElem? (i := 113) (by decide +kernel), List.mem_of_getElem? (i := 245) (by decide +kernel), List.mem_of_getElem? (i := 246) (by decide +kernel)⟩
theorem lw_p1 : lw_okq (⟨"RowPatterns$Search", "come", "(LRowPatterns$Parts;)I"⟩, 14) := ⟨⟨by decide +kernel, by decide +kernel⟩, List.mem_of_getElem? (i := 113) (by decide +kernel), List.mem_of_getElem? (i := 250) (by decide +kernel), List.mem_of_getElem? (i := 251) (by decide +kernel)⟩
theorem lw_p2 : lw_okq (⟨"RowPatterns$Search", "comeWithin", "(LRowPatterns$Parts;I)I"⟩, 14) := ⟨⟨by decide +kernel, by decide +kernel⟩, List.mem_of_getElem? (i := 113) (by decide +kernel), List.mem_of_getElem? (i := 258) (by decide +kernel), List.mem_of_getElem? (i := 259) (by decide +kernel)⟩
theorem lw_p3 : lw_okq (⟨"RowPatterns$Search", "pushFrame", "(I)V"⟩, 14) := ⟨⟨by decide +kernel, by decide +kernel⟩, List.mem_of_getElem? (i := 113) (by decide +kernel), List.mem_of_getElem? (i := 262) (by decide +kernel), List.mem_of_getElem? (i := 263) (by decide +kernel)⟩
theorem lw_p4 : lw_okq (⟨"RowPatterns$Search", "mayTry", "()Z"⟩, 14) := ⟨⟨by decide +kernel, by decide +kernel⟩, List.mem_of_getElem? (i := 113) (by decide +kernel), List.mem_of_getElem? (i := 282) (by decide +kernel), List.mem_of_getElem? (i := 283) (by decide +kernel)⟩
theorem lw_p5 : lw_okq (⟨"RowPatterns$Search", "takeLetter", "(I)I"⟩, 14) := ⟨⟨by decide +kernel, by decide +kernel⟩, List.mem_of_getElem? (i := 113) (by decide +kernel), List.mem_of_getElem? (i := 286) (by decide +kernel), List.mem_of_getElem? (i := 287) (by decide +kernel)⟩
theorem lw_p6 : lw_okq (⟨"RowPatterns$Search", "choose", "(LRowPatterns$Parts;I)I"⟩, 14) := ⟨⟨by decide +kernel, by decide +kernel⟩, List.mem_of_getElem? (i := 113) (by decide +kernel), List.mem_of_getElem? (i := 328) (by decide +kernel), List.mem_of_getElem? (i := 329) (by decide +kernel)⟩
theorem lw_p7 : lw_okq (⟨"RowPatterns$Search", "pushOption", "(I)V"⟩, 14) := ⟨⟨by decide +kernel, by decide +kernel⟩, List.mem_of_getElem? (i := 113) (by decide +kernel), List.mem_of_getElem? (i := 332) (by decide +kernel), List.mem_of_getElem? (i := 333) (by decide +kernel)⟩
theorem lw_p8 : lw_okq (⟨"RowPatterns$Search", "repeat", "(LRowPatterns$Parts;II)I"⟩, 14) := ⟨⟨by decide +kernel, by decide +kernel⟩, List.mem_of_getElem? (i := 113) (by decide +kernel), List.mem_of_getElem? (i := 336) (by decide +kernel), List.mem_of_getElem? (i := 337) (by decide +kernel)⟩
theorem lw_p9 : lw_okq (⟨"RowPatterns$Search", "onceMore", "(LRowPatterns$Parts;I)I"⟩, 14) := ⟨⟨by decide +kernel, by decide +kernel⟩, List.mem_of_getElem? (i := 113) (by decide +kernel), List.mem_of_getElem? (i := 340) (by decide +kernel), List.mem_of_getElem? (i := 341) (by decide +kernel)⟩
theorem lw_p10 : lw_okq (⟨"RowPatterns$Search", "order", "(LRowPatterns$Parts;II)I"⟩, 14) := ⟨⟨by decide +kernel, by decide +kernel⟩, List.mem_of_getElem? (i := 113) (by decide +kernel), List.mem_of_getElem? (i := 344) (by decide +kernel), List.mem_of_getElem? (i := 345) (by decide +kernel)⟩
theorem lw_p11 : lw_okq (⟨"RowPatterns$Search", "goOn", "(LRowPatterns$Parts;)I"⟩, 14) := ⟨⟨by decide +kernel, by decide +kernel⟩, List.mem_of_getElem? (i := 113) (by decide +kernel), List.mem_of_getElem? (i := 351) (by decide +kernel), List.mem_of_getElem? (i := 352) (by decide +kernel)⟩
theorem lw_p12 : lw_okq (⟨"RowPatterns$Search", "frameFact", "(II)I"⟩, 14) := ⟨⟨by decide +kernel, by decide +kernel⟩, List.mem_of_getElem? (i := 113) (by decide +kernel), List.mem_of_getElem? (i := 355) (by decide +kernel), List.mem_of_getElem? (i := 356) (by decide +kernel)⟩
theorem lw_p13 : lw_okq (⟨"RowPatterns$Search", "noteWay", "()V"⟩, 14) := ⟨⟨by decide +kernel, by decide +kernel⟩, List.mem_of_getElem? (i := 113) (by decide +kernel), List.mem_of_getElem? (i := 359) (by decide +kernel), List.mem_of_getElem? (i := 360) (by decide +kernel)⟩
theorem lw_p14 : lw_okq (⟨"RowPatterns$Search", "goBack", "(LRowPatterns$Parts;)I"⟩, 14) := ⟨⟨by decide +kernel, by decide +kernel⟩, List.mem_of_getElem? (i := 113) (by decide +kernel), List.mem_of_getElem? (i := 367) (by decide +kernel), List.mem_of_getElem? (i := 368) (by decide +kernel)⟩
theorem lw_p15 : lw_okq (⟨"RowPatterns$Search", "optionFact", "(I)I"⟩, 14) := ⟨⟨by decide +kernel, by decide +kernel⟩, List.mem_of_getElem? (i := 113) (by decide +kernel), List.mem_of_getElem? (i := 371) (by decide +kernel), List.mem_of_getElem? (i := 372) (by decide +kernel)⟩
def lw_privs_1 : List (MethodName × Nat) := [(⟨"RowPatterns$Search", "begin", "(II)V"⟩, 14), (⟨"RowPatterns$Search", "come", "(LRowPatterns$Parts;)I"⟩, 14), (⟨"RowPatterns$Search", "comeWithin", "(LRowPatterns$Parts;I)I"⟩, 14), (⟨"RowPatterns$Search", "pushFrame", "(I)V"⟩, 14), (⟨"RowPatterns$Search", "mayTry", "()Z"⟩, 14), (⟨"RowPatterns$Search", "takeLetter", "(I)I"⟩, 14), (⟨"RowPatterns$Search", "choose", "(LRowPatterns$Parts;I)I"⟩, 14), (⟨"RowPatterns$Search", "pushOption", "(I)V"⟩, 14), (⟨"RowPatterns$Search", "repeat", "(LRowPatterns$Parts;II)I"⟩, 14), (⟨"RowPatterns$Search", "onceMore", "(LRowPatterns$Parts;I)I"⟩, 14), (⟨"RowPatterns$Search", "order", "(LRowPatterns$Parts;II)I"⟩, 14), (⟨"RowPatterns$Search", "goOn", "(LRowPatterns$Parts;)I"⟩, 14), (⟨"RowPatterns$Search", "frameFact", "(II)I"⟩, 14), (⟨"RowPatterns$Search", "noteWay", "()V"⟩, 14), (⟨"RowPatterns$Search", "goBack", "(LRowPatterns$Parts;)I"⟩, 14), (⟨"RowPatterns$Search", "optionFact", "(I)I"⟩, 14)]
theorem lw_r1 : ∀ q ∈ lw_privs_1, lw_okq q := List.forall_mem_cons.mpr ⟨lw_p0, List.forall_mem_cons.mpr ⟨lw_p1, List.forall_mem_cons.mpr ⟨lw_p2, List.forall_mem_cons.mpr ⟨lw_p3, List.forall_mem_cons.mpr ⟨lw_p4, List.forall_mem_cons.mpr ⟨lw_p5, List.forall_mem_cons.mpr ⟨lw_p6, List.forall_mem_cons.mpr ⟨lw_p7, List.forall_mem_cons.mpr ⟨lw_p8, List.forall_mem_cons.mpr ⟨lw_p9, List.forall_mem_cons.mpr ⟨lw_p10, List.forall_mem_cons.mpr ⟨lw_p11, List.forall_mem_cons.mpr ⟨lw_p12, List.forall_mem_cons.mpr ⟨lw_p13, List.forall_mem_cons.mpr ⟨lw_p14, List.forall_mem_cons.mpr ⟨lw_p15, fun _ h => absurd h List.not_mem_nil⟩⟩⟩⟩⟩⟩⟩⟩⟩⟩⟩⟩⟩⟩⟩⟩
theorem lw_p16 : lw_okq (⟨"RowPatterns", "startBehind", "(I)I"⟩, 7) := ⟨⟨by decide +kernel, by decide +kernel⟩, List.mem_of_getElem? (i := 25) (by decide +kernel), List.mem_of_getElem? (i := 405) (by decide +kernel), List.mem_of_getElem? (i := 406) (by decide +kernel)⟩
theorem lw_p17 : lw_okq (⟨"RowPatterns", "rowsInNoMatch", "()I"⟩, 7) := ⟨⟨by decide +kernel, by decide +kernel⟩, List.mem_of_getElem? (i := 25) (by decide +kernel), List.mem_of_getElem? (i := 465) (by decide +kernel), List.mem_of_getElem? (i := 466) (by decide +kernel)⟩
theorem lw_p18 : lw_okq (⟨"RowPatterns$ConditionReader", "failed", "()Z"⟩, 7) := ⟨⟨by decide +kernel, by decide +kernel⟩, List.mem_of_getElem? (i := 789) (by decide +kernel), List.mem_of_getElem? (i := 830) (by decide +kernel), List.mem_of_getElem? (i := 831) (by decide +kernel)⟩
theorem lw_p19 : lw_okq (⟨"RowPatterns$ConditionReader", "passes", "(I)Z"⟩, 7) := ⟨⟨by decide +kernel, by decide +kernel⟩, List.mem_of_getElem? (i := 789) (by decide +kernel), List.mem_of_getElem? (i := 834) (by decide +kernel), List.mem_of_getElem? (i := 835) (by decide +kernel)⟩
theorem lw_p20 : lw_okq (⟨"RowPatterns$ConditionReader", "comes", "(I)Z"⟩, 7) := ⟨⟨by decide +kernel, by decide +kernel⟩, List.mem_of_getElem? (i := 789) (by decide +kernel), List.mem_of_getElem? (i := 838) (by decide +kernel), List.mem_of_getElem? (i := 839) (by decide +kernel)⟩
theorem lw_p21 : lw_okq (⟨"RowPatterns$ConditionReader", "conditionOf", "(I)Z"⟩, 7) := ⟨⟨by decide +kernel, by decide +kernel⟩, List.mem_of_getElem? (i := 789) (by decide +kernel), List.mem_of_getElem? (i := 842) (by decide +kernel), List.mem_of_getElem? (i := 843) (by decide +kernel)⟩
theorem lw_p22 : lw_okq (⟨"RowPatterns$ConditionReader", "either", "(I)Z"⟩, 7) := ⟨⟨by decide +kernel, by decide +kernel⟩, List.mem_of_getElem? (i := 789) (by decide +kernel), List.mem_of_getElem? (i := 846) (by decide +kernel), List.mem_of_getElem? (i := 847) (by decide +kernel)⟩
theorem lw_p23 : lw_okq (⟨"RowPatterns$ConditionReader", "both", "(I)Z"⟩, 7) := ⟨⟨by decide +kernel, by decide +kernel⟩, List.mem_of_getElem? (i := 789) (by decide +kernel), List.mem_of_getElem? (i := 850) (by decide +kernel), List.mem_of_getElem? (i := 851) (by decide +kernel)⟩
theorem lw_p24 : lw_okq (⟨"RowPatterns$ConditionReader", "factor", "(I)Z"⟩, 7) := ⟨⟨by decide +kernel, by decide +kernel⟩, List.mem_of_getElem? (i := 789) (by decide +kernel), List.mem_of_getElem? (i := 854) (by decide +kernel), List.mem_of_getElem? (i := 855) (by decide +kernel)⟩
theorem lw_p25 : lw_okq (⟨"RowPatterns$ConditionReader", "test", "()Z"⟩, 7) := ⟨⟨by decide +kernel, by decide +kernel⟩, List.mem_of_getElem? (i := 789) (by decide +kernel), List.mem_of_getElem? (i := 858) (by decide +kernel), List.mem_of_getElem? (i := 859) (by decide +kernel)⟩
theorem lw_p26 : lw_okq (⟨"RowPatterns$ConditionReader", "emit", "(I)V"⟩, 7) := ⟨⟨by decide +kernel, by decide +kernel⟩, List.mem_of_getElem? (i := 789) (by decide +kernel), List.mem_of_getElem? (i := 862) (by decide +kernel), List.mem_of_getElem? (i := 863) (by decide +kernel)⟩
theorem lw_p27 : lw_okq (⟨"RowPatterns$ConditionReader", "operand", "()Z"⟩, 7) := ⟨⟨by decide +kernel, by decide +kernel⟩, List.mem_of_getElem? (i := 789) (by decide +kernel), List.mem_of_getElem? (i := 866) (by decide +kernel), List.mem_of_getElem? (i := 867) (by decide +kernel)⟩
theorem lw_p28 : lw_okq (⟨"RowPatterns$ConditionReader", "column", "(II)Z"⟩, 7) := ⟨⟨by decide +kernel, by decide +kernel⟩, List.mem_of_getElem? (i := 789) (by decide +kernel), List.mem_of_getElem? (i := 870) (by decide +kernel), List.mem_of_getElem? (i := 871) (by decide +kernel)⟩
theorem lw_p29 : lw_okq (⟨"RowPatterns$ConditionReader", "number", "()Z"⟩, 7) := ⟨⟨by decide +kernel, by decide +kernel⟩, List.mem_of_getElem? (i := 789) (by decide +kernel), List.mem_of_getElem? (i := 877) (by decide +kernel), List.mem_of_getElem? (i := 878) (by decide +kernel)⟩
theorem lw_p30 : lw_okq (⟨"RowPatterns$PatternReader", "choice", "(I)I"⟩, 4) := ⟨⟨by decide +kernel, by decide +kernel⟩, List.mem_of_getElem? (i := 945) (by decide +kernel), List.mem_of_getElem? (i := 984) (by decide +kernel), List.mem_of_getElem? (i := 985) (by decide +kernel)⟩
theorem lw_p31 : lw_okq (⟨"RowPatterns$PatternReader", "sequence", "(I)I"⟩, 4) := ⟨⟨by decide +kernel, by decide +kernel⟩, List.mem_of_getElem? (i := 945) (by decide +kernel), List.mem_of_getElem? (i := 988) (by decide +kernel), List.mem_of_getElem? (i := 989) (by decide +kernel)⟩
def lw_privs_2 : List (MethodName × Nat) := [(⟨"RowPatterns", "startBehind", "(I)I"⟩, 7), (⟨"RowPatterns", "rowsInNoMatch", "()I"⟩, 7), (⟨"RowPatterns$ConditionReader", "failed", "()Z"⟩, 7), (⟨"RowPatterns$ConditionReader", "passes", "(I)Z"⟩, 7), (⟨"RowPatterns$ConditionReader", "comes", "(I)Z"⟩, 7), (⟨"RowPatterns$ConditionReader", "conditionOf", "(I)Z"⟩, 7), (⟨"RowPatterns$ConditionReader", "either", "(I)Z"⟩, 7), (⟨"RowPatterns$ConditionReader", "both", "(I)Z"⟩, 7), (⟨"RowPatterns$ConditionReader", "factor", "(I)Z"⟩, 7), (⟨"RowPatterns$ConditionReader", "test", "()Z"⟩, 7), (⟨"RowPatterns$ConditionReader", "emit", "(I)V"⟩, 7), (⟨"RowPatterns$ConditionReader", "operand", "()Z"⟩, 7), (⟨"RowPatterns$ConditionReader", "column", "(II)Z"⟩, 7), (⟨"RowPatterns$ConditionReader", "number", "()Z"⟩, 7), (⟨"RowPatterns$PatternReader", "choice", "(I)I"⟩, 4), (⟨"RowPatterns$PatternReader", "sequence", "(I)I"⟩, 4)]
theorem lw_r2 : ∀ q ∈ lw_privs_2, lw_okq q := List.forall_mem_cons.mpr ⟨lw_p16, List.forall_mem_cons.mpr ⟨lw_p17, List.forall_mem_cons.mpr ⟨lw_p18, List.forall_mem_cons.mpr ⟨lw_p19, List.forall_mem_cons.mpr ⟨lw_p20, List.forall_mem_cons.mpr ⟨lw_p21, List.forall_mem_cons.mpr ⟨lw_p22, List.forall_mem_cons.mpr ⟨lw_p23, List.forall_mem_cons.mpr ⟨lw_p24, List.forall_mem_cons.mpr ⟨lw_p25, List.forall_mem_cons.mpr ⟨lw_p26, List.forall_mem_cons.mpr ⟨lw_p27, List.forall_mem_cons.mpr ⟨lw_p28, List.forall_mem_cons.mpr ⟨lw_p29, List.forall_mem_cons.mpr ⟨lw_p30, List.forall_mem_cons.mpr ⟨lw_p31, fun _ h => absurd h List.not_mem_nil⟩⟩⟩⟩⟩⟩⟩⟩⟩⟩⟩⟩⟩⟩⟩⟩
theorem lw_p32 : lw_okq (⟨"RowPatterns$PatternReader", "piece", "(I)I"⟩, 4) := ⟨⟨by decide +kernel, by decide +kernel⟩, List.mem_of_getElem? (i := 945) (by decide +kernel), List.mem_of_getElem? (i := 992) (by decide +kernel), List.mem_of_getElem? (i := 993) (by decide +kernel)⟩
theorem lw_p33 : lw_okq (⟨"RowPatterns$PatternReader", "atom", "(I)I"⟩, 4) := ⟨⟨by decide +kernel, by decide +kernel⟩, List.mem_of_getElem? (i := 945) (by decide +kernel), List.mem_of_getElem? (i := 996) (by decide +kernel), List.mem_of_getElem? (i := 997) (by decide +kernel)⟩
theorem lw_p34 : lw_okq (⟨"RowPatterns$PatternReader", "atomComes", "(I)Z"⟩, 4) := ⟨⟨by decide +kernel, by decide +kernel⟩, List.mem_of_getElem? (i := 945) (by decide +kernel), List.mem_of_getElem? (i := 1000) (by decide +kernel), List.mem_of_getElem? (i := 1001) (by decide +kernel)⟩
theorem lw_p35 : lw_okq (⟨"RowPatterns$PatternReader", "failed", "(I)I"⟩, 4) := ⟨⟨by decide +kernel, by decide +kernel⟩, List.mem_of_getElem? (i := 945) (by decide +kernel), List.mem_of_getElem? (i := 1006) (by decide +kernel), List.mem_of_getElem? (i := 1007) (by decide +kernel)⟩
theorem lw_p36 : lw_okq (⟨"RowPatterns$Parts", "note", "(III)V"⟩, 2) := ⟨⟨by decide +kernel, by decide +kernel⟩, List.mem_of_getElem? (i := 951) (by decide +kernel), List.mem_of_getElem? (i := 1018) (by decide +kernel), List.mem_of_getElem? (i := 1019) (by decide +kernel)⟩
theorem lw_p37 : lw_okq (⟨"RowPatterns$PatternReader", "bracketed", "(I)I"⟩, 4) := ⟨⟨by decide +kernel, by decide +kernel⟩, List.mem_of_getElem? (i := 945) (by decide +kernel), List.mem_of_getElem? (i := 1023) (by decide +kernel), List.mem_of_getElem? (i := 1024) (by decide +kernel)⟩
theorem lw_p38 : lw_okq (⟨"RowPatterns$PatternReader", "comes", "(I)Z"⟩, 4) := ⟨⟨by decide +kernel, by decide +kernel⟩, List.mem_of_getElem? (i := 945) (by decide +kernel), List.mem_of_getElem? (i := 1027) (by decide +kernel), List.mem_of_getElem? (i := 1028) (by decide +kernel)⟩
theorem lw_p39 : lw_okq (⟨"RowPatterns$PatternReader", "anyOrder", "(I)I"⟩, 4) := ⟨⟨by decide +kernel, by decide +kernel⟩, List.mem_of_getElem? (i := 945) (by decide +kernel), List.mem_of_getElem? (i := 1031) (by decide +kernel), List.mem_of_getElem? (i := 1032) (by decide +kernel)⟩
theorem lw_p40 : lw_okq (⟨"RowPatterns$PatternReader", "repeated", "(III)I"⟩, 4) := ⟨⟨by decide +kernel, by decide +kernel⟩, List.mem_of_getElem? (i := 945) (by decide +kernel), List.mem_of_getElem? (i := 1040) (by decide +kernel), List.mem_of_getElem? (i := 1041) (by decide +kernel)⟩
theorem lw_p41 : lw_okq (⟨"RowPatterns$PatternReader", "bounded", "(I)I"⟩, 4) := ⟨⟨by decide +kernel, by decide +kernel⟩, List.mem_of_getElem? (i := 945) (by decide +kernel), List.mem_of_getElem? (i := 1048) (by decide +kernel), List.mem_of_getElem? (i := 1049) (by decide +kernel)⟩
theorem lw_p42 : lw_okq (⟨"RowPatterns$PatternReader", "number", "()I"⟩, 4) := ⟨⟨by decide +kernel, by decide +kernel⟩, List.mem_of_getElem? (i := 945) (by decide +kernel), List.mem_of_getElem? (i := 1052) (by decide +kernel), List.mem_of_getElem? (i := 1053) (by decide +kernel)⟩
theorem lw_p43 : lw_okq (⟨"RowPatterns$PatternReader", "mostBehind", "(I)I"⟩, 4) := ⟨⟨by decide +kernel, by decide +kernel⟩, List.mem_of_getElem? (i := 945) (by decide +kernel), List.mem_of_getElem? (i := 1056) (by decide +kernel), List.mem_of_getElem? (i := 1057) (by decide +kernel)⟩
def lw_privs_3 : List (MethodName × Nat) := [(⟨"RowPatterns$PatternReader", "piece", "(I)I"⟩, 4), (⟨"RowPatterns$PatternReader", "atom", "(I)I"⟩, 4), (⟨"RowPatterns$PatternReader", "atomComes", "(I)Z"⟩, 4), (⟨"RowPatterns$PatternReader", "failed", "(I)I"⟩, 4), (⟨"RowPatterns$Parts", "note", "(III)V"⟩, 2), (⟨"RowPatterns$PatternReader", "bracketed", "(I)I"⟩, 4), (⟨"RowPatterns$PatternReader", "comes", "(I)Z"⟩, 4), (⟨"RowPatterns$PatternReader", "anyOrder", "(I)I"⟩, 4), (⟨"RowPatterns$PatternReader", "repeated", "(III)I"⟩, 4), (⟨"RowPatterns$PatternReader", "bounded", "(I)I"⟩, 4), (⟨"RowPatterns$PatternReader", "number", "()I"⟩, 4), (⟨"RowPatterns$PatternReader", "mostBehind", "(I)I"⟩, 4)]
theorem lw_r3 : ∀ q ∈ lw_privs_3, lw_okq q := List.forall_mem_cons.mpr ⟨lw_p32, List.forall_mem_cons.mpr ⟨lw_p33, List.forall_mem_cons.mpr ⟨lw_p34, List.forall_mem_cons.mpr ⟨lw_p35, List.forall_mem_cons.mpr ⟨lw_p36, List.forall_mem_cons.mpr ⟨lw_p37, List.forall_mem_cons.mpr ⟨lw_p38, List.forall_mem_cons.mpr ⟨lw_p39, List.forall_mem_cons.mpr ⟨lw_p40, List.forall_mem_cons.mpr ⟨lw_p41, List.forall_mem_cons.mpr ⟨lw_p42, List.forall_mem_cons.mpr ⟨lw_p43, fun _ h => absurd h List.not_mem_nil⟩⟩⟩⟩⟩⟩⟩⟩⟩⟩⟩⟩
def lw_privs : List (MethodName × Nat) := lw_privs_1 ++ (lw_privs_2 ++ (lw_privs_3))
def lw_tbl : List Cond := k2_sels lw_privs ++ tables_1
theorem lw_privs_ok : ∀ q ∈ lw_privs, lw_okq q := by
  show ∀ q ∈ lw_privs_1 ++ (lw_privs_2 ++ (lw_privs_3)), lw_okq q
  exact List.forall_mem_append.mpr ⟨lw_r1, List.forall_mem_append.mpr ⟨lw_r2, lw_r3⟩⟩

def RX0 : String := "RowPatterns$Condition"
def TX0 : u_T := fun k => match k with
  | _ => ("RowPatterns$Condition", "code", "[I", true)
def tyX0 : Nat → FieldType := fun k => match k with
  | _ => .array .int
theorem nmX0 : ∀ a, a < 1 → ∀ b, b < 1 → a ≠ b → (TX0 a).2.1 ≠ (TX0 b).2.1 := by decide +kernel
theorem tyX0_ok : ∀ k, k < 1 → parseFieldDescriptor (TX0 k).2.2.1 = some (tyX0 k) := by decide +kernel
abbrev cX0_init : ByteArray := prog_2_method_1_code
def yX0_init : MethodName := ⟨RX0, "<init>", "([I)V"⟩
abbrev cX0_operand : ByteArray := prog_2_method_2_code
def yX0_operand : MethodName := ⟨RX0, "operand", "(II)I"⟩
abbrev cX0_isTrue : ByteArray := prog_2_method_3_code
def yX0_isTrue : MethodName := ⟨RX0, "isTrue", "(LRowPatterns$Search;I)Z"⟩
abbrev cX0_compared : ByteArray := prog_2_method_4_code
def yX0_compared : MethodName := ⟨RX0, "compared", "(III)Z"⟩
abbrev cX0_value : ByteArray := prog_2_method_5_code
def yX0_value : MethodName := ⟨RX0, "value", "(ILRowPatterns$Search;I)I"⟩
def RX1 : String := "RowPatterns$ConditionReader"
def TX1 : u_T := fun k => match k with
  | 0 => ("RowPatterns$ConditionReader", "text", "LRowPatterns$Text;", true)
  | 1 => ("RowPatterns$ConditionReader", "code", "[I", true)
  | 2 => ("RowPatterns$ConditionReader", "size", "I", false)
  | 3 => ("RowPatterns$ConditionReader", "place", "I", false)
  | 4 => ("RowPatterns$ConditionReader", "fault", "I", false)
  | 5 => ("RowPatterns$ConditionReader", "named", "I", false)
  | _ => ("RowPatterns$ConditionReader", "conditions", "[LRowPatterns$Condition;", true)
def tyX1 : Nat → FieldType := fun k => match k with
  | 0 => .object "RowPatterns$Text"
  | 1 => .array .int
  | 2 => .int
  | 3 => .int
  | 4 => .int
  | 5 => .int
  | _ => .array (.object "RowPatterns$Condition")
theorem nmX1 : ∀ a, a < 7 → ∀ b, b < 7 → a ≠ b → (TX1 a).2.1 ≠ (TX1 b).2.1 := by decide +kernel
theorem tyX1_ok : ∀ k, k < 7 → parseFieldDescriptor (TX1 k).2.2.1 = some (tyX1 k) := by decide +kernel
abbrev cX1_init : ByteArray := prog_3_method_1_code
def yX1_init : MethodName := ⟨RX1, "<init>", "(LRowPatterns$Text;)V"⟩
abbrev cX1_read : ByteArray := prog_3_method_2_code
def yX1_read : MethodName := ⟨RX1, "read", "()I"⟩
abbrev cX1_conditionOf : ByteArray := prog_3_method_3_code
def yX1_conditionOf : MethodName := ⟨RX1, "conditionOf", "(I)Z"⟩
abbrev cX1_failed : ByteArray := prog_3_method_4_code
def yX1_failed : MethodName := ⟨RX1, "failed", "()Z"⟩
abbrev cX1_comes : ByteArray := prog_3_method_5_code
def yX1_comes : MethodName := ⟨RX1, "comes", "(I)Z"⟩
abbrev cX1_passes : ByteArray := prog_3_method_6_code
def yX1_passes : MethodName := ⟨RX1, "passes", "(I)Z"⟩
abbrev cX1_emit : ByteArray := prog_3_method_7_code
def yX1_emit : MethodName := ⟨RX1, "emit", "(I)V"⟩
abbrev cX1_either : ByteArray := prog_3_method_8_code
def yX1_either : MethodName := ⟨RX1, "either", "(I)Z"⟩
abbrev cX1_both : ByteArray := prog_3_method_9_code
def yX1_both : MethodName := ⟨RX1, "both", "(I)Z"⟩
abbrev cX1_factor : ByteArray := prog_3_method_10_code
def yX1_factor : MethodName := ⟨RX1, "factor", "(I)Z"⟩
abbrev cX1_test : ByteArray := prog_3_method_11_code
def yX1_test : MethodName := ⟨RX1, "test", "()Z"⟩
abbrev cX1_operand : ByteArray := prog_3_method_12_code
def yX1_operand : MethodName := ⟨RX1, "operand", "()Z"⟩
abbrev cX1_column : ByteArray := prog_3_method_13_code
def yX1_column : MethodName := ⟨RX1, "column", "(II)Z"⟩
abbrev cX1_number : ByteArray := prog_3_method_14_code
def yX1_number : MethodName := ⟨RX1, "number", "()Z"⟩
def RX2 : String := "RowPatterns$Longs"
def TX2 : u_T := fun k => match k with
  | 0 => ("RowPatterns$Longs", "values", "[J", true)
  | _ => ("RowPatterns$Longs", "size", "I", false)
def tyX2 : Nat → FieldType := fun k => match k with
  | 0 => .array .long
  | _ => .int
theorem nmX2 : ∀ a, a < 2 → ∀ b, b < 2 → a ≠ b → (TX2 a).2.1 ≠ (TX2 b).2.1 := by decide +kernel
theorem tyX2_ok : ∀ k, k < 2 → parseFieldDescriptor (TX2 k).2.2.1 = some (tyX2 k) := by decide +kernel
abbrev cX2_init : ByteArray := prog_4_method_1_code
def yX2_init : MethodName := ⟨RX2, "<init>", "()V"⟩
def RX3 : String := "RowPatterns$Matches"
def TX3 : u_T := fun k => match k with
  | 0 => ("RowPatterns$Matches", "starts", "[I", true)
  | 1 => ("RowPatterns$Matches", "ends", "[I", true)
  | 2 => ("RowPatterns$Matches", "letters", "[I", true)
  | _ => ("RowPatterns$Matches", "size", "I", false)
def tyX3 : Nat → FieldType := fun k => match k with
  | 0 => .array .int
  | 1 => .array .int
  | 2 => .array .int
  | _ => .int
theorem nmX3 : ∀ a, a < 4 → ∀ b, b < 4 → a ≠ b → (TX3 a).2.1 ≠ (TX3 b).2.1 := by decide +kernel
theorem tyX3_ok : ∀ k, k < 4 → parseFieldDescriptor (TX3 k).2.2.1 = some (tyX3 k) := by decide +kernel
abbrev cX3_init : ByteArray := prog_5_method_1_code
def yX3_init : MethodName := ⟨RX3, "<init>", "()V"⟩
abbrev cX3_has : ByteArray := prog_5_method_2_code
def yX3_has : MethodName := ⟨RX3, "has", "(I)Z"⟩
abbrev cX3_add : ByteArray := prog_5_method_3_code
def yX3_add : MethodName := ⟨RX3, "add", "(IILRowPatterns$Search;)V"⟩
abbrev cX3_startOf : ByteArray := prog_5_method_5_code
def yX3_startOf : MethodName := ⟨RX3, "startOf", "(I)I"⟩
abbrev cX3_rowsOf : ByteArray := prog_5_method_6_code
def yX3_rowsOf : MethodName := ⟨RX3, "rowsOf", "(I)I"⟩
abbrev cX3_letterOf : ByteArray := prog_5_method_7_code
def yX3_letterOf : MethodName := ⟨RX3, "letterOf", "(II)I"⟩
abbrev cX3_lettersOf : ByteArray := prog_5_method_8_code
def yX3_lettersOf : MethodName := ⟨RX3, "lettersOf", "(I)I"⟩
abbrev cX3_covering : ByteArray := prog_5_method_9_code
def yX3_covering : MethodName := ⟨RX3, "covering", "(I)I"⟩
def RX4 : String := "RowPatterns$Parts"
def TX4 : u_T := fun k => match k with
  | 0 => ("RowPatterns$Parts", "facts", "[I", true)
  | _ => ("RowPatterns$Parts", "count", "I", false)
def tyX4 : Nat → FieldType := fun k => match k with
  | 0 => .array .int
  | _ => .int
theorem nmX4 : ∀ a, a < 2 → ∀ b, b < 2 → a ≠ b → (TX4 a).2.1 ≠ (TX4 b).2.1 := by decide +kernel
theorem tyX4_ok : ∀ k, k < 2 → parseFieldDescriptor (TX4 k).2.2.1 = some (tyX4 k) := by decide +kernel
abbrev cX4_init : ByteArray := prog_6_method_1_code
def yX4_init : MethodName := ⟨RX4, "<init>", "(I)V"⟩
abbrev cX4_fact : ByteArray := prog_6_method_2_code
def yX4_fact : MethodName := ⟨RX4, "fact", "(II)I"⟩
abbrev cX4_note : ByteArray := prog_6_method_3_code
def yX4_note : MethodName := ⟨RX4, "note", "(III)V"⟩
abbrev cX4_add : ByteArray := prog_6_method_4_code
def yX4_add : MethodName := ⟨RX4, "add", "(III)I"⟩
abbrev cX4_addLeaf : ByteArray := prog_6_method_5_code
def yX4_addLeaf : MethodName := ⟨RX4, "addLeaf", "(II)I"⟩
abbrev cX4_addRepetition : ByteArray := prog_6_method_6_code
def yX4_addRepetition : MethodName := ⟨RX4, "addRepetition", "(IIII)I"⟩
abbrev cX4_link : ByteArray := prog_6_method_7_code
def yX4_link : MethodName := ⟨RX4, "link", "(II)V"⟩
def RX5 : String := "RowPatterns$PatternReader"
def TX5 : u_T := fun k => match k with
  | 0 => ("RowPatterns$PatternReader", "text", "LRowPatterns$Text;", true)
  | 1 => ("RowPatterns$PatternReader", "parts", "LRowPatterns$Parts;", true)
  | 2 => ("RowPatterns$PatternReader", "place", "I", false)
  | _ => ("RowPatterns$PatternReader", "fault", "I", false)
def tyX5 : Nat → FieldType := fun k => match k with
  | 0 => .object "RowPatterns$Text"
  | 1 => .object "RowPatterns$Parts"
  | 2 => .int
  | _ => .int
theorem nmX5 : ∀ a, a < 4 → ∀ b, b < 4 → a ≠ b → (TX5 a).2.1 ≠ (TX5 b).2.1 := by decide +kernel
theorem tyX5_ok : ∀ k, k < 4 → parseFieldDescriptor (TX5 k).2.2.1 = some (tyX5 k) := by decide +kernel
abbrev cX5_init : ByteArray := prog_7_method_1_code
def yX5_init : MethodName := ⟨RX5, "<init>", "(LRowPatterns$Text;)V"⟩
abbrev cX5_read : ByteArray := prog_7_method_2_code
def yX5_read : MethodName := ⟨RX5, "read", "()LRowPatterns$Parts;"⟩
abbrev cX5_failed : ByteArray := prog_7_method_3_code
def yX5_failed : MethodName := ⟨RX5, "failed", "(I)I"⟩
abbrev cX5_comes : ByteArray := prog_7_method_4_code
def yX5_comes : MethodName := ⟨RX5, "comes", "(I)Z"⟩
abbrev cX5_choice : ByteArray := prog_7_method_5_code
def yX5_choice : MethodName := ⟨RX5, "choice", "(I)I"⟩
abbrev cX5_sequence : ByteArray := prog_7_method_6_code
def yX5_sequence : MethodName := ⟨RX5, "sequence", "(I)I"⟩
abbrev cX5_atomComes : ByteArray := prog_7_method_7_code
def yX5_atomComes : MethodName := ⟨RX5, "atomComes", "(I)Z"⟩
abbrev cX5_piece : ByteArray := prog_7_method_8_code
def yX5_piece : MethodName := ⟨RX5, "piece", "(I)I"⟩
abbrev cX5_atom : ByteArray := prog_7_method_9_code
def yX5_atom : MethodName := ⟨RX5, "atom", "(I)I"⟩
abbrev cX5_bracketed : ByteArray := prog_7_method_10_code
def yX5_bracketed : MethodName := ⟨RX5, "bracketed", "(I)I"⟩
abbrev cX5_anyOrder : ByteArray := prog_7_method_11_code
def yX5_anyOrder : MethodName := ⟨RX5, "anyOrder", "(I)I"⟩
abbrev cX5_bounded : ByteArray := prog_7_method_12_code
def yX5_bounded : MethodName := ⟨RX5, "bounded", "(I)I"⟩
abbrev cX5_mostBehind : ByteArray := prog_7_method_13_code
def yX5_mostBehind : MethodName := ⟨RX5, "mostBehind", "(I)I"⟩
abbrev cX5_number : ByteArray := prog_7_method_14_code
def yX5_number : MethodName := ⟨RX5, "number", "()I"⟩
abbrev cX5_repeated : ByteArray := prog_7_method_15_code
def yX5_repeated : MethodName := ⟨RX5, "repeated", "(III)I"⟩
def RX6 : String := "RowPatterns$Search"
def TX6 : u_T := fun k => match k with
  | 0 => ("RowPatterns$Search", "now", "LRowPatterns$Situation;", true)
  | 1 => ("RowPatterns$Search", "letters", "[I", true)
  | 2 => ("RowPatterns$Search", "frames", "[I", false)
  | 3 => ("RowPatterns$Search", "frameCount", "I", false)
  | 4 => ("RowPatterns$Search", "options", "[I", false)
  | 5 => ("RowPatterns$Search", "optionCount", "I", false)
  | 6 => ("RowPatterns$Search", "start", "I", false)
  | 7 => ("RowPatterns$Search", "part", "I", false)
  | 8 => ("RowPatterns$Search", "up", "I", false)
  | 9 => ("RowPatterns$Search", "place", "I", false)
  | 10 => ("RowPatterns$Search", "tries", "I", false)
  | 11 => ("RowPatterns$Search", "ways", "I", false)
  | 12 => ("RowPatterns$Search", "fewest", "I", false)
  | _ => ("RowPatterns$Search", "most", "I", false)
def tyX6 : Nat → FieldType := fun k => match k with
  | 0 => .object "RowPatterns$Situation"
  | 1 => .array .int
  | 2 => .array .int
  | 3 => .int
  | 4 => .array .int
  | 5 => .int
  | 6 => .int
  | 7 => .int
  | 8 => .int
  | 9 => .int
  | 10 => .int
  | 11 => .int
  | 12 => .int
  | _ => .int
theorem nmX6 : ∀ a, a < 14 → ∀ b, b < 14 → a ≠ b → (TX6 a).2.1 ≠ (TX6 b).2.1 := by decide +kernel
theorem tyX6_ok : ∀ k, k < 14 → parseFieldDescriptor (TX6 k).2.2.1 = some (tyX6 k) := by decide +kernel
abbrev cX6_init : ByteArray := prog_8_method_1_code
def yX6_init : MethodName := ⟨RX6, "<init>", "(LRowPatterns$Situation;)V"⟩
abbrev cX6_letterAt : ByteArray := prog_8_method_2_code
def yX6_letterAt : MethodName := ⟨RX6, "letterAt", "(I)I"⟩
abbrev cX6_seek : ByteArray := prog_8_method_3_code
def yX6_seek : MethodName := ⟨RX6, "seek", "(II)I"⟩
abbrev cX6_begin : ByteArray := prog_8_method_4_code
def yX6_begin : MethodName := ⟨RX6, "begin", "(II)V"⟩
abbrev cX6_noteWay : ByteArray := prog_8_method_5_code
def yX6_noteWay : MethodName := ⟨RX6, "noteWay", "()V"⟩
abbrev cX6_mayTry : ByteArray := prog_8_method_6_code
def yX6_mayTry : MethodName := ⟨RX6, "mayTry", "()Z"⟩
abbrev cX6_come : ByteArray := prog_8_method_7_code
def yX6_come : MethodName := ⟨RX6, "come", "(LRowPatterns$Parts;)I"⟩
abbrev cX6_goOn : ByteArray := prog_8_method_8_code
def yX6_goOn : MethodName := ⟨RX6, "goOn", "(LRowPatterns$Parts;)I"⟩
abbrev cX6_goBack : ByteArray := prog_8_method_9_code
def yX6_goBack : MethodName := ⟨RX6, "goBack", "(LRowPatterns$Parts;)I"⟩
abbrev cX6_takeLetter : ByteArray := prog_8_method_10_code
def yX6_takeLetter : MethodName := ⟨RX6, "takeLetter", "(I)I"⟩
abbrev cX6_comeWithin : ByteArray := prog_8_method_11_code
def yX6_comeWithin : MethodName := ⟨RX6, "comeWithin", "(LRowPatterns$Parts;I)I"⟩
abbrev cX6_choose : ByteArray := prog_8_method_12_code
def yX6_choose : MethodName := ⟨RX6, "choose", "(LRowPatterns$Parts;I)I"⟩
abbrev cX6_repeat : ByteArray := prog_8_method_13_code
def yX6_repeat : MethodName := ⟨RX6, "repeat", "(LRowPatterns$Parts;II)I"⟩
abbrev cX6_onceMore : ByteArray := prog_8_method_14_code
def yX6_onceMore : MethodName := ⟨RX6, "onceMore", "(LRowPatterns$Parts;I)I"⟩
abbrev cX6_order : ByteArray := prog_8_method_15_code
def yX6_order : MethodName := ⟨RX6, "order", "(LRowPatterns$Parts;II)I"⟩
abbrev cX6_notDone : ByteArray := prog_8_method_16_code
def yX6_notDone : MethodName := ⟨RX6, "notDone", "(III)I"⟩
abbrev cX6_pushFrame : ByteArray := prog_8_method_17_code
def yX6_pushFrame : MethodName := ⟨RX6, "pushFrame", "(I)V"⟩
abbrev cX6_frameFact : ByteArray := prog_8_method_18_code
def yX6_frameFact : MethodName := ⟨RX6, "frameFact", "(II)I"⟩
abbrev cX6_pushOption : ByteArray := prog_8_method_19_code
def yX6_pushOption : MethodName := ⟨RX6, "pushOption", "(I)V"⟩
abbrev cX6_optionFact : ByteArray := prog_8_method_20_code
def yX6_optionFact : MethodName := ⟨RX6, "optionFact", "(I)I"⟩
abbrev cX6_earliest : ByteArray := prog_8_method_22_code
def yX6_earliest : MethodName := ⟨RX6, "earliest", "(II)I"⟩
abbrev cX6_latest : ByteArray := prog_8_method_23_code
def yX6_latest : MethodName := ⟨RX6, "latest", "(II)I"⟩
abbrev cX6_count : ByteArray := prog_8_method_24_code
def yX6_count : MethodName := ⟨RX6, "count", "(II)I"⟩
abbrev cX6_sum : ByteArray := prog_8_method_25_code
def yX6_sum : MethodName := ⟨RX6, "sum", "(III)I"⟩
def RX7 : String := "RowPatterns$Situation"
def TX7 : u_T := fun k => match k with
  | 0 => ("RowPatterns$Situation", "table", "LRowPatterns$Table;", true)
  | 1 => ("RowPatterns$Situation", "conditions", "[LRowPatterns$Condition;", true)
  | 2 => ("RowPatterns$Situation", "parts", "LRowPatterns$Parts;", false)
  | 3 => ("RowPatterns$Situation", "matches", "LRowPatterns$Matches;", false)
  | 4 => ("RowPatterns$Situation", "mode", "I", false)
  | 5 => ("RowPatterns$Situation", "modeLetter", "I", false)
  | 6 => ("RowPatterns$Situation", "empties", "I", false)
  | _ => ("RowPatterns$Situation", "may", "I", false)
def tyX7 : Nat → FieldType := fun k => match k with
  | 0 => .object "RowPatterns$Table"
  | 1 => .array (.object "RowPatterns$Condition")
  | 2 => .object "RowPatterns$Parts"
  | 3 => .object "RowPatterns$Matches"
  | 4 => .int
  | 5 => .int
  | 6 => .int
  | _ => .int
theorem nmX7 : ∀ a, a < 8 → ∀ b, b < 8 → a ≠ b → (TX7 a).2.1 ≠ (TX7 b).2.1 := by decide +kernel
theorem tyX7_ok : ∀ k, k < 8 → parseFieldDescriptor (TX7 k).2.2.1 = some (tyX7 k) := by decide +kernel
abbrev cX7_init : ByteArray := prog_9_method_1_code
def yX7_init : MethodName := ⟨RX7, "<init>", "()V"⟩
abbrev cX7_lettersWithCondition : ByteArray := prog_9_method_3_code
def yX7_lettersWithCondition : MethodName := ⟨RX7, "lettersWithCondition", "()I"⟩
def RX8 : String := "RowPatterns$Table"
def TX8 : u_T := fun k => match k with
  | 0 => ("RowPatterns$Table", "cells", "[I", true)
  | _ => ("RowPatterns$Table", "size", "I", false)
def tyX8 : Nat → FieldType := fun k => match k with
  | 0 => .array .int
  | _ => .int
theorem nmX8 : ∀ a, a < 2 → ∀ b, b < 2 → a ≠ b → (TX8 a).2.1 ≠ (TX8 b).2.1 := by decide +kernel
theorem tyX8_ok : ∀ k, k < 2 → parseFieldDescriptor (TX8 k).2.2.1 = some (tyX8 k) := by decide +kernel
abbrev cX8_init : ByteArray := prog_10_method_1_code
def yX8_init : MethodName := ⟨RX8, "<init>", "()V"⟩
abbrev cX8_hasRow : ByteArray := prog_10_method_2_code
def yX8_hasRow : MethodName := ⟨RX8, "hasRow", "(I)Z"⟩
abbrev cX8_number : ByteArray := prog_10_method_3_code
def yX8_number : MethodName := ⟨RX8, "number", "(II)I"⟩
abbrev cX8_write : ByteArray := prog_10_method_4_code
def yX8_write : MethodName := ⟨RX8, "write", "(III)V"⟩
def RX9 : String := "RowPatterns$Text"
def TX9 : u_T := fun k => match k with
  | 0 => ("RowPatterns$Text", "bytes", "[I", true)
  | _ => ("RowPatterns$Text", "size", "I", false)
def tyX9 : Nat → FieldType := fun k => match k with
  | 0 => .array .int
  | _ => .int
theorem nmX9 : ∀ a, a < 2 → ∀ b, b < 2 → a ≠ b → (TX9 a).2.1 ≠ (TX9 b).2.1 := by decide +kernel
theorem tyX9_ok : ∀ k, k < 2 → parseFieldDescriptor (TX9 k).2.2.1 = some (tyX9 k) := by decide +kernel
abbrev cX9_init : ByteArray := prog_11_method_1_code
def yX9_init : MethodName := ⟨RX9, "<init>", "()V"⟩
abbrev cX9_add : ByteArray := prog_11_method_2_code
def yX9_add : MethodName := ⟨RX9, "add", "(I)Z"⟩
abbrev cX9_at : ByteArray := prog_11_method_3_code
def yX9_at : MethodName := ⟨RX9, "at", "(I)I"⟩
abbrev cX9_empty : ByteArray := prog_11_method_4_code
def yX9_empty : MethodName := ⟨RX9, "empty", "()I"⟩
def RX10 : String := "RowPatterns"
def TX10 : u_T := fun k => match k with
  | 0 => ("RowPatterns", "now", "LRowPatterns$Situation;", true)
  | 1 => ("RowPatterns", "search", "LRowPatterns$Search;", true)
  | 2 => ("RowPatterns", "tape", "LRowPatterns$Text;", true)
  | 3 => ("RowPatterns", "sheet", "LRowPatterns$Text;", true)
  | 4 => ("RowPatterns", "lists", "[LRowPatterns$Longs;", true)
  | 5 => ("RowPatterns", "spare", "LRowPatterns$Matches;", false)
  | _ => ("RowPatterns", "kept", "LRowPatterns$Situation;", false)
def tyX10 : Nat → FieldType := fun k => match k with
  | 0 => .object "RowPatterns$Situation"
  | 1 => .object "RowPatterns$Search"
  | 2 => .object "RowPatterns$Text"
  | 3 => .object "RowPatterns$Text"
  | 4 => .array (.object "RowPatterns$Longs")
  | 5 => .object "RowPatterns$Matches"
  | _ => .object "RowPatterns$Situation"
theorem nmX10 : ∀ a, a < 7 → ∀ b, b < 7 → a ≠ b → (TX10 a).2.1 ≠ (TX10 b).2.1 := by decide +kernel
theorem tyX10_ok : ∀ k, k < 7 → parseFieldDescriptor (TX10 k).2.2.1 = some (tyX10 k) := by decide +kernel
abbrev cX10_init : ByteArray := prog_1_method_1_code
def yX10_init : MethodName := ⟨RX10, "<init>", "()V"⟩
abbrev cX10_row : ByteArray := prog_1_method_2_code
def yX10_row : MethodName := ⟨RX10, "row", "(II)I"⟩
abbrev cX10_feed : ByteArray := prog_1_method_6_code
def yX10_feed : MethodName := ⟨RX10, "feed", "(I)I"⟩
abbrev cX10_pattern : ByteArray := prog_1_method_8_code
def yX10_pattern : MethodName := ⟨RX10, "pattern", "()I"⟩
abbrev cX10_define : ByteArray := prog_1_method_9_code
def yX10_define : MethodName := ⟨RX10, "define", "()I"⟩
abbrev cX10_mode : ByteArray := prog_1_method_13_code
def yX10_mode : MethodName := ⟨RX10, "mode", "(II)I"⟩
abbrev cX10_empties : ByteArray := prog_1_method_14_code
def yX10_empties : MethodName := ⟨RX10, "empties", "(I)I"⟩
abbrev cX10_may : ByteArray := prog_1_method_15_code
def yX10_may : MethodName := ⟨RX10, "may", "(I)I"⟩
abbrev cX10_first : ByteArray := prog_1_method_17_code
def yX10_first : MethodName := ⟨RX10, "first", "(I)I"⟩
abbrev cX10_tries : ByteArray := prog_1_method_18_code
def yX10_tries : MethodName := ⟨RX10, "tries", "(I)I"⟩
abbrev cX10_way : ByteArray := prog_1_method_19_code
def yX10_way : MethodName := ⟨RX10, "way", "(II)I"⟩
abbrev cX10_ways : ByteArray := prog_1_method_20_code
def yX10_ways : MethodName := ⟨RX10, "ways", "(I)I"⟩
abbrev cX10_spans : ByteArray := prog_1_method_21_code
def yX10_spans : MethodName := ⟨RX10, "spans", "(II)I"⟩
abbrev cX10_fits : ByteArray := prog_1_method_22_code
def yX10_fits : MethodName := ⟨RX10, "fits", "(II)I"⟩
abbrev cX10_run : ByteArray := prog_1_method_23_code
def yX10_run : MethodName := ⟨RX10, "run", "()I"⟩
abbrev cX10_match : ByteArray := prog_1_method_24_code
def yX10_match : MethodName := ⟨RX10, "match", "(II)I"⟩
abbrev cX10_label : ByteArray := prog_1_method_25_code
def yX10_label : MethodName := ⟨RX10, "label", "(II)I"⟩
abbrev cX10_covered : ByteArray := prog_1_method_27_code
def yX10_covered : MethodName := ⟨RX10, "covered", "(I)I"⟩
abbrev cX10_told : ByteArray := prog_1_method_28_code
def yX10_told : MethodName := ⟨RX10, "told", "(I)I"⟩
abbrev cX10_startBehind : ByteArray := prog_1_method_37_code
def yX10_startBehind : MethodName := ⟨RX10, "startBehind", "(I)I"⟩
abbrev cX10_rowsInNoMatch : ByteArray := prog_1_method_38_code
def yX10_rowsInNoMatch : MethodName := ⟨RX10, "rowsInNoMatch", "()I"⟩
abbrev cX10_isCell : ByteArray := prog_1_method_40_code
def yX10_isCell : MethodName := ⟨RX10, "isCell", "(I)Z"⟩
abbrev cX10_isLetter : ByteArray := prog_1_method_42_code
def yX10_isLetter : MethodName := ⟨RX10, "isLetter", "(I)Z"⟩
def RX11 : String := "RowPatternsModel"
def RJx145de : String := "java/io/Serializable"
def RJ5 : String := "java/lang/AbstractStringBuilder"
abbrev cJ5_init_d00df : ByteArray := prog_14_method_2_code
def yJ5_init_d00df : MethodName := ⟨RJ5, "<init>", "(I)V"⟩
abbrev cJ5_length_8abf5 : ByteArray := prog_14_method_6_code
def yJ5_length_8abf5 : MethodName := ⟨RJ5, "length", "()I"⟩
abbrev cJ5_ensureCapacityInternal_d00df : ByteArray := prog_14_method_9_code
def yJ5_ensureCapacityInternal_d00df : MethodName := ⟨RJ5, "ensureCapacityInternal", "(I)V"⟩
abbrev cJ5_newCapacity_0f7a4 : ByteArray := prog_14_method_10_code
def yJ5_newCapacity_0f7a4 : MethodName := ⟨RJ5, "newCapacity", "(I)I"⟩
abbrev cJ5_inflate_da8c8 : ByteArray := prog_14_method_11_code
def yJ5_inflate_da8c8 : MethodName := ⟨RJ5, "inflate", "()V"⟩
abbrev cJ5_append_cf1ce : ByteArray := prog_14_method_22_code
def yJ5_append_cf1ce : MethodName := ⟨RJ5, "append", "(Ljava/lang/String;)Ljava/lang/AbstractStringBuilder;"⟩
abbrev cJ5_appendNull_278bc : ByteArray := prog_14_method_26_code
def yJ5_appendNull_278bc : MethodName := ⟨RJ5, "appendNull", "()Ljava/lang/AbstractStringBuilder;"⟩
abbrev cJ5_append_3fe6f : ByteArray := prog_14_method_31_code
def yJ5_append_3fe6f : MethodName := ⟨RJ5, "append", "(C)Ljava/lang/AbstractStringBuilder;"⟩
abbrev cJ5_append_c97b9 : ByteArray := prog_14_method_32_code
def yJ5_append_c97b9 : MethodName := ⟨RJ5, "append", "(I)Ljava/lang/AbstractStringBuilder;"⟩
abbrev cJ5_getValue_6d5f1 : ByteArray := prog_14_method_64_code
def yJ5_getValue_6d5f1 : MethodName := ⟨RJ5, "getValue", "()[B"⟩
abbrev cJ5_isLatin1_aae02 : ByteArray := prog_14_method_68_code
def yJ5_isLatin1_aae02 : MethodName := ⟨RJ5, "isLatin1", "()Z"⟩
abbrev cJ5_inflateIfNeededFor_a7421 : ByteArray := prog_14_method_71_code
def yJ5_inflateIfNeededFor_a7421 : MethodName := ⟨RJ5, "inflateIfNeededFor", "(Ljava/lang/String;)V"⟩
abbrev cJ5_putStringAt_47b60 : ByteArray := prog_14_method_73_code
def yJ5_putStringAt_47b60 : MethodName := ⟨RJ5, "putStringAt", "(ILjava/lang/String;)V"⟩
def RJx2cfe8 : String := "java/lang/Appendable"
def RJx9f9b0 : String := "java/lang/CharSequence"
def RJx8e188 : String := "java/lang/Cloneable"
def RJxb160c : String := "java/lang/Comparable"
def RJ6 : String := "java/lang/Integer"
abbrev cJ6_getChars_ba4f3 : ByteArray := prog_16_method_12_code
def yJ6_getChars_ba4f3 : MethodName := ⟨RJ6, "getChars", "(II[B)I"⟩
abbrev cJ6_stringSize_0f7a4 : ByteArray := prog_16_method_13_code
def yJ6_stringSize_0f7a4 : MethodName := ⟨RJ6, "stringSize", "(I)I"⟩
abbrev cJ6_bitCount_0f7a4 : ByteArray := prog_16_method_49_code
def yJ6_bitCount_0f7a4 : MethodName := ⟨RJ6, "bitCount", "(I)I"⟩
def RJ9 : String := "java/lang/Math"
abbrev cJ9_max_7cf53 : ByteArray := prog_17_method_65_code
def yJ9_max_7cf53 : MethodName := ⟨RJ9, "max", "(II)I"⟩
abbrev cJ9_min_7cf53 : ByteArray := prog_17_method_69_code
def yJ9_min_7cf53 : MethodName := ⟨RJ9, "min", "(II)I"⟩
def RJxd2413 : String := "java/lang/Number"
def RJ0 : String := "java/lang/String"
def TJ0 : u_T := fun k => match k with
  | 0 => ("java/lang/String", "value", "[B", true)
  | 1 => ("java/lang/String", "coder", "B", true)
  | 2 => ("java/lang/String", "hash", "I", false)
  | _ => ("java/lang/String", "hashIsZero", "Z", false)
def tyJ0 : Nat → FieldType := fun k => match k with
  | 0 => .array .byte
  | 1 => .byte
  | 2 => .int
  | _ => .boolean
theorem nmJ0 : ∀ a, a < 4 → ∀ b, b < 4 → a ≠ b → (TJ0 a).2.1 ≠ (TJ0 b).2.1 := by decide +kernel
theorem tyJ0_ok : ∀ k, k < 4 → parseFieldDescriptor (TJ0 k).2.2.1 = some (tyJ0 k) := by decide +kernel
abbrev cJ0_init_81219 : ByteArray := prog_19_method_53_code
def yJ0_init_81219 : MethodName := ⟨RJ0, "<init>", "(Ljava/lang/StringBuilder;)V"⟩
abbrev cJ0_length_8abf5 : ByteArray := prog_19_method_54_code
def yJ0_length_8abf5 : MethodName := ⟨RJ0, "length", "()I"⟩
abbrev cJ0_charAt_5068e : ByteArray := prog_19_method_56_code
def yJ0_charAt_5068e : MethodName := ⟨RJ0, "charAt", "(I)C"⟩
abbrev cJ0_getBytes_840e7 : ByteArray := prog_19_method_147_code
def yJ0_getBytes_840e7 : MethodName := ⟨RJ0, "getBytes", "([BIB)V"⟩
abbrev cJ0_init_db425 : ByteArray := prog_19_method_150_code
def yJ0_init_db425 : MethodName := ⟨RJ0, "<init>", "(Ljava/lang/AbstractStringBuilder;Ljava/lang/Void;)V"⟩
abbrev cJ0_coder_7d493 : ByteArray := prog_19_method_152_code
def yJ0_coder_7d493 : MethodName := ⟨RJ0, "coder", "()B"⟩
abbrev cJ0_isLatin1_aae02 : ByteArray := prog_19_method_154_code
def yJ0_isLatin1_aae02 : MethodName := ⟨RJ0, "isLatin1", "()Z"⟩
abbrev cJ0_checkIndex_df160 : ByteArray := prog_19_method_155_code
def yJ0_checkIndex_df160 : MethodName := ⟨RJ0, "checkIndex", "(II)V"⟩
abbrev cJ0_checkBoundsOffCount_cabcc : ByteArray := prog_19_method_157_code
def yJ0_checkBoundsOffCount_cabcc : MethodName := ⟨RJ0, "checkBoundsOffCount", "(III)I"⟩
abbrev cJ0_checkBoundsBeginEnd_23922 : ByteArray := prog_19_method_158_code
def yJ0_checkBoundsBeginEnd_23922 : MethodName := ⟨RJ0, "checkBoundsBeginEnd", "(III)V"⟩
def RJ4 : String := "java/lang/StringBuilder"
def TJ4 : u_T := fun k => match k with
  | 0 => ("java/lang/AbstractStringBuilder", "value", "[B", false)
  | 1 => ("java/lang/AbstractStringBuilder", "coder", "B", false)
  | 2 => ("java/lang/AbstractStringBuilder", "maybeLatin1", "Z", false)
  | _ => ("java/lang/AbstractStringBuilder", "count", "I", false)
def tyJ4 : Nat → FieldType := fun k => match k with
  | 0 => .array .byte
  | 1 => .byte
  | 2 => .boolean
  | _ => .int
theorem nmJ4 : ∀ a, a < 4 → ∀ b, b < 4 → a ≠ b → (TJ4 a).2.1 ≠ (TJ4 b).2.1 := by decide +kernel
theorem tyJ4_ok : ∀ k, k < 4 → parseFieldDescriptor (TJ4 k).2.2.1 = some (tyJ4 k) := by decide +kernel
abbrev cJ4_init_da8c8 : ByteArray := prog_20_method_1_code
def yJ4_init_da8c8 : MethodName := ⟨RJ4, "<init>", "()V"⟩
abbrev cJ4_append_15ec4 : ByteArray := prog_20_method_7_code
def yJ4_append_15ec4 : MethodName := ⟨RJ4, "append", "(Ljava/lang/String;)Ljava/lang/StringBuilder;"⟩
abbrev cJ4_append_cf468 : ByteArray := prog_20_method_14_code
def yJ4_append_cf468 : MethodName := ⟨RJ4, "append", "(C)Ljava/lang/StringBuilder;"⟩
abbrev cJ4_append_bf812 : ByteArray := prog_20_method_15_code
def yJ4_append_bf812 : MethodName := ⟨RJ4, "append", "(I)Ljava/lang/StringBuilder;"⟩
abbrev cJ4_toString_0e30d : ByteArray := prog_20_method_42_code
def yJ4_toString_0e30d : MethodName := ⟨RJ4, "toString", "()Ljava/lang/String;"⟩
abbrev cJ4_length_8abf5 : ByteArray := prog_20_method_93_code
def yJ4_length_8abf5 : MethodName := ⟨RJ4, "length", "()I"⟩
def RJ1 : String := "java/lang/StringLatin1"
abbrev cJ1_charAt_3b067 : ByteArray := prog_21_method_2_code
def yJ1_charAt_3b067 : MethodName := ⟨RJ1, "charAt", "([BI)C"⟩
abbrev cJ1_canEncode_fc78d : ByteArray := prog_21_method_3_code
def yJ1_canEncode_fc78d : MethodName := ⟨RJ1, "canEncode", "(C)Z"⟩
abbrev cJ1_inflate_0e8fd : ByteArray := prog_21_method_50_code
def yJ1_inflate_0e8fd : MethodName := ⟨RJ1, "inflate", "([BI[BII)V"⟩
def RJ2 : String := "java/lang/StringUTF16"
abbrev cJ2_newBytesFor_77867 : ByteArray := prog_22_method_2_code
def yJ2_newBytesFor_77867 : MethodName := ⟨RJ2, "newBytesFor", "(I)[B"⟩
abbrev cJ2_newBytesLength_0f7a4 : ByteArray := prog_22_method_3_code
def yJ2_newBytesLength_0f7a4 : MethodName := ⟨RJ2, "newBytesLength", "(I)I"⟩
abbrev cJ2_putChar_b72d1 : ByteArray := prog_22_method_4_code
def yJ2_putChar_b72d1 : MethodName := ⟨RJ2, "putChar", "([BII)V"⟩
abbrev cJ2_getChar_3b067 : ByteArray := prog_22_method_5_code
def yJ2_getChar_3b067 : MethodName := ⟨RJ2, "getChar", "([BI)C"⟩
abbrev cJ2_length_9d52b : ByteArray := prog_22_method_6_code
def yJ2_length_9d52b : MethodName := ⟨RJ2, "length", "([B)I"⟩
abbrev cJ2_coderFromArrayLen_85cad : ByteArray := prog_22_method_15_code
def yJ2_coderFromArrayLen_85cad : MethodName := ⟨RJ2, "coderFromArrayLen", "([BI)B"⟩
abbrev cJ2_compress_39247 : ByteArray := prog_22_method_17_code
def yJ2_compress_39247 : MethodName := ⟨RJ2, "compress", "([BII)[B"⟩
abbrev cJ2_compress_5af95 : ByteArray := prog_22_method_22_code
def yJ2_compress_5af95 : MethodName := ⟨RJ2, "compress", "([BI[BII)I"⟩
abbrev cJ2_putCharSB_b72d1 : ByteArray := prog_22_method_71_code
def yJ2_putCharSB_b72d1 : MethodName := ⟨RJ2, "putCharSB", "([BII)V"⟩
abbrev cJ2_getChars_46870 : ByteArray := prog_22_method_77_code
def yJ2_getChars_46870 : MethodName := ⟨RJ2, "getChars", "(III[B)I"⟩
abbrev cJ2_putCharsAt_cd4e5 : ByteArray := prog_22_method_81_code
def yJ2_putCharsAt_cd4e5 : MethodName := ⟨RJ2, "putCharsAt", "([BICCCC)I"⟩
abbrev cJ2_charAt_3b067 : ByteArray := prog_22_method_83_code
def yJ2_charAt_3b067 : MethodName := ⟨RJ2, "charAt", "([BI)C"⟩
abbrev cJ2_inflate_0e8fd : ByteArray := prog_22_method_86_code
def yJ2_inflate_0e8fd : MethodName := ⟨RJ2, "inflate", "([BI[BII)V"⟩
abbrev cJ2_getChars_ba4f3 : ByteArray := prog_22_method_89_code
def yJ2_getChars_ba4f3 : MethodName := ⟨RJ2, "getChars", "(II[B)I"⟩
abbrev cJ2_checkIndex_2214a : ByteArray := prog_22_method_91_code
def yJ2_checkIndex_2214a : MethodName := ⟨RJ2, "checkIndex", "(I[B)V"⟩
abbrev cJ2_checkBoundsBeginEnd_d044e : ByteArray := prog_22_method_93_code
def yJ2_checkBoundsBeginEnd_d044e : MethodName := ⟨RJ2, "checkBoundsBeginEnd", "(II[B)V"⟩
abbrev cJ2_checkBoundsOffCount_d044e : ByteArray := prog_22_method_94_code
def yJ2_checkBoundsOffCount_d044e : MethodName := ⟨RJ2, "checkBoundsOffCount", "(II[B)V"⟩
def RJ10 : String := "java/lang/System"
def RJxfd54e : String := "java/lang/constant/Constable"
def RJx3cf43 : String := "java/lang/constant/ConstantDesc"
def RJ7 : String := "java/util/Arrays"
abbrev cJ7_copyOf_9075b : ByteArray := prog_24_method_121_code
def yJ7_copyOf_9075b : MethodName := ⟨RJ7, "copyOf", "([BI)[B"⟩
abbrev cJ7_copyOf_59c91 : ByteArray := prog_24_method_123_code
def yJ7_copyOf_59c91 : MethodName := ⟨RJ7, "copyOf", "([II)[I"⟩
abbrev cJ7_checkLength_df160 : ByteArray := prog_24_method_131_code
def yJ7_checkLength_df160 : MethodName := ⟨RJ7, "checkLength", "(II)V"⟩
abbrev cJ7_copyOfRange_39247 : ByteArray := prog_24_method_132_code
def yJ7_copyOfRange_39247 : MethodName := ⟨RJ7, "copyOfRange", "([BII)[B"⟩
abbrev cJ7_copyOfRangeByte_39247 : ByteArray := prog_24_method_133_code
def yJ7_copyOfRangeByte_39247 : MethodName := ⟨RJ7, "copyOfRangeByte", "([BII)[B"⟩
def RJ8 : String := "jdk/internal/util/ArraysSupport"
abbrev cJ8_newLength_cabcc : ByteArray := prog_25_method_27_code
def yJ8_newLength_cabcc : MethodName := ⟨RJ8, "newLength", "(III)I"⟩
abbrev cJ8_hugeLength_7cf53 : ByteArray := prog_25_method_28_code
def yJ8_hugeLength_7cf53 : MethodName := ⟨RJ8, "hugeLength", "(II)I"⟩
def RJ3 : String := "jdk/internal/util/Preconditions"
abbrev cJ3_checkIndex_8e157 : ByteArray := prog_26_method_11_code
def yJ3_checkIndex_8e157 : MethodName := ⟨RJ3, "checkIndex", "(IILjava/util/function/BiFunction;)I"⟩
abbrev cJ3_checkFromToIndex_8c36e : ByteArray := prog_26_method_12_code
def yJ3_checkFromToIndex_8c36e : MethodName := ⟨RJ3, "checkFromToIndex", "(IIILjava/util/function/BiFunction;)I"⟩
abbrev cJ3_checkFromIndexSize_8c36e : ByteArray := prog_26_method_13_code
def yJ3_checkFromIndexSize_8c36e : MethodName := ⟨RJ3, "checkFromIndexSize", "(IIILjava/util/function/BiFunction;)I"⟩
def RL : String := "RowPatternsLaw"
abbrev cL_cell : ByteArray := method_2_code
def yL_cell : MethodName := ⟨RL, "cell", "([II)I"⟩
abbrev cL_pick : ByteArray := method_3_code
def yL_pick : MethodName := ⟨RL, "pick", "([III)I"⟩
abbrev cL_rows : ByteArray := method_4_code
def yL_rows : MethodName := ⟨RL, "rows", "([III)[[I"⟩
abbrev cL_tell : ByteArray := method_5_code
def yL_tell : MethodName := ⟨RL, "tell", "(LRowPatterns;[[I)Z"⟩
abbrev cL_feed : ByteArray := method_6_code
def yL_feed : MethodName := ⟨RL, "feed", "(LRowPatterns;Ljava/lang/String;)Z"⟩
abbrev cL_told : ByteArray := method_7_code
def yL_told : MethodName := ⟨RL, "told", "(I)Ljava/lang/String;"⟩
abbrev cL_value : ByteArray := method_8_code
def yL_value : MethodName := ⟨RL, "value", "([[III)I"⟩
abbrev cL_isLess : ByteArray := method_9_code
def yL_isLess : MethodName := ⟨RL, "isLess", "(II)Z"⟩
abbrev cL_isLike : ByteArray := method_10_code
def yL_isLike : MethodName := ⟨RL, "isLike", "(II)Z"⟩
abbrev cL_lettered : ByteArray := method_11_code
def yL_lettered : MethodName := ⟨RL, "lettered", "([IIIIZ)I"⟩
abbrev cL_summed : ByteArray := method_12_code
def yL_summed : MethodName := ⟨RL, "summed", "([[I[IIIII)I"⟩
abbrev cL_isHeld : ByteArray := method_13_code
def yL_isHeld : MethodName := ⟨RL, "isHeld", "(I[[I[III)Z"⟩
abbrev cL_conditions : ByteArray := method_14_code
def yL_conditions : MethodName := ⟨RL, "conditions", "(LRowPatterns;[II)[I"⟩
abbrev cL_make : ByteArray := method_15_code
def yL_make : MethodName := ⟨RL, "make", "([II[[II)I"⟩
abbrev cL_spelled : ByteArray := method_16_code
def yL_spelled : MethodName := ⟨RL, "spelled", "([[II)Ljava/lang/String;"⟩
abbrev cL_pattern : ByteArray := method_17_code
def yL_pattern : MethodName := ⟨RL, "pattern", "(LRowPatterns;[II)[[I"⟩
abbrev cL_law : ByteArray := code
def yL_law : MethodName := ⟨RL, "law", "([I)Z"⟩
/-- a private method of the builder's superclass, called on a builder -/
theorem sel_priv {C : String} {x y : MethodName} {s : State} {args : Array Value} (h0 : (Cond.selects C x x).before args s = true) (hx : x.cls = y.cls) (hy : y.cls ≠ "java/lang/invoke/MethodHandle" ∧ y.cls ≠ "java/lang/invoke/VarHandle") (hpriv : (Cond.privateMethod y).before args s = true) (hinst : (Cond.instanceMethod y).before args s = true) : (Cond.selects C y y).before args s = true := by
  obtain ⟨c, r, m, hc, hr, hm, -, mk', hmk, hni⟩ := Cond.selects_spec h0
  obtain ⟨mk, methM, hnamed, hmethM, -, -⟩ := Cond.instanceMethod_spec hinst
  have hfound : s.methodFound? y.cls y.name y.desc = some mk := State.methodFound?_of_named hnamed hy
  have hcls : mk.cls = m.cls := Option.some.inj ((findClass_of_methodNamed hnamed).symm.trans (by rw [← hx]; exact findClass_of_methodNamed hm))
  have hsel : selectMethod {} s.vm c mk = .method mk := selectMethod_private hmethM (Cond.privateMethod_at hpriv mk methM hnamed hmethM)
  simp only [Cond.before, Cond.holds, Cond.value, hc, hfound, hnamed, hsel, hcls, hmk]
  simp
  exact hni
def asbM : List MethodName := [yJ5_ensureCapacityInternal_d00df, yJ5_newCapacity_0f7a4, yJ5_putStringAt_47b60, yJ5_inflateIfNeededFor_a7421]
def lw_tb2 : List Cond := asbM.map (fun y => Cond.selects RJ4 y y) ++ lw_tbl

def lwg : List Cond := lw_tb2.filter goodWord
theorem wm (i : Nat) {w : Cond} (h : lw_tb2[i]? = some w ∧ goodWord w = true) : w ∈ lwg := List.mem_filter.mpr ⟨List.mem_of_getElem? h.1, h.2⟩
theorem lwg_good {y : Cond} (hy : y ∈ lwg) : GoodIn lwg (y :: lwg) := by
  have h : ∀ w ∈ lwg, w ∈ lwg ∧ ((w.onTables && w.keeps) = true ∨ ∃ ty, w = .arrayClass ty) := fun w hw => ⟨hw, good_of_word (List.mem_filter.mp hw).2⟩
  intro w hw
  rcases List.mem_cons.mp hw with rfl | hw
  · exact h _ hy
  · exact h _ hw
