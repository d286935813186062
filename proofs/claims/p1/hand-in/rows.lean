section
-- ===== PART A: goes FIRST, ahead of the names: the tables' words, and 'selects' of the private methods out of them =====
/-- a private method of a class that the tables say can be made, by its rows of tables_1 -/
def lw_okq (q : MethodName × Nat) : Prop := (q.1.cls ≠ "java/lang/invoke/MethodHandle" ∧ q.1.cls ≠ "java/lang/invoke/VarHandle") ∧ Cond.instantiable q.1.cls q.2 ∈ tables_1 ∧ Cond.privateMethod q.1 ∈ tables_1 ∧ Cond.instanceMethod q.1 ∈ tables_1
theorem lw_p0 : lw_okq (⟨"GrammarStream", "makeRows", "()V"⟩, 10) := ⟨⟨by decide +kernel, by decide +kernel⟩, List.mem_of_getElem? (i := 18) (by decide +kernel), List.mem_of_getElem? (i := 69) (by decide +kernel), List.mem_of_getElem? (i := 70) (by decide +kernel)⟩
theorem lw_p1 : lw_okq (⟨"GrammarStream$TextReader", "start", "([II)V"⟩, 11) := ⟨⟨by decide +kernel, by decide +kernel⟩, List.mem_of_getElem? (i := 73) (by decide +kernel), List.mem_of_getElem? (i := 390) (by decide +kernel), List.mem_of_getElem? (i := 391) (by decide +kernel)⟩
theorem lw_p2 : lw_okq (⟨"GrammarStream$TextReader", "peek", "()I"⟩, 11) := ⟨⟨by decide +kernel, by decide +kernel⟩, List.mem_of_getElem? (i := 73) (by decide +kernel), List.mem_of_getElem? (i := 408) (by decide +kernel), List.mem_of_getElem? (i := 409) (by decide +kernel)⟩
theorem lw_p3 : lw_okq (⟨"GrammarStream$TextReader", "readToken", "(Z)Z"⟩, 11) := ⟨⟨by decide +kernel, by decide +kernel⟩, List.mem_of_getElem? (i := 73) (by decide +kernel), List.mem_of_getElem? (i := 415) (by decide +kernel), List.mem_of_getElem? (i := 416) (by decide +kernel)⟩
theorem lw_p4 : lw_okq (⟨"GrammarStream$TextReader", "passName", "()Z"⟩, 11) := ⟨⟨by decide +kernel, by decide +kernel⟩, List.mem_of_getElem? (i := 73) (by decide +kernel), List.mem_of_getElem? (i := 419) (by decide +kernel), List.mem_of_getElem? (i := 420) (by decide +kernel)⟩
theorem lw_p5 : lw_okq (⟨"GrammarStream$TextReader", "numberOfToken", "(IIZ)I"⟩, 11) := ⟨⟨by decide +kernel, by decide +kernel⟩, List.mem_of_getElem? (i := 73) (by decide +kernel), List.mem_of_getElem? (i := 426) (by decide +kernel), List.mem_of_getElem? (i := 427) (by decide +kernel)⟩
theorem lw_p6 : lw_okq (⟨"GrammarStream$TextReader", "pass", "(I)Z"⟩, 11) := ⟨⟨by decide +kernel, by decide +kernel⟩, List.mem_of_getElem? (i := 73) (by decide +kernel), List.mem_of_getElem? (i := 449) (by decide +kernel), List.mem_of_getElem? (i := 450) (by decide +kernel)⟩
theorem lw_p7 : lw_okq (⟨"GrammarStream$TextReader", "readExp", "(I)Z"⟩, 11) := ⟨⟨by decide +kernel, by decide +kernel⟩, List.mem_of_getElem? (i := 73) (by decide +kernel), List.mem_of_getElem? (i := 453) (by decide +kernel), List.mem_of_getElem? (i := 454) (by decide +kernel)⟩
theorem lw_p8 : lw_okq (⟨"GrammarStream$TextReader", "readOne", "(II)Z"⟩, 11) := ⟨⟨by decide +kernel, by decide +kernel⟩, List.mem_of_getElem? (i := 73) (by decide +kernel), List.mem_of_getElem? (i := 472) (by decide +kernel), List.mem_of_getElem? (i := 473) (by decide +kernel)⟩
theorem lw_p9 : lw_okq (⟨"GrammarStream$TextReader", "readBrackets", "(I)Z"⟩, 11) := ⟨⟨by decide +kernel, by decide +kernel⟩, List.mem_of_getElem? (i := 73) (by decide +kernel), List.mem_of_getElem? (i := 476) (by decide +kernel), List.mem_of_getElem? (i := 477) (by decide +kernel)⟩
theorem lw_p10 : lw_okq (⟨"GrammarStream$TextReader", "readPlace", "(II)Z"⟩, 11) := ⟨⟨by decide +kernel, by decide +kernel⟩, List.mem_of_getElem? (i := 73) (by decide +kernel), List.mem_of_getElem? (i := 480) (by decide +kernel), List.mem_of_getElem? (i := 481) (by decide +kernel)⟩
theorem lw_p11 : lw_okq (⟨"GrammarStream$TextReader", "clearTaken", "()V"⟩, 11) := ⟨⟨by decide +kernel, by decide +kernel⟩, List.mem_of_getElem? (i := 73) (by decide +kernel), List.mem_of_getElem? (i := 484) (by decide +kernel), List.mem_of_getElem? (i := 485) (by decide +kernel)⟩
theorem lw_p12 : lw_okq (⟨"GrammarStream$TextReader", "turnTaken", "()V"⟩, 11) := ⟨⟨by decide +kernel, by decide +kernel⟩, List.mem_of_getElem? (i := 73) (by decide +kernel), List.mem_of_getElem? (i := 488) (by decide +kernel), List.mem_of_getElem? (i := 489) (by decide +kernel)⟩
theorem lw_p13 : lw_okq (⟨"GrammarStream$TextReader", "readSet", "()Z"⟩, 11) := ⟨⟨by decide +kernel, by decide +kernel⟩, List.mem_of_getElem? (i := 73) (by decide +kernel), List.mem_of_getElem? (i := 492) (by decide +kernel), List.mem_of_getElem? (i := 493) (by decide +kernel)⟩
theorem lw_p14 : lw_okq (⟨"GrammarStream$TextReader", "readByte", "(I)I"⟩, 11) := ⟨⟨by decide +kernel, by decide +kernel⟩, List.mem_of_getElem? (i := 73) (by decide +kernel), List.mem_of_getElem? (i := 499) (by decide +kernel), List.mem_of_getElem? (i := 500) (by decide +kernel)⟩
theorem lw_p15 : lw_okq (⟨"GrammarStream$TextReader", "takeAll", "(II)V"⟩, 11) := ⟨⟨by decide +kernel, by decide +kernel⟩, List.mem_of_getElem? (i := 73) (by decide +kernel), List.mem_of_getElem? (i := 503) (by decide +kernel), List.mem_of_getElem? (i := 504) (by decide +kernel)⟩
def lw_privs_1 : List (MethodName × Nat) := [(⟨"GrammarStream", "makeRows", "()V"⟩, 10), (⟨"GrammarStream$TextReader", "start", "([II)V"⟩, 11), (⟨"GrammarStream$TextReader", "peek", "()I"⟩, 11), (⟨"GrammarStream$TextReader", "readToken", "(Z)Z"⟩, 11), (⟨"GrammarStream$TextReader", "passName", "()Z"⟩, 11), (⟨"GrammarStream$TextReader", "numberOfToken", "(IIZ)I"⟩, 11), (⟨"GrammarStream$TextReader", "pass", "(I)Z"⟩, 11), (⟨"GrammarStream$TextReader", "readExp", "(I)Z"⟩, 11), (⟨"GrammarStream$TextReader", "readOne", "(II)Z"⟩, 11), (⟨"GrammarStream$TextReader", "readBrackets", "(I)Z"⟩, 11), (⟨"GrammarStream$TextReader", "readPlace", "(II)Z"⟩, 11), (⟨"GrammarStream$TextReader", "clearTaken", "()V"⟩, 11), (⟨"GrammarStream$TextReader", "turnTaken", "()V"⟩, 11), (⟨"GrammarStream$TextReader", "readSet", "()Z"⟩, 11), (⟨"GrammarStream$TextReader", "readByte", "(I)I"⟩, 11), (⟨"GrammarStream$TextReader", "takeAll", "(II)V"⟩, 11)]
theorem lw_r1 : ∀ q ∈ lw_privs_1, lw_okq q := List.forall_mem_cons.mpr ⟨lw_p0, List.forall_mem_cons.mpr ⟨lw_p1, List.forall_mem_cons.mpr ⟨lw_p2, List.forall_mem_cons.mpr ⟨lw_p3, List.forall_mem_cons.mpr ⟨lw_p4, List.forall_mem_cons.mpr ⟨lw_p5, List.forall_mem_cons.mpr ⟨lw_p6, List.forall_mem_cons.mpr ⟨lw_p7, List.forall_mem_cons.mpr ⟨lw_p8, List.forall_mem_cons.mpr ⟨lw_p9, List.forall_mem_cons.mpr ⟨lw_p10, List.forall_mem_cons.mpr ⟨lw_p11, List.forall_mem_cons.mpr ⟨lw_p12, List.forall_mem_cons.mpr ⟨lw_p13, List.forall_mem_cons.mpr ⟨lw_p14, List.forall_mem_cons.mpr ⟨lw_p15, fun _ h => absurd h List.not_mem_nil⟩⟩⟩⟩⟩⟩⟩⟩⟩⟩⟩⟩⟩⟩⟩⟩
theorem lw_p16 : lw_okq (⟨"GrammarStream$TextReader", "readRules", "()Z"⟩, 11) := ⟨⟨by decide +kernel, by decide +kernel⟩, List.mem_of_getElem? (i := 73) (by decide +kernel), List.mem_of_getElem? (i := 538) (by decide +kernel), List.mem_of_getElem? (i := 539) (by decide +kernel)⟩
theorem lw_p17 : lw_okq (⟨"GrammarStream$TextReader", "numberOfSymbol", "(II)I"⟩, 11) := ⟨⟨by decide +kernel, by decide +kernel⟩, List.mem_of_getElem? (i := 73) (by decide +kernel), List.mem_of_getElem? (i := 542) (by decide +kernel), List.mem_of_getElem? (i := 543) (by decide +kernel)⟩
theorem lw_p18 : lw_okq (⟨"GrammarStream$TextReader", "readRow", "(I)Z"⟩, 11) := ⟨⟨by decide +kernel, by decide +kernel⟩, List.mem_of_getElem? (i := 73) (by decide +kernel), List.mem_of_getElem? (i := 547) (by decide +kernel), List.mem_of_getElem? (i := 548) (by decide +kernel)⟩
theorem lw_p19 : lw_okq (⟨"GrammarStream$TextReader", "findItems", "()V"⟩, 11) := ⟨⟨by decide +kernel, by decide +kernel⟩, List.mem_of_getElem? (i := 73) (by decide +kernel), List.mem_of_getElem? (i := 559) (by decide +kernel), List.mem_of_getElem? (i := 560) (by decide +kernel)⟩
theorem lw_p20 : lw_okq (⟨"GrammarStream$Grammar", "spread", "(Z)I"⟩, 12) := ⟨⟨by decide +kernel, by decide +kernel⟩, List.mem_of_getElem? (i := 279) (by decide +kernel), List.mem_of_getElem? (i := 578) (by decide +kernel), List.mem_of_getElem? (i := 579) (by decide +kernel)⟩
theorem lw_p21 : lw_okq (⟨"GrammarStream$Grammar", "isWithin", "(IIIZ)Z"⟩, 12) := ⟨⟨by decide +kernel, by decide +kernel⟩, List.mem_of_getElem? (i := 279) (by decide +kernel), List.mem_of_getElem? (i := 582) (by decide +kernel), List.mem_of_getElem? (i := 583) (by decide +kernel)⟩
theorem lw_p22 : lw_okq (⟨"GrammarStream$MachineMaker", "sortBytes", "(LGrammarStream$Places;LGrammarStream$Machine;)V"⟩, 9) := ⟨⟨by decide +kernel, by decide +kernel⟩, List.mem_of_getElem? (i := 245) (by decide +kernel), List.mem_of_getElem? (i := 606) (by decide +kernel), List.mem_of_getElem? (i := 607) (by decide +kernel)⟩
theorem lw_p23 : lw_okq (⟨"GrammarStream$MachineMaker", "isTaken", "(LGrammarStream$Places;I)Z"⟩, 9) := ⟨⟨by decide +kernel, by decide +kernel⟩, List.mem_of_getElem? (i := 245) (by decide +kernel), List.mem_of_getElem? (i := 610) (by decide +kernel), List.mem_of_getElem? (i := 611) (by decide +kernel)⟩
theorem lw_p24 : lw_okq (⟨"GrammarStream$MachineMaker", "sameTakers", "(LGrammarStream$Places;II)Z"⟩, 9) := ⟨⟨by decide +kernel, by decide +kernel⟩, List.mem_of_getElem? (i := 245) (by decide +kernel), List.mem_of_getElem? (i := 614) (by decide +kernel), List.mem_of_getElem? (i := 615) (by decide +kernel)⟩
theorem lw_p25 : lw_okq (⟨"GrammarStream$MachineMaker", "findWays", "(LGrammarStream$Places;LGrammarStream$Machine;I)Z"⟩, 9) := ⟨⟨by decide +kernel, by decide +kernel⟩, List.mem_of_getElem? (i := 245) (by decide +kernel), List.mem_of_getElem? (i := 619) (by decide +kernel), List.mem_of_getElem? (i := 620) (by decide +kernel)⟩
theorem lw_p26 : lw_okq (⟨"GrammarStream$MachineMaker", "gatherComing", "(LGrammarStream$Places;I)V"⟩, 9) := ⟨⟨by decide +kernel, by decide +kernel⟩, List.mem_of_getElem? (i := 245) (by decide +kernel), List.mem_of_getElem? (i := 623) (by decide +kernel), List.mem_of_getElem? (i := 624) (by decide +kernel)⟩
theorem lw_p27 : lw_okq (⟨"GrammarStream$MachineMaker", "stateFor", "(LGrammarStream$Places;LGrammarStream$Machine;II)I"⟩, 9) := ⟨⟨by decide +kernel, by decide +kernel⟩, List.mem_of_getElem? (i := 245) (by decide +kernel), List.mem_of_getElem? (i := 630) (by decide +kernel), List.mem_of_getElem? (i := 631) (by decide +kernel)⟩
theorem lw_p28 : lw_okq (⟨"GrammarStream$MachineMaker", "isReached", "(I)Z"⟩, 9) := ⟨⟨by decide +kernel, by decide +kernel⟩, List.mem_of_getElem? (i := 245) (by decide +kernel), List.mem_of_getElem? (i := 636) (by decide +kernel), List.mem_of_getElem? (i := 637) (by decide +kernel)⟩
theorem lw_p29 : lw_okq (⟨"GrammarStream$MachineMaker", "addState", "(LGrammarStream$Places;LGrammarStream$Machine;II)I"⟩, 9) := ⟨⟨by decide +kernel, by decide +kernel⟩, List.mem_of_getElem? (i := 245) (by decide +kernel), List.mem_of_getElem? (i := 640) (by decide +kernel), List.mem_of_getElem? (i := 641) (by decide +kernel)⟩
theorem lw_p30 : lw_okq (⟨"GrammarStream$MachineMaker", "tokenFound", "(LGrammarStream$Places;)I"⟩, 9) := ⟨⟨by decide +kernel, by decide +kernel⟩, List.mem_of_getElem? (i := 245) (by decide +kernel), List.mem_of_getElem? (i := 644) (by decide +kernel), List.mem_of_getElem? (i := 645) (by decide +kernel)⟩
theorem lw_p31 : lw_okq (⟨"GrammarStream$MachineMaker", "countHopeful", "(LGrammarStream$Machine;)V"⟩, 9) := ⟨⟨by decide +kernel, by decide +kernel⟩, List.mem_of_getElem? (i := 245) (by decide +kernel), List.mem_of_getElem? (i := 648) (by decide +kernel), List.mem_of_getElem? (i := 649) (by decide +kernel)⟩
def lw_privs_2 : List (MethodName × Nat) := [(⟨"GrammarStream$TextReader", "readRules", "()Z"⟩, 11), (⟨"GrammarStream$TextReader", "numberOfSymbol", "(II)I"⟩, 11), (⟨"GrammarStream$TextReader", "readRow", "(I)Z"⟩, 11), (⟨"GrammarStream$TextReader", "findItems", "()V"⟩, 11), (⟨"GrammarStream$Grammar", "spread", "(Z)I"⟩, 12), (⟨"GrammarStream$Grammar", "isWithin", "(IIIZ)Z"⟩, 12), (⟨"GrammarStream$MachineMaker", "sortBytes", "(LGrammarStream$Places;LGrammarStream$Machine;)V"⟩, 9), (⟨"GrammarStream$MachineMaker", "isTaken", "(LGrammarStream$Places;I)Z"⟩, 9), (⟨"GrammarStream$MachineMaker", "sameTakers", "(LGrammarStream$Places;II)Z"⟩, 9), (⟨"GrammarStream$MachineMaker", "findWays", "(LGrammarStream$Places;LGrammarStream$Machine;I)Z"⟩, 9), (⟨"GrammarStream$MachineMaker", "gatherComing", "(LGrammarStream$Places;I)V"⟩, 9), (⟨"GrammarStream$MachineMaker", "stateFor", "(LGrammarStream$Places;LGrammarStream$Machine;II)I"⟩, 9), (⟨"GrammarStream$MachineMaker", "isReached", "(I)Z"⟩, 9), (⟨"GrammarStream$MachineMaker", "addState", "(LGrammarStream$Places;LGrammarStream$Machine;II)I"⟩, 9), (⟨"GrammarStream$MachineMaker", "tokenFound", "(LGrammarStream$Places;)I"⟩, 9), (⟨"GrammarStream$MachineMaker", "countHopeful", "(LGrammarStream$Machine;)V"⟩, 9)]
theorem lw_r2 : ∀ q ∈ lw_privs_2, lw_okq q := List.forall_mem_cons.mpr ⟨lw_p16, List.forall_mem_cons.mpr ⟨lw_p17, List.forall_mem_cons.mpr ⟨lw_p18, List.forall_mem_cons.mpr ⟨lw_p19, List.forall_mem_cons.mpr ⟨lw_p20, List.forall_mem_cons.mpr ⟨lw_p21, List.forall_mem_cons.mpr ⟨lw_p22, List.forall_mem_cons.mpr ⟨lw_p23, List.forall_mem_cons.mpr ⟨lw_p24, List.forall_mem_cons.mpr ⟨lw_p25, List.forall_mem_cons.mpr ⟨lw_p26, List.forall_mem_cons.mpr ⟨lw_p27, List.forall_mem_cons.mpr ⟨lw_p28, List.forall_mem_cons.mpr ⟨lw_p29, List.forall_mem_cons.mpr ⟨lw_p30, List.forall_mem_cons.mpr ⟨lw_p31, fun _ h => absurd h List.not_mem_nil⟩⟩⟩⟩⟩⟩⟩⟩⟩⟩⟩⟩⟩⟩⟩⟩
theorem lw_p32 : lw_okq (⟨"GrammarStream$MachineMaker", "hasHope", "(LGrammarStream$Machine;I)Z"⟩, 9) := ⟨⟨by decide +kernel, by decide +kernel⟩, List.mem_of_getElem? (i := 245) (by decide +kernel), List.mem_of_getElem? (i := 652) (by decide +kernel), List.mem_of_getElem? (i := 653) (by decide +kernel)⟩
theorem lw_p33 : lw_okq (⟨"GrammarStream$Grammar", "makeFirsts", "()V"⟩, 12) := ⟨⟨by decide +kernel, by decide +kernel⟩, List.mem_of_getElem? (i := 279) (by decide +kernel), List.mem_of_getElem? (i := 660) (by decide +kernel), List.mem_of_getElem? (i := 661) (by decide +kernel)⟩
theorem lw_p34 : lw_okq (⟨"GrammarStream$Grammar", "firstsFrom", "(II)I"⟩, 12) := ⟨⟨by decide +kernel, by decide +kernel⟩, List.mem_of_getElem? (i := 279) (by decide +kernel), List.mem_of_getElem? (i := 665) (by decide +kernel), List.mem_of_getElem? (i := 666) (by decide +kernel)⟩
theorem lw_p35 : lw_okq (⟨"GrammarStream$Grammar", "makeFollows", "()V"⟩, 12) := ⟨⟨by decide +kernel, by decide +kernel⟩, List.mem_of_getElem? (i := 279) (by decide +kernel), List.mem_of_getElem? (i := 669) (by decide +kernel), List.mem_of_getElem? (i := 670) (by decide +kernel)⟩
theorem lw_p36 : lw_okq (⟨"GrammarStream$Grammar", "growFollows", "(I)Z"⟩, 12) := ⟨⟨by decide +kernel, by decide +kernel⟩, List.mem_of_getElem? (i := 279) (by decide +kernel), List.mem_of_getElem? (i := 673) (by decide +kernel), List.mem_of_getElem? (i := 674) (by decide +kernel)⟩
theorem lw_p37 : lw_okq (⟨"GrammarStream$Grammar", "nextRuleFor", "(III)I"⟩, 12) := ⟨⟨by decide +kernel, by decide +kernel⟩, List.mem_of_getElem? (i := 279) (by decide +kernel), List.mem_of_getElem? (i := 685) (by decide +kernel), List.mem_of_getElem? (i := 686) (by decide +kernel)⟩
theorem lw_p38 : lw_okq (⟨"GrammarStream", "putInPlace", "(LGrammarStream$Grammar;)V"⟩, 10) := ⟨⟨by decide +kernel, by decide +kernel⟩, List.mem_of_getElem? (i := 18) (by decide +kernel), List.mem_of_getElem? (i := 689) (by decide +kernel), List.mem_of_getElem? (i := 690) (by decide +kernel)⟩
theorem lw_p39 : lw_okq (⟨"GrammarStream$Reading", "beginAt", "(I)V"⟩, 16) := ⟨⟨by decide +kernel, by decide +kernel⟩, List.mem_of_getElem? (i := 693) (by decide +kernel), List.mem_of_getElem? (i := 820) (by decide +kernel), List.mem_of_getElem? (i := 821) (by decide +kernel)⟩
theorem lw_p40 : lw_okq (⟨"GrammarStream$Counts", "orderSymbols", "(LGrammarStream$Grammar;)V"⟩, 5) := ⟨⟨by decide +kernel, by decide +kernel⟩, List.mem_of_getElem? (i := 888) (by decide +kernel), List.mem_of_getElem? (i := 915) (by decide +kernel), List.mem_of_getElem? (i := 916) (by decide +kernel)⟩
theorem lw_p41 : lw_okq (⟨"GrammarStream$Counts", "countLength", "(LGrammarStream$Grammar;I)V"⟩, 5) := ⟨⟨by decide +kernel, by decide +kernel⟩, List.mem_of_getElem? (i := 888) (by decide +kernel), List.mem_of_getElem? (i := 928) (by decide +kernel), List.mem_of_getElem? (i := 929) (by decide +kernel)⟩
theorem lw_p42 : lw_okq (⟨"GrammarStream$Counts", "countRow", "(LGrammarStream$Grammar;II)J"⟩, 5) := ⟨⟨by decide +kernel, by decide +kernel⟩, List.mem_of_getElem? (i := 888) (by decide +kernel), List.mem_of_getElem? (i := 932) (by decide +kernel), List.mem_of_getElem? (i := 933) (by decide +kernel)⟩
theorem lw_p43 : lw_okq (⟨"GrammarStream$Counts", "countTail", "(III)J"⟩, 5) := ⟨⟨by decide +kernel, by decide +kernel⟩, List.mem_of_getElem? (i := 888) (by decide +kernel), List.mem_of_getElem? (i := 936) (by decide +kernel), List.mem_of_getElem? (i := 937) (by decide +kernel)⟩
theorem lw_p44 : lw_okq (⟨"GrammarStream$Reading", "lookAtAll", "(Z)V"⟩, 16) := ⟨⟨by decide +kernel, by decide +kernel⟩, List.mem_of_getElem? (i := 693) (by decide +kernel), List.mem_of_getElem? (i := 952) (by decide +kernel), List.mem_of_getElem? (i := 953) (by decide +kernel)⟩
theorem lw_p45 : lw_okq (⟨"GrammarStream$Reading", "goTillStuck", "()Z"⟩, 16) := ⟨⟨by decide +kernel, by decide +kernel⟩, List.mem_of_getElem? (i := 693) (by decide +kernel), List.mem_of_getElem? (i := 956) (by decide +kernel), List.mem_of_getElem? (i := 957) (by decide +kernel)⟩
theorem lw_p46 : lw_okq (⟨"GrammarStream$Reading", "settleToken", "()V"⟩, 16) := ⟨⟨by decide +kernel, by decide +kernel⟩, List.mem_of_getElem? (i := 693) (by decide +kernel), List.mem_of_getElem? (i := 964) (by decide +kernel), List.mem_of_getElem? (i := 965) (by decide +kernel)⟩
theorem lw_p47 : lw_okq (⟨"GrammarStream$Reading", "passOn", "(II)V"⟩, 16) := ⟨⟨by decide +kernel, by decide +kernel⟩, List.mem_of_getElem? (i := 693) (by decide +kernel), List.mem_of_getElem? (i := 968) (by decide +kernel), List.mem_of_getElem? (i := 969) (by decide +kernel)⟩
def lw_privs_3 : List (MethodName × Nat) := [(⟨"GrammarStream$MachineMaker", "hasHope", "(LGrammarStream$Machine;I)Z"⟩, 9), (⟨"GrammarStream$Grammar", "makeFirsts", "()V"⟩, 12), (⟨"GrammarStream$Grammar", "firstsFrom", "(II)I"⟩, 12), (⟨"GrammarStream$Grammar", "makeFollows", "()V"⟩, 12), (⟨"GrammarStream$Grammar", "growFollows", "(I)Z"⟩, 12), (⟨"GrammarStream$Grammar", "nextRuleFor", "(III)I"⟩, 12), (⟨"GrammarStream", "putInPlace", "(LGrammarStream$Grammar;)V"⟩, 10), (⟨"GrammarStream$Reading", "beginAt", "(I)V"⟩, 16), (⟨"GrammarStream$Counts", "orderSymbols", "(LGrammarStream$Grammar;)V"⟩, 5), (⟨"GrammarStream$Counts", "countLength", "(LGrammarStream$Grammar;I)V"⟩, 5), (⟨"GrammarStream$Counts", "countRow", "(LGrammarStream$Grammar;II)J"⟩, 5), (⟨"GrammarStream$Counts", "countTail", "(III)J"⟩, 5), (⟨"GrammarStream$Reading", "lookAtAll", "(Z)V"⟩, 16), (⟨"GrammarStream$Reading", "goTillStuck", "()Z"⟩, 16), (⟨"GrammarStream$Reading", "settleToken", "()V"⟩, 16), (⟨"GrammarStream$Reading", "passOn", "(II)V"⟩, 16)]
theorem lw_r3 : ∀ q ∈ lw_privs_3, lw_okq q := List.forall_mem_cons.mpr ⟨lw_p32, List.forall_mem_cons.mpr ⟨lw_p33, List.forall_mem_cons.mpr ⟨lw_p34, List.forall_mem_cons.mpr ⟨lw_p35, List.forall_mem_cons.mpr ⟨lw_p36, List.forall_mem_cons.mpr ⟨lw_p37, List.forall_mem_cons.mpr ⟨lw_p38, List.forall_mem_cons.mpr ⟨lw_p39, List.forall_mem_cons.mpr ⟨lw_p40, List.forall_mem_cons.mpr ⟨lw_p41, List.forall_mem_cons.mpr ⟨lw_p42, List.forall_mem_cons.mpr ⟨lw_p43, List.forall_mem_cons.mpr ⟨lw_p44, List.forall_mem_cons.mpr ⟨lw_p45, List.forall_mem_cons.mpr ⟨lw_p46, List.forall_mem_cons.mpr ⟨lw_p47, fun _ h => absurd h List.not_mem_nil⟩⟩⟩⟩⟩⟩⟩⟩⟩⟩⟩⟩⟩⟩⟩⟩
theorem lw_p48 : lw_okq (⟨"GrammarStream$Parser", "takeOff", "(II)I"⟩, 14) := ⟨⟨by decide +kernel, by decide +kernel⟩, List.mem_of_getElem? (i := 699) (by decide +kernel), List.mem_of_getElem? (i := 976) (by decide +kernel), List.mem_of_getElem? (i := 977) (by decide +kernel)⟩
theorem lw_p49 : lw_okq (⟨"GrammarStream$Parser", "replaceTop", "(I)V"⟩, 14) := ⟨⟨by decide +kernel, by decide +kernel⟩, List.mem_of_getElem? (i := 699) (by decide +kernel), List.mem_of_getElem? (i := 981) (by decide +kernel), List.mem_of_getElem? (i := 982) (by decide +kernel)⟩
theorem lw_p50 : lw_okq (⟨"GrammarStreamModel", "make", "()I"⟩, 112) := ⟨⟨by decide +kernel, by decide +kernel⟩, List.mem_of_getElem? (i := 1020) (by decide +kernel), List.mem_of_getElem? (i := 1373) (by decide +kernel), List.mem_of_getElem? (i := 1374) (by decide +kernel)⟩
theorem lw_p51 : lw_okq (⟨"GrammarStreamModel", "readAll", "()Z"⟩, 112) := ⟨⟨by decide +kernel, by decide +kernel⟩, List.mem_of_getElem? (i := 1020) (by decide +kernel), List.mem_of_getElem? (i := 1377) (by decide +kernel), List.mem_of_getElem? (i := 1378) (by decide +kernel)⟩
theorem lw_p52 : lw_okq (⟨"GrammarStreamModel", "blanks", "()V"⟩, 112) := ⟨⟨by decide +kernel, by decide +kernel⟩, List.mem_of_getElem? (i := 1020) (by decide +kernel), List.mem_of_getElem? (i := 1381) (by decide +kernel), List.mem_of_getElem? (i := 1382) (by decide +kernel)⟩
theorem lw_p53 : lw_okq (⟨"GrammarStreamModel", "here", "()I"⟩, 112) := ⟨⟨by decide +kernel, by decide +kernel⟩, List.mem_of_getElem? (i := 1020) (by decide +kernel), List.mem_of_getElem? (i := 1385) (by decide +kernel), List.mem_of_getElem? (i := 1386) (by decide +kernel)⟩
theorem lw_p54 : lw_okq (⟨"GrammarStreamModel", "isBlank", "(I)Z"⟩, 112) := ⟨⟨by decide +kernel, by decide +kernel⟩, List.mem_of_getElem? (i := 1020) (by decide +kernel), List.mem_of_getElem? (i := 1389) (by decide +kernel), List.mem_of_getElem? (i := 1390) (by decide +kernel)⟩
theorem lw_p55 : lw_okq (⟨"GrammarStreamModel", "isBig", "(I)Z"⟩, 112) := ⟨⟨by decide +kernel, by decide +kernel⟩, List.mem_of_getElem? (i := 1020) (by decide +kernel), List.mem_of_getElem? (i := 1393) (by decide +kernel), List.mem_of_getElem? (i := 1394) (by decide +kernel)⟩
theorem lw_p56 : lw_okq (⟨"GrammarStreamModel", "readRules", "()Z"⟩, 112) := ⟨⟨by decide +kernel, by decide +kernel⟩, List.mem_of_getElem? (i := 1020) (by decide +kernel), List.mem_of_getElem? (i := 1397) (by decide +kernel), List.mem_of_getElem? (i := 1398) (by decide +kernel)⟩
theorem lw_p57 : lw_okq (⟨"GrammarStreamModel", "name", "()Z"⟩, 112) := ⟨⟨by decide +kernel, by decide +kernel⟩, List.mem_of_getElem? (i := 1020) (by decide +kernel), List.mem_of_getElem? (i := 1401) (by decide +kernel), List.mem_of_getElem? (i := 1402) (by decide +kernel)⟩
theorem lw_p58 : lw_okq (⟨"GrammarStreamModel", "isSmall", "(I)Z"⟩, 112) := ⟨⟨by decide +kernel, by decide +kernel⟩, List.mem_of_getElem? (i := 1020) (by decide +kernel), List.mem_of_getElem? (i := 1405) (by decide +kernel), List.mem_of_getElem? (i := 1406) (by decide +kernel)⟩
theorem lw_p59 : lw_okq (⟨"GrammarStreamModel", "stop", "(I)Z"⟩, 112) := ⟨⟨by decide +kernel, by decide +kernel⟩, List.mem_of_getElem? (i := 1020) (by decide +kernel), List.mem_of_getElem? (i := 1409) (by decide +kernel), List.mem_of_getElem? (i := 1410) (by decide +kernel)⟩
theorem lw_p60 : lw_okq (⟨"GrammarStreamModel", "isDigit", "(I)Z"⟩, 112) := ⟨⟨by decide +kernel, by decide +kernel⟩, List.mem_of_getElem? (i := 1020) (by decide +kernel), List.mem_of_getElem? (i := 1413) (by decide +kernel), List.mem_of_getElem? (i := 1414) (by decide +kernel)⟩
theorem lw_p61 : lw_okq (⟨"GrammarStreamModel", "symbolNamed", "(II)I"⟩, 112) := ⟨⟨by decide +kernel, by decide +kernel⟩, List.mem_of_getElem? (i := 1020) (by decide +kernel), List.mem_of_getElem? (i := 1417) (by decide +kernel), List.mem_of_getElem? (i := 1418) (by decide +kernel)⟩
theorem lw_p62 : lw_okq (⟨"GrammarStreamModel", "sameName", "(IIII)Z"⟩, 112) := ⟨⟨by decide +kernel, by decide +kernel⟩, List.mem_of_getElem? (i := 1020) (by decide +kernel), List.mem_of_getElem? (i := 1421) (by decide +kernel), List.mem_of_getElem? (i := 1422) (by decide +kernel)⟩
theorem lw_p63 : lw_okq (⟨"GrammarStreamModel", "must", "(I)Z"⟩, 112) := ⟨⟨by decide +kernel, by decide +kernel⟩, List.mem_of_getElem? (i := 1020) (by decide +kernel), List.mem_of_getElem? (i := 1425) (by decide +kernel), List.mem_of_getElem? (i := 1426) (by decide +kernel)⟩
def lw_privs_4 : List (MethodName × Nat) := [(⟨"GrammarStream$Parser", "takeOff", "(II)I"⟩, 14), (⟨"GrammarStream$Parser", "replaceTop", "(I)V"⟩, 14), (⟨"GrammarStreamModel", "make", "()I"⟩, 112), (⟨"GrammarStreamModel", "readAll", "()Z"⟩, 112), (⟨"GrammarStreamModel", "blanks", "()V"⟩, 112), (⟨"GrammarStreamModel", "here", "()I"⟩, 112), (⟨"GrammarStreamModel", "isBlank", "(I)Z"⟩, 112), (⟨"GrammarStreamModel", "isBig", "(I)Z"⟩, 112), (⟨"GrammarStreamModel", "readRules", "()Z"⟩, 112), (⟨"GrammarStreamModel", "name", "()Z"⟩, 112), (⟨"GrammarStreamModel", "isSmall", "(I)Z"⟩, 112), (⟨"GrammarStreamModel", "stop", "(I)Z"⟩, 112), (⟨"GrammarStreamModel", "isDigit", "(I)Z"⟩, 112), (⟨"GrammarStreamModel", "symbolNamed", "(II)I"⟩, 112), (⟨"GrammarStreamModel", "sameName", "(IIII)Z"⟩, 112), (⟨"GrammarStreamModel", "must", "(I)Z"⟩, 112)]
theorem lw_r4 : ∀ q ∈ lw_privs_4, lw_okq q := List.forall_mem_cons.mpr ⟨lw_p48, List.forall_mem_cons.mpr ⟨lw_p49, List.forall_mem_cons.mpr ⟨lw_p50, List.forall_mem_cons.mpr ⟨lw_p51, List.forall_mem_cons.mpr ⟨lw_p52, List.forall_mem_cons.mpr ⟨lw_p53, List.forall_mem_cons.mpr ⟨lw_p54, List.forall_mem_cons.mpr ⟨lw_p55, List.forall_mem_cons.mpr ⟨lw_p56, List.forall_mem_cons.mpr ⟨lw_p57, List.forall_mem_cons.mpr ⟨lw_p58, List.forall_mem_cons.mpr ⟨lw_p59, List.forall_mem_cons.mpr ⟨lw_p60, List.forall_mem_cons.mpr ⟨lw_p61, List.forall_mem_cons.mpr ⟨lw_p62, List.forall_mem_cons.mpr ⟨lw_p63, fun _ h => absurd h List.not_mem_nil⟩⟩⟩⟩⟩⟩⟩⟩⟩⟩⟩⟩⟩⟩⟩⟩
theorem lw_p64 : lw_okq (⟨"GrammarStreamModel", "note", "(II)V"⟩, 112) := ⟨⟨by decide +kernel, by decide +kernel⟩, List.mem_of_getElem? (i := 1020) (by decide +kernel), List.mem_of_getElem? (i := 1429) (by decide +kernel), List.mem_of_getElem? (i := 1430) (by decide +kernel)⟩
theorem lw_p65 : lw_okq (⟨"GrammarStreamModel", "readRow", "()Z"⟩, 112) := ⟨⟨by decide +kernel, by decide +kernel⟩, List.mem_of_getElem? (i := 1020) (by decide +kernel), List.mem_of_getElem? (i := 1433) (by decide +kernel), List.mem_of_getElem? (i := 1434) (by decide +kernel)⟩
theorem lw_p66 : lw_okq (⟨"GrammarStreamModel", "readToken", "()Z"⟩, 112) := ⟨⟨by decide +kernel, by decide +kernel⟩, List.mem_of_getElem? (i := 1020) (by decide +kernel), List.mem_of_getElem? (i := 1437) (by decide +kernel), List.mem_of_getElem? (i := 1438) (by decide +kernel)⟩
theorem lw_p67 : lw_okq (⟨"GrammarStreamModel", "tokenNamed", "(II)I"⟩, 112) := ⟨⟨by decide +kernel, by decide +kernel⟩, List.mem_of_getElem? (i := 1020) (by decide +kernel), List.mem_of_getElem? (i := 1441) (by decide +kernel), List.mem_of_getElem? (i := 1442) (by decide +kernel)⟩
theorem lw_p68 : lw_okq (⟨"GrammarStreamModel", "expression", "(I)Z"⟩, 112) := ⟨⟨by decide +kernel, by decide +kernel⟩, List.mem_of_getElem? (i := 1020) (by decide +kernel), List.mem_of_getElem? (i := 1445) (by decide +kernel), List.mem_of_getElem? (i := 1446) (by decide +kernel)⟩
theorem lw_p69 : lw_okq (⟨"GrammarStreamModel", "openLevel", "()V"⟩, 112) := ⟨⟨by decide +kernel, by decide +kernel⟩, List.mem_of_getElem? (i := 1020) (by decide +kernel), List.mem_of_getElem? (i := 1449) (by decide +kernel), List.mem_of_getElem? (i := 1450) (by decide +kernel)⟩
theorem lw_p70 : lw_okq (⟨"GrammarStreamModel", "endPart", "()V"⟩, 112) := ⟨⟨by decide +kernel, by decide +kernel⟩, List.mem_of_getElem? (i := 1020) (by decide +kernel), List.mem_of_getElem? (i := 1453) (by decide +kernel), List.mem_of_getElem? (i := 1454) (by decide +kernel)⟩
theorem lw_p71 : lw_okq (⟨"GrammarStreamModel", "endExpression", "()V"⟩, 112) := ⟨⟨by decide +kernel, by decide +kernel⟩, List.mem_of_getElem? (i := 1020) (by decide +kernel), List.mem_of_getElem? (i := 1457) (by decide +kernel), List.mem_of_getElem? (i := 1458) (by decide +kernel)⟩
theorem lw_p72 : lw_okq (⟨"GrammarStreamModel", "atom", "()Z"⟩, 112) := ⟨⟨by decide +kernel, by decide +kernel⟩, List.mem_of_getElem? (i := 1020) (by decide +kernel), List.mem_of_getElem? (i := 1461) (by decide +kernel), List.mem_of_getElem? (i := 1462) (by decide +kernel)⟩
theorem lw_p73 : lw_okq (⟨"GrammarStreamModel", "items", "()Z"⟩, 112) := ⟨⟨by decide +kernel, by decide +kernel⟩, List.mem_of_getElem? (i := 1020) (by decide +kernel), List.mem_of_getElem? (i := 1465) (by decide +kernel), List.mem_of_getElem? (i := 1466) (by decide +kernel)⟩
theorem lw_p74 : lw_okq (⟨"GrammarStreamModel", "ch", "()Z"⟩, 112) := ⟨⟨by decide +kernel, by decide +kernel⟩, List.mem_of_getElem? (i := 1020) (by decide +kernel), List.mem_of_getElem? (i := 1469) (by decide +kernel), List.mem_of_getElem? (i := 1470) (by decide +kernel)⟩
theorem lw_p75 : lw_okq (⟨"GrammarStreamModel", "escaped", "()Z"⟩, 112) := ⟨⟨by decide +kernel, by decide +kernel⟩, List.mem_of_getElem? (i := 1020) (by decide +kernel), List.mem_of_getElem? (i := 1473) (by decide +kernel), List.mem_of_getElem? (i := 1474) (by decide +kernel)⟩
theorem lw_p76 : lw_okq (⟨"GrammarStreamModel", "take", "(I)V"⟩, 112) := ⟨⟨by decide +kernel, by decide +kernel⟩, List.mem_of_getElem? (i := 1020) (by decide +kernel), List.mem_of_getElem? (i := 1477) (by decide +kernel), List.mem_of_getElem? (i := 1478) (by decide +kernel)⟩
theorem lw_p77 : lw_okq (⟨"GrammarStreamModel", "newPlace", "(I)V"⟩, 112) := ⟨⟨by decide +kernel, by decide +kernel⟩, List.mem_of_getElem? (i := 1020) (by decide +kernel), List.mem_of_getElem? (i := 1481) (by decide +kernel), List.mem_of_getElem? (i := 1482) (by decide +kernel)⟩
theorem lw_p78 : lw_okq (⟨"GrammarStreamModel", "postfix", "()V"⟩, 112) := ⟨⟨by decide +kernel, by decide +kernel⟩, List.mem_of_getElem? (i := 1020) (by decide +kernel), List.mem_of_getElem? (i := 1485) (by decide +kernel), List.mem_of_getElem? (i := 1486) (by decide +kernel)⟩
theorem lw_p79 : lw_okq (⟨"GrammarStreamModel", "goesOn", "()V"⟩, 112) := ⟨⟨by decide +kernel, by decide +kernel⟩, List.mem_of_getElem? (i := 1020) (by decide +kernel), List.mem_of_getElem? (i := 1489) (by decide +kernel), List.mem_of_getElem? (i := 1490) (by decide +kernel)⟩
def lw_privs_5 : List (MethodName × Nat) := [(⟨"GrammarStreamModel", "note", "(II)V"⟩, 112), (⟨"GrammarStreamModel", "readRow", "()Z"⟩, 112), (⟨"GrammarStreamModel", "readToken", "()Z"⟩, 112), (⟨"GrammarStreamModel", "tokenNamed", "(II)I"⟩, 112), (⟨"GrammarStreamModel", "expression", "(I)Z"⟩, 112), (⟨"GrammarStreamModel", "openLevel", "()V"⟩, 112), (⟨"GrammarStreamModel", "endPart", "()V"⟩, 112), (⟨"GrammarStreamModel", "endExpression", "()V"⟩, 112), (⟨"GrammarStreamModel", "atom", "()Z"⟩, 112), (⟨"GrammarStreamModel", "items", "()Z"⟩, 112), (⟨"GrammarStreamModel", "ch", "()Z"⟩, 112), (⟨"GrammarStreamModel", "escaped", "()Z"⟩, 112), (⟨"GrammarStreamModel", "take", "(I)V"⟩, 112), (⟨"GrammarStreamModel", "newPlace", "(I)V"⟩, 112), (⟨"GrammarStreamModel", "postfix", "()V"⟩, 112), (⟨"GrammarStreamModel", "goesOn", "()V"⟩, 112)]
theorem lw_r5 : ∀ q ∈ lw_privs_5, lw_okq q := List.forall_mem_cons.mpr ⟨lw_p64, List.forall_mem_cons.mpr ⟨lw_p65, List.forall_mem_cons.mpr ⟨lw_p66, List.forall_mem_cons.mpr ⟨lw_p67, List.forall_mem_cons.mpr ⟨lw_p68, List.forall_mem_cons.mpr ⟨lw_p69, List.forall_mem_cons.mpr ⟨lw_p70, List.forall_mem_cons.mpr ⟨lw_p71, List.forall_mem_cons.mpr ⟨lw_p72, List.forall_mem_cons.mpr ⟨lw_p73, List.forall_mem_cons.mpr ⟨lw_p74, List.forall_mem_cons.mpr ⟨lw_p75, List.forall_mem_cons.mpr ⟨lw_p76, List.forall_mem_cons.mpr ⟨lw_p77, List.forall_mem_cons.mpr ⟨lw_p78, List.forall_mem_cons.mpr ⟨lw_p79, fun _ h => absurd h List.not_mem_nil⟩⟩⟩⟩⟩⟩⟩⟩⟩⟩⟩⟩⟩⟩⟩⟩
theorem lw_p80 : lw_okq (⟨"GrammarStreamModel", "addOne", "()V"⟩, 112) := ⟨⟨by decide +kernel, by decide +kernel⟩, List.mem_of_getElem? (i := 1020) (by decide +kernel), List.mem_of_getElem? (i := 1493) (by decide +kernel), List.mem_of_getElem? (i := 1494) (by decide +kernel)⟩
theorem lw_p81 : lw_okq (⟨"GrammarStreamModel", "lookAtRows", "()V"⟩, 112) := ⟨⟨by decide +kernel, by decide +kernel⟩, List.mem_of_getElem? (i := 1020) (by decide +kernel), List.mem_of_getElem? (i := 1497) (by decide +kernel), List.mem_of_getElem? (i := 1498) (by decide +kernel)⟩
theorem lw_p82 : lw_okq (⟨"GrammarStreamModel", "lookAtSymbols", "()V"⟩, 112) := ⟨⟨by decide +kernel, by decide +kernel⟩, List.mem_of_getElem? (i := 1020) (by decide +kernel), List.mem_of_getElem? (i := 1501) (by decide +kernel), List.mem_of_getElem? (i := 1502) (by decide +kernel)⟩
theorem lw_p83 : lw_okq (⟨"GrammarStreamModel", "layMachine", "()Z"⟩, 112) := ⟨⟨by decide +kernel, by decide +kernel⟩, List.mem_of_getElem? (i := 1020) (by decide +kernel), List.mem_of_getElem? (i := 1505) (by decide +kernel), List.mem_of_getElem? (i := 1506) (by decide +kernel)⟩
theorem lw_p84 : lw_okq (⟨"GrammarStreamModel", "findNext", "(I)V"⟩, 112) := ⟨⟨by decide +kernel, by decide +kernel⟩, List.mem_of_getElem? (i := 1020) (by decide +kernel), List.mem_of_getElem? (i := 1509) (by decide +kernel), List.mem_of_getElem? (i := 1510) (by decide +kernel)⟩
theorem lw_p85 : lw_okq (⟨"GrammarStreamModel", "takes", "(II)Z"⟩, 112) := ⟨⟨by decide +kernel, by decide +kernel⟩, List.mem_of_getElem? (i := 1020) (by decide +kernel), List.mem_of_getElem? (i := 1513) (by decide +kernel), List.mem_of_getElem? (i := 1514) (by decide +kernel)⟩
theorem lw_p86 : lw_okq (⟨"GrammarStreamModel", "stateMade", "()I"⟩, 112) := ⟨⟨by decide +kernel, by decide +kernel⟩, List.mem_of_getElem? (i := 1020) (by decide +kernel), List.mem_of_getElem? (i := 1517) (by decide +kernel), List.mem_of_getElem? (i := 1518) (by decide +kernel)⟩
theorem lw_p87 : lw_okq (⟨"GrammarStreamModel", "lookAtStates", "()V"⟩, 112) := ⟨⟨by decide +kernel, by decide +kernel⟩, List.mem_of_getElem? (i := 1020) (by decide +kernel), List.mem_of_getElem? (i := 1521) (by decide +kernel), List.mem_of_getElem? (i := 1522) (by decide +kernel)⟩
theorem lw_p88 : lw_okq (⟨"GrammarStreamModel", "layParser", "()V"⟩, 112) := ⟨⟨by decide +kernel, by decide +kernel⟩, List.mem_of_getElem? (i := 1020) (by decide +kernel), List.mem_of_getElem? (i := 1525) (by decide +kernel), List.mem_of_getElem? (i := 1526) (by decide +kernel)⟩
theorem lw_p89 : lw_okq (⟨"GrammarStreamModel", "isEmptyFrom", "(II)Z"⟩, 112) := ⟨⟨by decide +kernel, by decide +kernel⟩, List.mem_of_getElem? (i := 1020) (by decide +kernel), List.mem_of_getElem? (i := 1529) (by decide +kernel), List.mem_of_getElem? (i := 1530) (by decide +kernel)⟩
theorem lw_p90 : lw_okq (⟨"GrammarStreamModel", "firstFrom", "(II)I"⟩, 112) := ⟨⟨by decide +kernel, by decide +kernel⟩, List.mem_of_getElem? (i := 1020) (by decide +kernel), List.mem_of_getElem? (i := 1533) (by decide +kernel), List.mem_of_getElem? (i := 1534) (by decide +kernel)⟩
theorem lw_p91 : lw_okq (⟨"GrammarStreamModel", "goOn", "(I)Z"⟩, 112) := ⟨⟨by decide +kernel, by decide +kernel⟩, List.mem_of_getElem? (i := 1020) (by decide +kernel), List.mem_of_getElem? (i := 1537) (by decide +kernel), List.mem_of_getElem? (i := 1538) (by decide +kernel)⟩
theorem lw_p92 : lw_okq (⟨"GrammarStreamModel", "layCells", "()V"⟩, 112) := ⟨⟨by decide +kernel, by decide +kernel⟩, List.mem_of_getElem? (i := 1020) (by decide +kernel), List.mem_of_getElem? (i := 1541) (by decide +kernel), List.mem_of_getElem? (i := 1542) (by decide +kernel)⟩
theorem lw_p93 : lw_okq (⟨"GrammarStreamModel", "keep", "()V"⟩, 112) := ⟨⟨by decide +kernel, by decide +kernel⟩, List.mem_of_getElem? (i := 1020) (by decide +kernel), List.mem_of_getElem? (i := 1545) (by decide +kernel), List.mem_of_getElem? (i := 1546) (by decide +kernel)⟩
theorem lw_p94 : lw_okq (⟨"GrammarStreamModel", "clear", "()V"⟩, 112) := ⟨⟨by decide +kernel, by decide +kernel⟩, List.mem_of_getElem? (i := 1020) (by decide +kernel), List.mem_of_getElem? (i := 1549) (by decide +kernel), List.mem_of_getElem? (i := 1550) (by decide +kernel)⟩
theorem lw_p95 : lw_okq (⟨"GrammarStreamModel", "isSymbol", "(I)Z"⟩, 112) := ⟨⟨by decide +kernel, by decide +kernel⟩, List.mem_of_getElem? (i := 1020) (by decide +kernel), List.mem_of_getElem? (i := 1565) (by decide +kernel), List.mem_of_getElem? (i := 1566) (by decide +kernel)⟩
def lw_privs_6 : List (MethodName × Nat) := [(⟨"GrammarStreamModel", "addOne", "()V"⟩, 112), (⟨"GrammarStreamModel", "lookAtRows", "()V"⟩, 112), (⟨"GrammarStreamModel", "lookAtSymbols", "()V"⟩, 112), (⟨"GrammarStreamModel", "layMachine", "()Z"⟩, 112), (⟨"GrammarStreamModel", "findNext", "(I)V"⟩, 112), (⟨"GrammarStreamModel", "takes", "(II)Z"⟩, 112), (⟨"GrammarStreamModel", "stateMade", "()I"⟩, 112), (⟨"GrammarStreamModel", "lookAtStates", "()V"⟩, 112), (⟨"GrammarStreamModel", "layParser", "()V"⟩, 112), (⟨"GrammarStreamModel", "isEmptyFrom", "(II)Z"⟩, 112), (⟨"GrammarStreamModel", "firstFrom", "(II)I"⟩, 112), (⟨"GrammarStreamModel", "goOn", "(I)Z"⟩, 112), (⟨"GrammarStreamModel", "layCells", "()V"⟩, 112), (⟨"GrammarStreamModel", "keep", "()V"⟩, 112), (⟨"GrammarStreamModel", "clear", "()V"⟩, 112), (⟨"GrammarStreamModel", "isSymbol", "(I)Z"⟩, 112)]
theorem lw_r6 : ∀ q ∈ lw_privs_6, lw_okq q := List.forall_mem_cons.mpr ⟨lw_p80, List.forall_mem_cons.mpr ⟨lw_p81, List.forall_mem_cons.mpr ⟨lw_p82, List.forall_mem_cons.mpr ⟨lw_p83, List.forall_mem_cons.mpr ⟨lw_p84, List.forall_mem_cons.mpr ⟨lw_p85, List.forall_mem_cons.mpr ⟨lw_p86, List.forall_mem_cons.mpr ⟨lw_p87, List.forall_mem_cons.mpr ⟨lw_p88, List.forall_mem_cons.mpr ⟨lw_p89, List.forall_mem_cons.mpr ⟨lw_p90, List.forall_mem_cons.mpr ⟨lw_p91, List.forall_mem_cons.mpr ⟨lw_p92, List.forall_mem_cons.mpr ⟨lw_p93, List.forall_mem_cons.mpr ⟨lw_p94, List.forall_mem_cons.mpr ⟨lw_p95, fun _ h => absurd h List.not_mem_nil⟩⟩⟩⟩⟩⟩⟩⟩⟩⟩⟩⟩⟩⟩⟩⟩
theorem lw_p96 : lw_okq (⟨"GrammarStreamModel", "isToken", "(I)Z"⟩, 112) := ⟨⟨by decide +kernel, by decide +kernel⟩, List.mem_of_getElem? (i := 1020) (by decide +kernel), List.mem_of_getElem? (i := 1569) (by decide +kernel), List.mem_of_getElem? (i := 1570) (by decide +kernel)⟩
theorem lw_p97 : lw_okq (⟨"GrammarStreamModel", "isTokenOrEnd", "(I)Z"⟩, 112) := ⟨⟨by decide +kernel, by decide +kernel⟩, List.mem_of_getElem? (i := 1020) (by decide +kernel), List.mem_of_getElem? (i := 1577) (by decide +kernel), List.mem_of_getElem? (i := 1578) (by decide +kernel)⟩
theorem lw_p98 : lw_okq (⟨"GrammarStreamModel", "countAll", "()V"⟩, 112) := ⟨⟨by decide +kernel, by decide +kernel⟩, List.mem_of_getElem? (i := 1020) (by decide +kernel), List.mem_of_getElem? (i := 1606) (by decide +kernel), List.mem_of_getElem? (i := 1607) (by decide +kernel)⟩
theorem lw_p99 : lw_okq (⟨"GrammarStreamModel", "waysOf", "(II)J"⟩, 112) := ⟨⟨by decide +kernel, by decide +kernel⟩, List.mem_of_getElem? (i := 1020) (by decide +kernel), List.mem_of_getElem? (i := 1610) (by decide +kernel), List.mem_of_getElem? (i := 1611) (by decide +kernel)⟩
theorem lw_p100 : lw_okq (⟨"GrammarStreamModel", "look", "(Z)V"⟩, 112) := ⟨⟨by decide +kernel, by decide +kernel⟩, List.mem_of_getElem? (i := 1020) (by decide +kernel), List.mem_of_getElem? (i := 1618) (by decide +kernel), List.mem_of_getElem? (i := 1619) (by decide +kernel)⟩
theorem lw_p101 : lw_okq (⟨"GrammarStreamModel", "fail", "(II)V"⟩, 112) := ⟨⟨by decide +kernel, by decide +kernel⟩, List.mem_of_getElem? (i := 1020) (by decide +kernel), List.mem_of_getElem? (i := 1622) (by decide +kernel), List.mem_of_getElem? (i := 1623) (by decide +kernel)⟩
theorem lw_p102 : lw_okq (⟨"GrammarStreamModel", "parse", "(II)V"⟩, 112) := ⟨⟨by decide +kernel, by decide +kernel⟩, List.mem_of_getElem? (i := 1020) (by decide +kernel), List.mem_of_getElem? (i := 1626) (by decide +kernel), List.mem_of_getElem? (i := 1627) (by decide +kernel)⟩
def lw_privs_7 : List (MethodName × Nat) := [(⟨"GrammarStreamModel", "isToken", "(I)Z"⟩, 112), (⟨"GrammarStreamModel", "isTokenOrEnd", "(I)Z"⟩, 112), (⟨"GrammarStreamModel", "countAll", "()V"⟩, 112), (⟨"GrammarStreamModel", "waysOf", "(II)J"⟩, 112), (⟨"GrammarStreamModel", "look", "(Z)V"⟩, 112), (⟨"GrammarStreamModel", "fail", "(II)V"⟩, 112), (⟨"GrammarStreamModel", "parse", "(II)V"⟩, 112)]
theorem lw_r7 : ∀ q ∈ lw_privs_7, lw_okq q := List.forall_mem_cons.mpr ⟨lw_p96, List.forall_mem_cons.mpr ⟨lw_p97, List.forall_mem_cons.mpr ⟨lw_p98, List.forall_mem_cons.mpr ⟨lw_p99, List.forall_mem_cons.mpr ⟨lw_p100, List.forall_mem_cons.mpr ⟨lw_p101, List.forall_mem_cons.mpr ⟨lw_p102, fun _ h => absurd h List.not_mem_nil⟩⟩⟩⟩⟩⟩⟩
def lw_privs : List (MethodName × Nat) := lw_privs_1 ++ (lw_privs_2 ++ (lw_privs_3 ++ (lw_privs_4 ++ (lw_privs_5 ++ (lw_privs_6 ++ (lw_privs_7))))))
def lw_tbl : List Cond := k2_sels lw_privs ++ tables_1
theorem lw_privs_ok : ∀ q ∈ lw_privs, lw_okq q := by
  show ∀ q ∈ lw_privs_1 ++ (lw_privs_2 ++ (lw_privs_3 ++ (lw_privs_4 ++ (lw_privs_5 ++ (lw_privs_6 ++ (lw_privs_7)))))), lw_okq q
  exact List.forall_mem_append.mpr ⟨lw_r1, List.forall_mem_append.mpr ⟨lw_r2, List.forall_mem_append.mpr ⟨lw_r3, List.forall_mem_append.mpr ⟨lw_r4, List.forall_mem_append.mpr ⟨lw_r5, List.forall_mem_append.mpr ⟨lw_r6, lw_r7⟩⟩⟩⟩⟩⟩
-- ===== end of PART A; then your names; then what follows =====
end
section
/-! THE ABSTRACT MACHINE: a pure interpreter over decoded rows; references are places in a list of cells. -/
abbrev am_C : Type := (FieldType × vp_A) ⊕ (Nat × List Value)
abbrev am_H : Type := List am_C
abbrev am_L : Type := List (Nat × Value)
/-- a method: name, bytes, locals, what it answers, parameters (the receiver aside), decoded rows -/
abbrev am_M : Type := MethodName × ByteArray × Nat × Option FieldType × Nat × List (Nat × Instr × Nat)
/-- what an entry of the pool stands for: its kind, two numbers, a constant -/
abbrev am_K : Type := Nat × Nat × Nat × Int64
/-- the classes, the types of their fields, the pool's entries, the methods, the types of arrays' elements -/
abbrev am_G : Type := List vw_C × (Nat → Nat → FieldType) × (String → Nat → Option am_K) × List am_M × List FieldType
end
section
def gx_r0 : List (Nat × Instr × Nat) := [(0, .aload_n 0, 1), (1, .invokespecial 3, 3), (4, .aload_n 0, 1), (5, .sipush 2000, 3), (8, .newarray .int, 2), (10, .putfield 9, 3), (13, .aload_n 0, 1), (14, .iconst 0, 1), (15, .putfield 13, 3), (18, .aload_n 0, 1), (19, .iconst 4, 1), (20, .newarray .int, 2), (22, .putfield 17, 3), (25, .aload_n 0, 1), (26, .iconst 0, 1), (27, .putfield 20, 3), (30, .aload_n 0, 1), (31, .aconst_null, 1), (32, .putfield 24, 3), (35, .aload_n 0, 1), (36, .aconst_null, 1), (37, .putfield 28, 3), (40, .aload_n 0, 1), (41, .aconst_null, 1), (42, .putfield 32, 3), (45, .aload_n 0, 1), (46, .aconst_null, 1), (47, .putfield 36, 3), (50, .aload_n 0, 1), (51, .aconst_null, 1), (52, .putfield 39, 3), (55, .aload_n 0, 1), (56, .aconst_null, 1), (57, .putfield 43, 3), (60, .return_, 1)]
def gx_m0 : am_M := (⟨"GrammarStream", "<init>", "()V"⟩, prog_1_method_1_code, 1, (Option.none : Option FieldType), 0, gx_r0)
theorem gx_d0 : gx_r0.all (fun q => decide (decode prog_1_method_1_code q.1 = .ok q.2)) = true := by decide +kernel
def gx_r1 : List (Nat × Instr × Nat) := [(0, .iload_n 3, 1), (1, .iconst 1, 1), (2, .if_icmp .lt 9, 3), (5, .iload_n 3, 1), (6, .bipush 8, 2), (8, .if_icmp .le 5, 3), (11, .iconst (-1), 1), (12, .ireturn, 1), (13, .aload_n 0, 1), (14, .getfield 13, 3), (17, .iload_n 3, 1), (18, .iadd, 1), (19, .sipush 2000, 3), (22, .if_icmp .le 6, 3), (25, .bipush (-2), 2), (27, .ireturn, 1), (28, .iload_n 3, 1), (29, .iconst 1, 1), (30, .isub, 1), (31, .istore 4, 2), (33, .iload 4, 2), (35, .ifCond .lt 34, 3), (38, .aload_n 0, 1), (39, .getfield 9, 3), (42, .aload_n 0, 1), (43, .getfield 13, 3), (46, .lload_n 1, 1), (47, .iload 4, 2), (49, .invokestatic 47, 3), (52, .iastore, 1), (53, .aload_n 0, 1), (54, .dup, 1), (55, .getfield 13, 3), (58, .iconst 1, 1), (59, .iadd, 1), (60, .putfield 13, 3), (63, .iinc 4 (-1), 3), (66, .goto (-33), 3), (69, .aload_n 0, 1), (70, .getfield 13, 3), (73, .ireturn, 1)]
def gx_m1 : am_M := (⟨"GrammarStream", "type", "(JI)I"⟩, prog_1_method_2_code, 5, (Option.some FieldType.int), 2, gx_r1)
theorem gx_d1 : gx_r1.all (fun q => decide (decode prog_1_method_2_code q.1 = .ok q.2)) = true := by decide +kernel
def gx_r2 : List (Nat × Instr × Nat) := [(0, .lload_n 0, 1), (1, .bipush 8, 2), (3, .iload_n 2, 1), (4, .imul, 1), (5, .lushr, 1), (6, .l2i, 1), (7, .sipush 255, 3), (10, .iand, 1), (11, .ireturn, 1)]
def gx_m2 : am_M := (⟨"GrammarStream", "byteOf", "(JI)I"⟩, prog_1_method_24_code, 3, (Option.some FieldType.int), 2, gx_r2)
theorem gx_d2 : gx_r2.all (fun q => decide (decode prog_1_method_24_code q.1 = .ok q.2)) = true := by decide +kernel
def gx_r3 : List (Nat × Instr × Nat) := [(0, .aload_n 0, 1), (1, .getfield 13, 3), (4, .istore_n 1, 1), (5, .aload_n 0, 1), (6, .iconst 0, 1), (7, .putfield 13, 3), (10, .aload_n 0, 1), (11, .iconst 0, 1), (12, .putfield 20, 3), (15, .aload_n 0, 1), (16, .invokevirtual 51, 3), (19, .aload_n 0, 1), (20, .getfield 24, 3), (23, .ifnull 17, 3), (26, .aload_n 0, 1), (27, .getfield 28, 3), (30, .ifnull 10, 3), (33, .aload_n 0, 1), (34, .getfield 36, 3), (37, .ifnonnull 5, 3), (40, .iconst (-1), 1), (41, .ireturn, 1), (42, .aload_n 0, 1), (43, .getfield 24, 3), (46, .aload_n 0, 1), (47, .getfield 9, 3), (50, .iload_n 1, 1), (51, .invokevirtual 54, 3), (54, .ifCond .eq 17, 3), (57, .aload_n 0, 1), (58, .getfield 24, 3), (61, .aload_n 0, 1), (62, .getfield 36, 3), (65, .invokestatic 60, 3), (68, .ifCond .ne 14, 3), (71, .bipush (-10), 2), (73, .aload_n 0, 1), (74, .getfield 24, 3), (77, .getfield 64, 3), (80, .isub, 1), (81, .ireturn, 1), (82, .aload_n 0, 1), (83, .getfield 28, 3), (86, .aload_n 0, 1), (87, .getfield 24, 3), (90, .getfield 67, 3), (93, .aload_n 0, 1), (94, .getfield 36, 3), (97, .getfield 71, 3), (100, .invokevirtual 77, 3), (103, .ifCond .ne 6, 3), (106, .bipush (-2), 2), (108, .ireturn, 1), (109, .aload_n 0, 1), (110, .getfield 36, 3), (113, .invokevirtual 83, 3), (116, .aload_n 0, 1), (117, .aload_n 0, 1), (118, .getfield 36, 3), (121, .aload_n 0, 1), (122, .getfield 17, 3), (125, .invokevirtual 86, 3), (128, .putfield 20, 3), (131, .aload_n 0, 1), (132, .getfield 20, 3), (135, .ifCond .eq 6, 3), (138, .bipush (-3), 2), (140, .ireturn, 1), (141, .aload_n 0, 1), (142, .aload_n 0, 1), (143, .getfield 36, 3), (146, .invokevirtual 90, 3), (149, .iconst 0, 1), (150, .ireturn, 1)]
def gx_m3 : am_M := (⟨"GrammarStream", "build", "()I"⟩, prog_1_method_3_code, 2, (Option.some FieldType.int), 0, gx_r3)
theorem gx_d3 : gx_r3.all (fun q => decide (decode prog_1_method_3_code q.1 = .ok q.2)) = true := by decide +kernel
def gx_r4 : List (Nat × Instr × Nat) := [(0, .aload_n 0, 1), (1, .getfield 24, 3), (4, .ifnonnull 14, 3), (7, .aload_n 0, 1), (8, .new 55, 3), (11, .dup, 1), (12, .invokespecial 235, 3), (15, .putfield 24, 3), (18, .aload_n 0, 1), (19, .getfield 28, 3), (22, .ifnonnull 14, 3), (25, .aload_n 0, 1), (26, .new 78, 3), (29, .dup, 1), (30, .invokespecial 236, 3), (33, .putfield 28, 3), (36, .aload_n 0, 1), (37, .getfield 36, 3), (40, .ifnonnull 14, 3), (43, .aload_n 0, 1), (44, .new 72, 3), (47, .dup, 1), (48, .invokespecial 237, 3), (51, .putfield 36, 3), (54, .return_, 1)]
def gx_m4 : am_M := (⟨"GrammarStream", "makeRows", "()V"⟩, prog_1_method_21_code, 1, (Option.none : Option FieldType), 0, gx_r4)
theorem gx_d4 : gx_r4.all (fun q => decide (decode prog_1_method_21_code q.1 = .ok q.2)) = true := by decide +kernel
def gx_r5 : List (Nat × Instr × Nat) := [(0, .aload_n 0, 1), (1, .invokespecial 3, 3), (4, .aload_n 0, 1), (5, .iconst 0, 1), (6, .putfield 9, 3), (9, .aload_n 0, 1), (10, .iconst 0, 1), (11, .putfield 15, 3), (14, .aload_n 0, 1), (15, .new 18, 3), (18, .dup, 1), (19, .invokespecial 20, 3), (22, .putfield 21, 3), (25, .aload_n 0, 1), (26, .new 25, 3), (29, .dup, 1), (30, .invokespecial 27, 3), (33, .putfield 28, 3), (36, .aload_n 0, 1), (37, .iconst 0, 1), (38, .newarray .int, 2), (40, .putfield 32, 3), (43, .aload_n 0, 1), (44, .iconst 0, 1), (45, .putfield 36, 3), (48, .aload_n 0, 1), (49, .iconst 0, 1), (50, .putfield 39, 3), (53, .aload_n 0, 1), (54, .invokestatic 42, 3), (57, .putfield 46, 3), (60, .aload_n 0, 1), (61, .invokestatic 42, 3), (64, .putfield 50, 3), (67, .aload_n 0, 1), (68, .invokestatic 42, 3), (71, .putfield 53, 3), (74, .aload_n 0, 1), (75, .sipush 256, 3), (78, .newarray .boolean, 2), (80, .putfield 56, 3), (83, .return_, 1)]
def gx_m5 : am_M := (⟨"GrammarStream$TextReader", "<init>", "()V"⟩, prog_12_method_1_code, 1, (Option.none : Option FieldType), 0, gx_r5)
theorem gx_d5 : gx_r5.all (fun q => decide (decode prog_12_method_1_code q.1 = .ok q.2)) = true := by decide +kernel
def gx_r6 : List (Nat × Instr × Nat) := [(0, .aload_n 0, 1), (1, .invokespecial 3, 3), (4, .aload_n 0, 1), (5, .new 9, 3), (8, .dup, 1), (9, .sipush 667, 3), (12, .invokespecial 11, 3), (15, .putfield 14, 3), (18, .aload_n 0, 1), (19, .sipush 667, 3), (22, .newarray .boolean, 2), (24, .putfield 20, 3), (27, .aload_n 0, 1), (28, .new 9, 3), (31, .dup, 1), (32, .sipush 667, 3), (35, .invokespecial 11, 3), (38, .putfield 24, 3), (41, .aload_n 0, 1), (42, .new 9, 3), (45, .dup, 1), (46, .sipush 2000, 3), (49, .invokespecial 11, 3), (52, .putfield 27, 3), (55, .aload_n 0, 1), (56, .sipush 2000, 3), (59, .newarray .int, 2), (61, .putfield 30, 3), (64, .aload_n 0, 1), (65, .bipush 60, 2), (67, .newarray .int, 2), (69, .putfield 34, 3), (72, .aload_n 0, 1), (73, .bipush 60, 2), (75, .newarray .int, 2), (77, .putfield 37, 3), (80, .aload_n 0, 1), (81, .bipush 60, 2), (83, .newarray .int, 2), (85, .putfield 40, 3), (88, .aload_n 0, 1), (89, .iconst 0, 1), (90, .putfield 43, 3), (93, .return_, 1)]
def gx_m6 : am_M := (⟨"GrammarStream$Outline", "<init>", "()V"⟩, prog_7_method_1_code, 1, (Option.none : Option FieldType), 0, gx_r6)
theorem gx_d6 : gx_r6.all (fun q => decide (decode prog_7_method_1_code q.1 = .ok q.2)) = true := by decide +kernel
def gx_r7 : List (Nat × Instr × Nat) := [(0, .aload_n 0, 1), (1, .invokespecial 1, 3), (4, .aload_n 0, 1), (5, .iconst 0, 1), (6, .putfield 7, 3), (9, .iload_n 1, 1), (10, .iconst 0, 1), (11, .invokestatic 13, 3), (14, .istore_n 2, 1), (15, .aload_n 0, 1), (16, .iload_n 2, 1), (17, .newarray .int, 2), (19, .putfield 19, 3), (22, .aload_n 0, 1), (23, .iload_n 2, 1), (24, .newarray .int, 2), (26, .putfield 23, 3), (29, .return_, 1)]
def gx_m7 : am_M := (⟨"GrammarStream$Names", "<init>", "(I)V"⟩, prog_6_method_1_code, 3, (Option.none : Option FieldType), 1, gx_r7)
theorem gx_d7 : gx_r7.all (fun q => decide (decode prog_6_method_1_code q.1 = .ok q.2)) = true := by decide +kernel
def gx_r8 : List (Nat × Instr × Nat) := [(0, .aload_n 0, 1), (1, .invokespecial 3, 3), (4, .aload_n 0, 1), (5, .iconst 0, 1), (6, .putfield 9, 3), (9, .aload_n 0, 1), (10, .sipush 1180, 3), (13, .newarray .long, 2), (15, .putfield 15, 3), (18, .aload_n 0, 1), (19, .sipush 6000, 3), (22, .newarray .long, 2), (24, .putfield 19, 3), (27, .aload_n 0, 1), (28, .bipush 10, 2), (30, .newarray .long, 2), (32, .putfield 22, 3), (35, .aload_n 0, 1), (36, .sipush 600, 3), (39, .newarray .int, 2), (41, .putfield 25, 3), (44, .return_, 1)]
def gx_m8 : am_M := (⟨"GrammarStream$Places", "<init>", "()V"⟩, prog_10_method_1_code, 1, (Option.none : Option FieldType), 0, gx_r8)
theorem gx_d8 : gx_r8.all (fun q => decide (decode prog_10_method_1_code q.1 = .ok q.2)) = true := by decide +kernel
def gx_r9 : List (Nat × Instr × Nat) := [(0, .bipush 21, 2), (2, .anewarray 60, 3), (5, .astore_n 0, 1), (6, .iconst 0, 1), (7, .istore_n 1, 1), (8, .iload_n 1, 1), (9, .aload_n 0, 1), (10, .arraylength, 1), (11, .if_icmp .ge 19, 3), (14, .aload_n 0, 1), (15, .iload_n 1, 1), (16, .new 60, 3), (19, .dup, 1), (20, .invokespecial 62, 3), (23, .aastore, 1), (24, .iinc 1 1, 3), (27, .goto (-19), 3), (30, .aload_n 0, 1), (31, .areturn, 1)]
def gx_m9 : am_M := (⟨"GrammarStream$TextReader", "newPieces", "()[LGrammarStream$Piece;"⟩, prog_12_method_2_code, 2, (Option.some (FieldType.array (FieldType.object "GrammarStream$Piece"))), 0, gx_r9)
theorem gx_d9 : gx_r9.all (fun q => decide (decode prog_12_method_2_code q.1 = .ok q.2)) = true := by decide +kernel
def gx_r10 : List (Nat × Instr × Nat) := [(0, .aload_n 0, 1), (1, .invokespecial 3, 3), (4, .aload_n 0, 1), (5, .iconst 0, 1), (6, .putfield 9, 3), (9, .aload_n 0, 1), (10, .bipush 10, 2), (12, .newarray .long, 2), (14, .putfield 15, 3), (17, .aload_n 0, 1), (18, .bipush 10, 2), (20, .newarray .long, 2), (22, .putfield 19, 3), (25, .return_, 1)]
def gx_m10 : am_M := (⟨"GrammarStream$Piece", "<init>", "()V"⟩, prog_9_method_1_code, 1, (Option.none : Option FieldType), 0, gx_r10)
theorem gx_d10 : gx_r10.all (fun q => decide (decode prog_9_method_1_code q.1 = .ok q.2)) = true := by decide +kernel
def gx_r11 : List (Nat × Instr × Nat) := [(0, .aload_n 0, 1), (1, .invokespecial 3, 3), (4, .aload_n 0, 1), (5, .sipush 4000, 3), (8, .newarray .long, 2), (10, .putfield 9, 3), (13, .aload_n 0, 1), (14, .sipush 400, 3), (17, .newarray .int, 2), (19, .putfield 15, 3), (22, .aload_n 0, 1), (23, .sipush 1024, 3), (26, .newarray .int, 2), (28, .putfield 19, 3), (31, .aload_n 0, 1), (32, .sipush 400, 3), (35, .newarray .int, 2), (37, .putfield 22, 3), (40, .aload_n 0, 1), (41, .sipush 400, 3), (44, .newarray .boolean, 2), (46, .putfield 25, 3), (49, .aload_n 0, 1), (50, .bipush 118, 2), (52, .newarray .int, 2), (54, .putfield 29, 3), (57, .aload_n 0, 1), (58, .bipush 10, 2), (60, .newarray .long, 2), (62, .putfield 32, 3), (65, .aload_n 0, 1), (66, .bipush 10, 2), (68, .newarray .long, 2), (70, .putfield 35, 3), (73, .aload_n 0, 1), (74, .iconst 0, 1), (75, .putfield 38, 3), (78, .return_, 1)]
def gx_m11 : am_M := (⟨"GrammarStream$MachineMaker", "<init>", "()V"⟩, prog_5_method_1_code, 1, (Option.none : Option FieldType), 0, gx_r11)
theorem gx_d11 : gx_r11.all (fun q => decide (decode prog_5_method_1_code q.1 = .ok q.2)) = true := by decide +kernel
def gx_r12 : List (Nat × Instr × Nat) := [(0, .aload_n 0, 1), (1, .invokespecial 3, 3), (4, .aload_n 0, 1), (5, .new 9, 3), (8, .dup, 1), (9, .invokespecial 11, 3), (12, .putfield 12, 3), (15, .aload_n 0, 1), (16, .iconst 0, 1), (17, .putfield 18, 3), (20, .aload_n 0, 1), (21, .iconst 0, 1), (22, .putfield 22, 3), (25, .aload_n 0, 1), (26, .iconst 0, 1), (27, .putfield 25, 3), (30, .aload_n 0, 1), (31, .bipush 24, 2), (33, .newarray .boolean, 2), (35, .putfield 28, 3), (38, .aload_n 0, 1), (39, .bipush 60, 2), (41, .newarray .int, 2), (43, .putfield 32, 3), (46, .aload_n 0, 1), (47, .bipush 60, 2), (49, .newarray .int, 2), (51, .putfield 36, 3), (54, .aload_n 0, 1), (55, .sipush 480, 3), (58, .newarray .int, 2), (60, .putfield 39, 3), (63, .aload_n 0, 1), (64, .iconst 0, 1), (65, .putfield 42, 3), (68, .aload_n 0, 1), (69, .bipush 30, 2), (71, .newarray .int, 2), (73, .putfield 45, 3), (76, .aload_n 0, 1), (77, .bipush 30, 2), (79, .newarray .int, 2), (81, .putfield 48, 3), (84, .aload_n 0, 1), (85, .sipush 750, 3), (88, .newarray .int, 2), (90, .putfield 51, 3), (93, .return_, 1)]
def gx_m12 : am_M := (⟨"GrammarStream$Grammar", "<init>", "()V"⟩, prog_3_method_1_code, 1, (Option.none : Option FieldType), 0, gx_r12)
theorem gx_d12 : gx_r12.all (fun q => decide (decode prog_3_method_1_code q.1 = .ok q.2)) = true := by decide +kernel
def gx_r13 : List (Nat × Instr × Nat) := [(0, .aload_n 0, 1), (1, .invokespecial 3, 3), (4, .aload_n 0, 1), (5, .iconst 0, 1), (6, .putfield 9, 3), (9, .aload_n 0, 1), (10, .iconst 0, 1), (11, .putfield 15, 3), (14, .aload_n 0, 1), (15, .iconst 0, 1), (16, .putfield 18, 3), (19, .aload_n 0, 1), (20, .iconst 0, 1), (21, .putfield 21, 3), (24, .aload_n 0, 1), (25, .sipush 256, 3), (28, .newarray .int, 2), (30, .putfield 24, 3), (33, .aload_n 0, 1), (34, .ldc 28, 2), (36, .newarray .int, 2), (38, .putfield 29, 3), (41, .aload_n 0, 1), (42, .sipush 400, 3), (45, .newarray .int, 2), (47, .putfield 32, 3), (50, .aload_n 0, 1), (51, .bipush 24, 2), (53, .newarray .int, 2), (55, .putfield 35, 3), (58, .return_, 1)]
def gx_m13 : am_M := (⟨"GrammarStream$Machine", "<init>", "()V"⟩, prog_4_method_1_code, 1, (Option.none : Option FieldType), 0, gx_r13)
theorem gx_d13 : gx_r13.all (fun q => decide (decode prog_4_method_1_code q.1 = .ok q.2)) = true := by decide +kernel
def gx_r14 : List (Nat × Instr × Nat) := [(0, .aload_n 0, 1), (1, .aload_n 1, 1), (2, .iload_n 2, 1), (3, .invokevirtual 63, 3), (6, .iconst 1, 1), (7, .istore_n 3, 1), (8, .aload_n 0, 1), (9, .invokevirtual 67, 3), (12, .istore 4, 2), (14, .iconst 0, 1), (15, .istore 5, 2), (17, .iload 5, 2), (19, .aload_n 0, 1), (20, .getfield 36, 3), (23, .if_icmp .gt 110, 3), (26, .iload_n 3, 1), (27, .ifCond .eq 106, 3), (30, .iload 4, 2), (32, .ifCond .lt 101, 3), (35, .iload 4, 2), (37, .bipush 45, 2), (39, .if_icmp .ne 7, 3), (42, .iconst 1, 1), (43, .goto 4, 3), (46, .iconst 0, 1), (47, .istore 6, 2), (49, .iload 6, 2), (51, .ifCond .eq 19, 3), (54, .aload_n 0, 1), (55, .dup, 1), (56, .getfield 39, 3), (59, .iconst 1, 1), (60, .iadd, 1), (61, .putfield 39, 3), (64, .aload_n 0, 1), (65, .invokevirtual 67, 3), (68, .istore 4, 2), (70, .iload 4, 2), (72, .invokestatic 71, 3), (75, .ifCond .eq 12, 3), (78, .aload_n 0, 1), (79, .iload 6, 2), (81, .invokevirtual 75, 3), (84, .goto 28, 3), (87, .iload 4, 2), (89, .invokestatic 79, 3), (92, .ifCond .eq 19, 3), (95, .iload 6, 2), (97, .ifCond .ne 14, 3), (100, .aload_n 0, 1), (101, .invokevirtual 82, 3), (104, .ifCond .eq 7, 3), (107, .iconst 1, 1), (108, .goto 4, 3), (111, .iconst 0, 1), (112, .istore_n 3, 1), (113, .iload_n 3, 1), (114, .ifCond .eq 10, 3), (117, .aload_n 0, 1), (118, .invokevirtual 67, 3), (121, .goto 4, 3), (124, .iconst (-1), 1), (125, .istore 4, 2), (127, .iinc 5 1, 3), (130, .goto (-113), 3), (133, .iload_n 3, 1), (134, .ifCond .ne 19, 3), (137, .aload_n 0, 1), (138, .iconst 0, 1), (139, .putfield 9, 3), (142, .aload_n 0, 1), (143, .iconst 1, 1), (144, .aload_n 0, 1), (145, .getfield 39, 3), (148, .invokevirtual 86, 3), (151, .iconst 0, 1), (152, .ireturn, 1), (153, .aload_n 0, 1), (154, .invokevirtual 90, 3), (157, .aload_n 0, 1), (158, .getfield 9, 3), (161, .ifCond .ne 26, 3), (164, .aload_n 0, 1), (165, .getfield 21, 3), (168, .getfield 93, 3), (171, .getfield 97, 3), (174, .ifCond .ne 13, 3), (177, .aload_n 0, 1), (178, .bipush 8, 2), (180, .aload_n 0, 1), (181, .getfield 36, 3), (184, .invokevirtual 86, 3), (187, .aload_n 0, 1), (188, .getfield 9, 3), (191, .ifCond .ne 7, 3), (194, .iconst 1, 1), (195, .goto 4, 3), (198, .iconst 0, 1), (199, .ireturn, 1)]
def gx_m14 : am_M := (⟨"GrammarStream$TextReader", "readTape", "([II)Z"⟩, prog_12_method_3_code, 7, (Option.some FieldType.boolean), 2, gx_r14)
theorem gx_d14 : gx_r14.all (fun q => decide (decode prog_12_method_3_code q.1 = .ok q.2)) = true := by decide +kernel
def gx_r15 : List (Nat × Instr × Nat) := [(0, .aload_n 0, 1), (1, .aload_n 1, 1), (2, .putfield 32, 3), (5, .aload_n 0, 1), (6, .iload_n 2, 1), (7, .aload_n 1, 1), (8, .arraylength, 1), (9, .invokestatic 102, 3), (12, .putfield 36, 3), (15, .aload_n 0, 1), (16, .iconst 0, 1), (17, .putfield 39, 3), (20, .aload_n 0, 1), (21, .iconst 0, 1), (22, .putfield 9, 3), (25, .aload_n 0, 1), (26, .iconst 0, 1), (27, .putfield 15, 3), (30, .aload_n 0, 1), (31, .getfield 21, 3), (34, .invokevirtual 108, 3), (37, .aload_n 0, 1), (38, .getfield 28, 3), (41, .invokevirtual 111, 3), (44, .return_, 1)]
def gx_m15 : am_M := (⟨"GrammarStream$TextReader", "start", "([II)V"⟩, prog_12_method_5_code, 3, (Option.none : Option FieldType), 2, gx_r15)
theorem gx_d15 : gx_r15.all (fun q => decide (decode prog_12_method_5_code q.1 = .ok q.2)) = true := by decide +kernel
def gx_r16 : List (Nat × Instr × Nat) := [(0, .aload_n 0, 1), (1, .getfield 14, 3), (4, .iconst 0, 1), (5, .putfield 47, 3), (8, .aload_n 0, 1), (9, .getfield 24, 3), (12, .iconst 0, 1), (13, .putfield 47, 3), (16, .aload_n 0, 1), (17, .getfield 27, 3), (20, .iconst 0, 1), (21, .putfield 47, 3), (24, .aload_n 0, 1), (25, .iconst 0, 1), (26, .putfield 43, 3), (29, .return_, 1)]
def gx_m16 : am_M := (⟨"GrammarStream$Outline", "clear", "()V"⟩, prog_7_method_2_code, 1, (Option.none : Option FieldType), 0, gx_r16)
theorem gx_d16 : gx_r16.all (fun q => decide (decode prog_7_method_2_code q.1 = .ok q.2)) = true := by decide +kernel
def gx_r17 : List (Nat × Instr × Nat) := [(0, .aload_n 0, 1), (1, .iconst 0, 1), (2, .putfield 9, 3), (5, .aload_n 0, 1), (6, .getfield 15, 3), (9, .lconst 0, 1), (10, .invokestatic 29, 3), (13, .aload_n 0, 1), (14, .getfield 22, 3), (17, .lconst 0, 1), (18, .invokestatic 29, 3), (21, .return_, 1)]
def gx_m17 : am_M := (⟨"GrammarStream$Places", "clear", "()V"⟩, prog_10_method_2_code, 1, (Option.none : Option FieldType), 0, gx_r17)
theorem gx_d17 : gx_r17.all (fun q => decide (decode prog_10_method_2_code q.1 = .ok q.2)) = true := by decide +kernel
def gx_r18 : List (Nat × Instr × Nat) := [(0, .iconst 0, 1), (1, .istore_n 3, 1), (2, .aload_n 0, 1), (3, .arraylength, 1), (4, .istore 4, 2), (6, .iload_n 3, 1), (7, .iload 4, 2), (9, .if_icmp .ge 13, 3), (12, .aload_n 0, 1), (13, .iload_n 3, 1), (14, .lload_n 1, 1), (15, .lastore, 1), (16, .iinc 3 1, 3), (19, .goto (-13), 3), (22, .return_, 1)]
def gx_m18 : am_M := (⟨"java/util/Arrays", "fill", "([JJ)V"⟩, prog_17_method_101_code, 5, (Option.none : Option FieldType), 2, gx_r18)
theorem gx_d18 : gx_r18.all (fun q => decide (decode prog_17_method_101_code q.1 = .ok q.2)) = true := by decide +kernel
def gx_r19 : List (Nat × Instr × Nat) := [(0, .aload_n 0, 1), (1, .getfield 39, 3), (4, .aload_n 0, 1), (5, .getfield 36, 3), (8, .if_icmp .ge 52, 3), (11, .aload_n 0, 1), (12, .getfield 32, 3), (15, .aload_n 0, 1), (16, .getfield 39, 3), (19, .iaload, 1), (20, .istore_n 1, 1), (21, .iload_n 1, 1), (22, .bipush 32, 2), (24, .if_icmp .eq 23, 3), (27, .iload_n 1, 1), (28, .bipush 10, 2), (30, .if_icmp .eq 17, 3), (33, .iload_n 1, 1), (34, .bipush 13, 2), (36, .if_icmp .eq 11, 3), (39, .iload_n 1, 1), (40, .bipush 9, 2), (42, .if_icmp .eq 5, 3), (45, .iload_n 1, 1), (46, .ireturn, 1), (47, .aload_n 0, 1), (48, .dup, 1), (49, .getfield 39, 3), (52, .iconst 1, 1), (53, .iadd, 1), (54, .putfield 39, 3), (57, .goto (-57), 3), (60, .iconst (-1), 1), (61, .ireturn, 1)]
def gx_m19 : am_M := (⟨"GrammarStream$TextReader", "peek", "()I"⟩, prog_12_method_21_code, 2, (Option.some FieldType.int), 0, gx_r19)
theorem gx_d19 : gx_r19.all (fun q => decide (decode prog_12_method_21_code q.1 = .ok q.2)) = true := by decide +kernel
def gx_r20 : List (Nat × Instr × Nat) := [(0, .iload_n 0, 1), (1, .bipush 97, 2), (3, .if_icmp .lt 13, 3), (6, .iload_n 0, 1), (7, .bipush 122, 2), (9, .if_icmp .gt 7, 3), (12, .iconst 1, 1), (13, .goto 4, 3), (16, .iconst 0, 1), (17, .ireturn, 1)]
def gx_m20 : am_M := (⟨"GrammarStream", "isSmall", "(I)Z"⟩, prog_1_method_26_code, 1, (Option.some FieldType.boolean), 1, gx_r20)
theorem gx_d20 : gx_r20.all (fun q => decide (decode prog_1_method_26_code q.1 = .ok q.2)) = true := by decide +kernel
def gx_r21 : List (Nat × Instr × Nat) := [(0, .aload_n 0, 1), (1, .getfield 39, 3), (4, .istore_n 2, 1), (5, .aload_n 0, 1), (6, .invokevirtual 112, 3), (9, .ifCond .ne 5, 3), (12, .iconst 0, 1), (13, .ireturn, 1), (14, .aload_n 0, 1), (15, .iload_n 2, 1), (16, .aload_n 0, 1), (17, .getfield 39, 3), (20, .iload_n 2, 1), (21, .isub, 1), (22, .iload_n 1, 1), (23, .invokevirtual 115, 3), (26, .istore_n 3, 1), (27, .aload_n 0, 1), (28, .bipush 61, 2), (30, .invokevirtual 119, 3), (33, .ifCond .ne 5, 3), (36, .iconst 0, 1), (37, .ireturn, 1), (38, .aload_n 0, 1), (39, .invokevirtual 67, 3), (42, .pop, 1), (43, .aload_n 0, 1), (44, .getfield 39, 3), (47, .istore 4, 2), (49, .aload_n 0, 1), (50, .iconst 0, 1), (51, .invokevirtual 122, 3), (54, .ifCond .eq 12, 3), (57, .aload_n 0, 1), (58, .bipush 59, 2), (60, .invokevirtual 119, 3), (63, .ifCond .ne 5, 3), (66, .iconst 0, 1), (67, .ireturn, 1), (68, .aload_n 0, 1), (69, .getfield 46, 3), (72, .iconst 0, 1), (73, .aaload, 1), (74, .getfield 125, 3), (77, .ifCond .eq 11, 3), (80, .aload_n 0, 1), (81, .bipush 6, 2), (83, .iload 4, 2), (85, .invokevirtual 86, 3), (88, .aload_n 0, 1), (89, .getfield 28, 3), (92, .iload_n 3, 1), (93, .aload_n 0, 1), (94, .getfield 46, 3), (97, .iconst 0, 1), (98, .aaload, 1), (99, .invokevirtual 129, 3), (102, .iconst 1, 1), (103, .ireturn, 1)]
def gx_m21 : am_M := (⟨"GrammarStream$TextReader", "readToken", "(Z)Z"⟩, prog_12_method_6_code, 5, (Option.some FieldType.boolean), 1, gx_r21)
theorem gx_d21 : gx_r21.all (fun q => decide (decode prog_12_method_6_code q.1 = .ok q.2)) = true := by decide +kernel
def gx_r22 : List (Nat × Instr × Nat) := [(0, .aload_n 0, 1), (1, .getfield 39, 3), (4, .aload_n 0, 1), (5, .getfield 36, 3), (8, .if_icmp .ge 22, 3), (11, .aload_n 0, 1), (12, .getfield 32, 3), (15, .aload_n 0, 1), (16, .getfield 39, 3), (19, .iaload, 1), (20, .invokestatic 79, 3), (23, .ifCond .eq 7, 3), (26, .iconst 1, 1), (27, .goto 4, 3), (30, .iconst 0, 1), (31, .istore_n 1, 1), (32, .iconst 0, 1), (33, .istore_n 2, 1), (34, .aload_n 0, 1), (35, .getfield 39, 3), (38, .aload_n 0, 1), (39, .getfield 36, 3), (42, .if_icmp .ge 73, 3), (45, .aload_n 0, 1), (46, .getfield 32, 3), (49, .aload_n 0, 1), (50, .getfield 39, 3), (53, .iaload, 1), (54, .istore_n 3, 1), (55, .iload_n 3, 1), (56, .invokestatic 71, 3), (59, .ifCond .ne 32, 3), (62, .iload_n 2, 1), (63, .ifCond .le 15, 3), (66, .iload_n 3, 1), (67, .bipush 48, 2), (69, .if_icmp .lt 9, 3), (72, .iload_n 3, 1), (73, .bipush 57, 2), (75, .if_icmp .le 16, 3), (78, .iload_n 1, 1), (79, .ifCond .eq 10, 3), (82, .iload_n 3, 1), (83, .invokestatic 79, 3), (86, .ifCond .ne 5, 3), (89, .iconst 1, 1), (90, .ireturn, 1), (91, .iload_n 2, 1), (92, .bipush 12, 2), (94, .if_icmp .ne 5, 3), (97, .iconst 0, 1), (98, .ireturn, 1), (99, .aload_n 0, 1), (100, .dup, 1), (101, .getfield 39, 3), (104, .iconst 1, 1), (105, .iadd, 1), (106, .putfield 39, 3), (109, .iinc 2 1, 3), (112, .goto (-78), 3), (115, .iconst 1, 1), (116, .ireturn, 1)]
def gx_m22 : am_M := (⟨"GrammarStream$TextReader", "passName", "()Z"⟩, prog_12_method_23_code, 4, (Option.some FieldType.boolean), 0, gx_r22)
theorem gx_d22 : gx_r22.all (fun q => decide (decode prog_12_method_23_code q.1 = .ok q.2)) = true := by decide +kernel
def gx_r23 : List (Nat × Instr × Nat) := [(0, .iload_n 0, 1), (1, .bipush 65, 2), (3, .if_icmp .lt 13, 3), (6, .iload_n 0, 1), (7, .bipush 90, 2), (9, .if_icmp .gt 7, 3), (12, .iconst 1, 1), (13, .goto 4, 3), (16, .iconst 0, 1), (17, .ireturn, 1)]
def gx_m23 : am_M := (⟨"GrammarStream", "isBig", "(I)Z"⟩, prog_1_method_27_code, 1, (Option.some FieldType.boolean), 1, gx_r23)
theorem gx_d23 : gx_r23.all (fun q => decide (decode prog_1_method_27_code q.1 = .ok q.2)) = true := by decide +kernel
def gx_r24 : List (Nat × Instr × Nat) := [(0, .aload_n 0, 1), (1, .getfield 21, 3), (4, .getfield 133, 3), (7, .aload_n 0, 1), (8, .getfield 32, 3), (11, .iload_n 1, 1), (12, .iload_n 2, 1), (13, .invokevirtual 136, 3), (16, .istore 4, 2), (18, .iload 4, 2), (20, .ifCond .lt 12, 3), (23, .aload_n 0, 1), (24, .iconst 2, 1), (25, .iload_n 1, 1), (26, .invokevirtual 86, 3), (29, .iload 4, 2), (31, .ireturn, 1), (32, .aload_n 0, 1), (33, .getfield 21, 3), (36, .iload_n 1, 1), (37, .iload_n 2, 1), (38, .iload_n 3, 1), (39, .invokevirtual 140, 3), (42, .aload_n 0, 1), (43, .getfield 21, 3), (46, .getfield 133, 3), (49, .getfield 97, 3), (52, .bipush 24, 2), (54, .if_icmp .le 10, 3), (57, .aload_n 0, 1), (58, .bipush 7, 2), (60, .iload_n 1, 1), (61, .invokevirtual 86, 3), (64, .aload_n 0, 1), (65, .getfield 21, 3), (68, .getfield 133, 3), (71, .getfield 97, 3), (74, .iconst 1, 1), (75, .isub, 1), (76, .ireturn, 1)]
def gx_m24 : am_M := (⟨"GrammarStream$TextReader", "numberOfToken", "(IIZ)I"⟩, prog_12_method_7_code, 5, (Option.some FieldType.int), 3, gx_r24)
theorem gx_d24 : gx_r24.all (fun q => decide (decode prog_12_method_7_code q.1 = .ok q.2)) = true := by decide +kernel
def gx_r25 : List (Nat × Instr × Nat) := [(0, .iconst 0, 1), (1, .istore 4, 2), (3, .iload 4, 2), (5, .aload_n 0, 1), (6, .getfield 7, 3), (9, .if_icmp .ge 39, 3), (12, .aload_n 0, 1), (13, .getfield 23, 3), (16, .iload 4, 2), (18, .iaload, 1), (19, .iload_n 3, 1), (20, .if_icmp .ne 22, 3), (23, .aload_n 1, 1), (24, .aload_n 0, 1), (25, .getfield 19, 3), (28, .iload 4, 2), (30, .iaload, 1), (31, .iload_n 2, 1), (32, .iload_n 3, 1), (33, .invokestatic 26, 3), (36, .ifCond .eq 6, 3), (39, .iload 4, 2), (41, .ireturn, 1), (42, .iinc 4 1, 3), (45, .goto (-42), 3), (48, .iconst (-1), 1), (49, .ireturn, 1)]
def gx_m25 : am_M := (⟨"GrammarStream$Names", "indexOf", "([III)I"⟩, prog_6_method_2_code, 5, (Option.some FieldType.int), 3, gx_r25)
theorem gx_d25 : gx_r25.all (fun q => decide (decode prog_6_method_2_code q.1 = .ok q.2)) = true := by decide +kernel
def gx_r26 : List (Nat × Instr × Nat) := [(0, .iconst 0, 1), (1, .istore 4, 2), (3, .iload 4, 2), (5, .iload_n 3, 1), (6, .if_icmp .ge 26, 3), (9, .aload_n 0, 1), (10, .iload_n 1, 1), (11, .iload 4, 2), (13, .iadd, 1), (14, .iaload, 1), (15, .aload_n 0, 1), (16, .iload_n 2, 1), (17, .iload 4, 2), (19, .iadd, 1), (20, .iaload, 1), (21, .if_icmp .eq 5, 3), (24, .iconst 0, 1), (25, .ireturn, 1), (26, .iinc 4 1, 3), (29, .goto (-26), 3), (32, .iconst 1, 1), (33, .ireturn, 1)]
def gx_m26 : am_M := (⟨"GrammarStream$Names", "sameBytes", "([IIII)Z"⟩, prog_6_method_4_code, 5, (Option.some FieldType.boolean), 4, gx_r26)
theorem gx_d26 : gx_r26.all (fun q => decide (decode prog_6_method_4_code q.1 = .ok q.2)) = true := by decide +kernel
def gx_r27 : List (Nat × Instr × Nat) := [(0, .iload_n 2, 1), (1, .aload_n 0, 1), (2, .getfield 15, 3), (5, .if_icmp .lt 19, 3), (8, .iload_n 2, 1), (9, .aload_n 0, 1), (10, .getfield 15, 3), (13, .if_icmp .ne 15, 3), (16, .iload_n 1, 1), (17, .aload_n 0, 1), (18, .getfield 9, 3), (21, .if_icmp .ge 7, 3), (24, .iconst 1, 1), (25, .goto 4, 3), (28, .iconst 0, 1), (29, .istore_n 3, 1), (30, .aload_n 0, 1), (31, .getfield 9, 3), (34, .ifCond .eq 7, 3), (37, .iload_n 3, 1), (38, .ifCond .eq 13, 3), (41, .aload_n 0, 1), (42, .iload_n 1, 1), (43, .putfield 9, 3), (46, .aload_n 0, 1), (47, .iload_n 2, 1), (48, .putfield 15, 3), (51, .return_, 1)]
def gx_m27 : am_M := (⟨"GrammarStream$TextReader", "tellFault", "(II)V"⟩, prog_12_method_4_code, 4, (Option.none : Option FieldType), 2, gx_r27)
theorem gx_d27 : gx_r27.all (fun q => decide (decode prog_12_method_4_code q.1 = .ok q.2)) = true := by decide +kernel
end
section
def gx_r28 : List (Nat × Instr × Nat) := [(0, .aload_n 0, 1), (1, .getfield 14, 3), (4, .getfield 47, 3), (7, .aload_n 0, 1), (8, .getfield 20, 3), (11, .arraylength, 1), (12, .if_icmp .ge 16, 3), (15, .aload_n 0, 1), (16, .getfield 20, 3), (19, .aload_n 0, 1), (20, .getfield 14, 3), (23, .getfield 47, 3), (26, .iload_n 3, 1), (27, .bastore, 1), (28, .aload_n 0, 1), (29, .getfield 14, 3), (32, .iload_n 1, 1), (33, .iload_n 2, 1), (34, .invokevirtual 50, 3), (37, .return_, 1)]
def gx_m28 : am_M := (⟨"GrammarStream$Outline", "addToken", "(IIZ)V"⟩, prog_7_method_3_code, 4, (Option.none : Option FieldType), 3, gx_r28)
theorem gx_d28 : gx_r28.all (fun q => decide (decode prog_7_method_3_code q.1 = .ok q.2)) = true := by decide +kernel
def gx_r29 : List (Nat × Instr × Nat) := [(0, .aload_n 0, 1), (1, .getfield 7, 3), (4, .aload_n 0, 1), (5, .getfield 19, 3), (8, .arraylength, 1), (9, .if_icmp .ge 33, 3), (12, .aload_n 0, 1), (13, .getfield 19, 3), (16, .aload_n 0, 1), (17, .getfield 7, 3), (20, .iload_n 1, 1), (21, .iastore, 1), (22, .aload_n 0, 1), (23, .getfield 23, 3), (26, .aload_n 0, 1), (27, .getfield 7, 3), (30, .iload_n 2, 1), (31, .iastore, 1), (32, .aload_n 0, 1), (33, .dup, 1), (34, .getfield 7, 3), (37, .iconst 1, 1), (38, .iadd, 1), (39, .putfield 7, 3), (42, .return_, 1)]
def gx_m29 : am_M := (⟨"GrammarStream$Names", "add", "(II)V"⟩, prog_6_method_3_code, 3, (Option.none : Option FieldType), 2, gx_r29)
theorem gx_d29 : gx_r29.all (fun q => decide (decode prog_6_method_3_code q.1 = .ok q.2)) = true := by decide +kernel
def gx_r30 : List (Nat × Instr × Nat) := [(0, .aload_n 0, 1), (1, .invokevirtual 67, 3), (4, .iload_n 1, 1), (5, .if_icmp .eq 5, 3), (8, .iconst 0, 1), (9, .ireturn, 1), (10, .aload_n 0, 1), (11, .dup, 1), (12, .getfield 39, 3), (15, .iconst 1, 1), (16, .iadd, 1), (17, .putfield 39, 3), (20, .iconst 1, 1), (21, .ireturn, 1)]
def gx_m30 : am_M := (⟨"GrammarStream$TextReader", "pass", "(I)Z"⟩, prog_12_method_22_code, 2, (Option.some FieldType.boolean), 1, gx_r30)
theorem gx_d30 : gx_r30.all (fun q => decide (decode prog_12_method_22_code q.1 = .ok q.2)) = true := by decide +kernel
def gx_r31 : List (Nat × Instr × Nat) := [(0, .aload_n 0, 1), (1, .getfield 46, 3), (4, .iload_n 1, 1), (5, .aaload, 1), (6, .astore_n 2, 1), (7, .aload_n 0, 1), (8, .getfield 50, 3), (11, .iload_n 1, 1), (12, .aaload, 1), (13, .astore_n 3, 1), (14, .aload_n 2, 1), (15, .iconst 0, 1), (16, .invokevirtual 177, 3), (19, .aload_n 3, 1), (20, .iconst 1, 1), (21, .invokevirtual 177, 3), (24, .iconst 0, 1), (25, .istore 4, 2), (27, .iconst 0, 1), (28, .istore 5, 2), (30, .iload 5, 2), (32, .aload_n 0, 1), (33, .getfield 36, 3), (36, .if_icmp .gt 109, 3), (39, .aload_n 0, 1), (40, .invokevirtual 67, 3), (43, .istore 6, 2), (45, .iload 6, 2), (47, .bipush 124, 2), (49, .if_icmp .ne 34, 3), (52, .iload 4, 2), (54, .ifCond .le 29, 3), (57, .aload_n 0, 1), (58, .dup, 1), (59, .getfield 39, 3), (62, .iconst 1, 1), (63, .iadd, 1), (64, .putfield 39, 3), (67, .aload_n 2, 1), (68, .aload_n 3, 1), (69, .invokevirtual 180, 3), (72, .aload_n 3, 1), (73, .iconst 1, 1), (74, .invokevirtual 177, 3), (77, .iconst 0, 1), (78, .istore 4, 2), (80, .goto 59, 3), (83, .iload 6, 2), (85, .invokestatic 184, 3), (88, .ifCond .ne 6, 3), (91, .goto 54, 3), (94, .aload_n 0, 1), (95, .iload_n 1, 1), (96, .iload 6, 2), (98, .invokevirtual 187, 3), (101, .ifCond .ne 5, 3), (104, .iconst 0, 1), (105, .ireturn, 1), (106, .aload_n 0, 1), (107, .getfield 28, 3), (110, .aload_n 3, 1), (111, .getfield 191, 3), (114, .aload_n 0, 1), (115, .getfield 53, 3), (118, .iload_n 1, 1), (119, .aaload, 1), (120, .getfield 195, 3), (123, .invokevirtual 198, 3), (126, .aload_n 3, 1), (127, .aload_n 0, 1), (128, .getfield 53, 3), (131, .iload_n 1, 1), (132, .aaload, 1), (133, .invokevirtual 202, 3), (136, .iinc 4 1, 3), (139, .iinc 5 1, 3), (142, .goto (-112), 3), (145, .aload_n 2, 1), (146, .aload_n 3, 1), (147, .invokevirtual 180, 3), (150, .iload 4, 2), (152, .ifCond .le 7, 3), (155, .iconst 1, 1), (156, .goto 4, 3), (159, .iconst 0, 1), (160, .ireturn, 1)]
def gx_m31 : am_M := (⟨"GrammarStream$TextReader", "readExp", "(I)Z"⟩, prog_12_method_12_code, 7, (Option.some FieldType.boolean), 1, gx_r31)
theorem gx_d31 : gx_r31.all (fun q => decide (decode prog_12_method_12_code q.1 = .ok q.2)) = true := by decide +kernel
def gx_r32 : List (Nat × Instr × Nat) := [(0, .aload_n 0, 1), (1, .iload_n 1, 1), (2, .putfield 9, 3), (5, .aload_n 0, 1), (6, .getfield 15, 3), (9, .lconst 0, 1), (10, .invokestatic 22, 3), (13, .aload_n 0, 1), (14, .getfield 19, 3), (17, .lconst 0, 1), (18, .invokestatic 22, 3), (21, .return_, 1)]
def gx_m32 : am_M := (⟨"GrammarStream$Piece", "clear", "(Z)V"⟩, prog_9_method_2_code, 2, (Option.none : Option FieldType), 1, gx_r32)
theorem gx_d32 : gx_r32.all (fun q => decide (decode prog_9_method_2_code q.1 = .ok q.2)) = true := by decide +kernel
def gx_r33 : List (Nat × Instr × Nat) := [(0, .aload_n 0, 1), (1, .aload_n 0, 1), (2, .getfield 9, 3), (5, .ifCond .ne 10, 3), (8, .aload_n 1, 1), (9, .getfield 9, 3), (12, .ifCond .eq 7, 3), (15, .iconst 1, 1), (16, .goto 4, 3), (19, .iconst 0, 1), (20, .putfield 9, 3), (23, .aload_n 0, 1), (24, .getfield 15, 3), (27, .aload_n 1, 1), (28, .getfield 15, 3), (31, .invokestatic 28, 3), (34, .aload_n 0, 1), (35, .getfield 19, 3), (38, .aload_n 1, 1), (39, .getfield 19, 3), (42, .invokestatic 28, 3), (45, .return_, 1)]
def gx_m33 : am_M := (⟨"GrammarStream$Piece", "orElse", "(LGrammarStream$Piece;)V"⟩, prog_9_method_4_code, 2, (Option.none : Option FieldType), 1, gx_r33)
theorem gx_d33 : gx_r33.all (fun q => decide (decode prog_9_method_4_code q.1 = .ok q.2)) = true := by decide +kernel
def gx_r34 : List (Nat × Instr × Nat) := [(0, .iconst 0, 1), (1, .istore_n 2, 1), (2, .iload_n 2, 1), (3, .bipush 10, 2), (5, .if_icmp .ge 18, 3), (8, .aload_n 0, 1), (9, .iload_n 2, 1), (10, .dup2, 1), (11, .laload, 1), (12, .aload_n 1, 1), (13, .iload_n 2, 1), (14, .laload, 1), (15, .lor, 1), (16, .lastore, 1), (17, .iinc 2 1, 3), (20, .goto (-18), 3), (23, .return_, 1)]
def gx_m34 : am_M := (⟨"GrammarStream$Piece", "addAll", "([J[J)V"⟩, prog_9_method_6_code, 3, (Option.none : Option FieldType), 2, gx_r34)
theorem gx_d34 : gx_r34.all (fun q => decide (decode prog_9_method_6_code q.1 = .ok q.2)) = true := by decide +kernel
def gx_r35 : List (Nat × Instr × Nat) := [(0, .iload_n 0, 1), (1, .lookupswitch 69 #[(41, 67), (42, 67), (43, 67), (59, 67), (63, 67), (93, 67), (124, 67)], 67), (68, .iconst 0, 1), (69, .ireturn, 1), (70, .iload_n 0, 1), (71, .bipush 32, 2), (73, .if_icmp .le 13, 3), (76, .iload_n 0, 1), (77, .bipush 126, 2), (79, .if_icmp .gt 7, 3), (82, .iconst 1, 1), (83, .goto 4, 3), (86, .iconst 0, 1), (87, .ireturn, 1)]
def gx_m35 : am_M := (⟨"GrammarStream$TextReader", "canBeginAtom", "(I)Z"⟩, prog_12_method_25_code, 1, (Option.some FieldType.boolean), 1, gx_r35)
theorem gx_d35 : gx_r35.all (fun q => decide (decode prog_12_method_25_code q.1 = .ok q.2)) = true := by decide +kernel
def gx_r36 : List (Nat × Instr × Nat) := [(0, .iload_n 2, 1), (1, .bipush 40, 2), (3, .if_icmp .ne 14, 3), (6, .aload_n 0, 1), (7, .iload_n 1, 1), (8, .invokevirtual 205, 3), (11, .ifCond .eq 15, 3), (14, .goto 14, 3), (17, .aload_n 0, 1), (18, .iload_n 1, 1), (19, .iload_n 2, 1), (20, .invokevirtual 208, 3), (23, .ifCond .ne 5, 3), (26, .iconst 0, 1), (27, .ireturn, 1), (28, .aload_n 0, 1), (29, .getfield 53, 3), (32, .iload_n 1, 1), (33, .aaload, 1), (34, .astore_n 3, 1), (35, .aload_n 0, 1), (36, .invokevirtual 67, 3), (39, .istore 4, 2), (41, .iload 4, 2), (43, .bipush 42, 2), (45, .if_icmp .eq 19, 3), (48, .iload 4, 2), (50, .bipush 43, 2), (52, .if_icmp .eq 12, 3), (55, .iload 4, 2), (57, .bipush 63, 2), (59, .if_icmp .eq 5, 3), (62, .iconst 1, 1), (63, .ireturn, 1), (64, .aload_n 0, 1), (65, .dup, 1), (66, .getfield 39, 3), (69, .iconst 1, 1), (70, .iadd, 1), (71, .putfield 39, 3), (74, .iload 4, 2), (76, .bipush 63, 2), (78, .if_icmp .eq 18, 3), (81, .aload_n 0, 1), (82, .getfield 28, 3), (85, .aload_n 3, 1), (86, .getfield 191, 3), (89, .aload_n 3, 1), (90, .getfield 195, 3), (93, .invokevirtual 198, 3), (96, .iload 4, 2), (98, .bipush 43, 2), (100, .if_icmp .eq 8, 3), (103, .aload_n 3, 1), (104, .iconst 1, 1), (105, .putfield 125, 3), (108, .iconst 1, 1), (109, .ireturn, 1)]
def gx_m36 : am_M := (⟨"GrammarStream$TextReader", "readOne", "(II)Z"⟩, prog_12_method_13_code, 5, (Option.some FieldType.boolean), 2, gx_r36)
theorem gx_d36 : gx_r36.all (fun q => decide (decode prog_12_method_13_code q.1 = .ok q.2)) = true := by decide +kernel
def gx_r37 : List (Nat × Instr × Nat) := [(0, .iload_n 1, 1), (1, .bipush 20, 2), (3, .if_icmp .lt 5, 3), (6, .iconst 0, 1), (7, .ireturn, 1), (8, .aload_n 0, 1), (9, .dup, 1), (10, .getfield 39, 3), (13, .iconst 1, 1), (14, .iadd, 1), (15, .putfield 39, 3), (18, .aload_n 0, 1), (19, .iload_n 1, 1), (20, .iconst 1, 1), (21, .iadd, 1), (22, .invokevirtual 122, 3), (25, .ifCond .eq 12, 3), (28, .aload_n 0, 1), (29, .bipush 41, 2), (31, .invokevirtual 119, 3), (34, .ifCond .ne 5, 3), (37, .iconst 0, 1), (38, .ireturn, 1), (39, .aload_n 0, 1), (40, .getfield 53, 3), (43, .iload_n 1, 1), (44, .aaload, 1), (45, .iconst 0, 1), (46, .invokevirtual 177, 3), (49, .aload_n 0, 1), (50, .getfield 53, 3), (53, .iload_n 1, 1), (54, .aaload, 1), (55, .aload_n 0, 1), (56, .getfield 46, 3), (59, .iload_n 1, 1), (60, .iconst 1, 1), (61, .iadd, 1), (62, .aaload, 1), (63, .invokevirtual 180, 3), (66, .iconst 1, 1), (67, .ireturn, 1)]
def gx_m37 : am_M := (⟨"GrammarStream$TextReader", "readBrackets", "(I)Z"⟩, prog_12_method_14_code, 2, (Option.some FieldType.boolean), 1, gx_r37)
theorem gx_d37 : gx_r37.all (fun q => decide (decode prog_12_method_14_code q.1 = .ok q.2)) = true := by decide +kernel
def gx_r38 : List (Nat × Instr × Nat) := [(0, .aload_n 0, 1), (1, .invokevirtual 211, 3), (4, .iload_n 2, 1), (5, .bipush 46, 2), (7, .if_icmp .ne 20, 3), (10, .aload_n 0, 1), (11, .dup, 1), (12, .getfield 39, 3), (15, .iconst 1, 1), (16, .iadd, 1), (17, .putfield 39, 3), (20, .aload_n 0, 1), (21, .invokevirtual 214, 3), (24, .goto 47, 3), (27, .iload_n 2, 1), (28, .bipush 91, 2), (30, .if_icmp .ne 22, 3), (33, .aload_n 0, 1), (34, .dup, 1), (35, .getfield 39, 3), (38, .iconst 1, 1), (39, .iadd, 1), (40, .putfield 39, 3), (43, .aload_n 0, 1), (44, .invokevirtual 217, 3), (47, .ifCond .ne 24, 3), (50, .iconst 0, 1), (51, .ireturn, 1), (52, .aload_n 0, 1), (53, .iload_n 2, 1), (54, .invokevirtual 220, 3), (57, .istore_n 3, 1), (58, .iload_n 3, 1), (59, .ifCond .ge 5, 3), (62, .iconst 0, 1), (63, .ireturn, 1), (64, .aload_n 0, 1), (65, .getfield 56, 3), (68, .iload_n 3, 1), (69, .iconst 1, 1), (70, .bastore, 1), (71, .aload_n 0, 1), (72, .getfield 53, 3), (75, .iload_n 1, 1), (76, .aaload, 1), (77, .aload_n 0, 1), (78, .getfield 28, 3), (81, .aload_n 0, 1), (82, .getfield 56, 3), (85, .invokevirtual 224, 3), (88, .invokevirtual 227, 3), (91, .iconst 1, 1), (92, .ireturn, 1)]
def gx_m38 : am_M := (⟨"GrammarStream$TextReader", "readPlace", "(II)Z"⟩, prog_12_method_15_code, 4, (Option.some FieldType.boolean), 2, gx_r38)
theorem gx_d38 : gx_r38.all (fun q => decide (decode prog_12_method_15_code q.1 = .ok q.2)) = true := by decide +kernel
def gx_r39 : List (Nat × Instr × Nat) := [(0, .iconst 0, 1), (1, .istore_n 1, 1), (2, .iload_n 1, 1), (3, .sipush 256, 3), (6, .if_icmp .ge 16, 3), (9, .aload_n 0, 1), (10, .getfield 56, 3), (13, .iload_n 1, 1), (14, .iconst 0, 1), (15, .bastore, 1), (16, .iinc 1 1, 3), (19, .goto (-17), 3), (22, .return_, 1)]
def gx_m39 : am_M := (⟨"GrammarStream$TextReader", "clearTaken", "()V"⟩, prog_12_method_18_code, 2, (Option.none : Option FieldType), 0, gx_r39)
theorem gx_d39 : gx_r39.all (fun q => decide (decode prog_12_method_18_code q.1 = .ok q.2)) = true := by decide +kernel
def gx_r40 : List (Nat × Instr × Nat) := [(0, .iconst 0, 1), (1, .istore_n 1, 1), (2, .iload_n 1, 1), (3, .sipush 256, 3), (6, .if_icmp .ge 41, 3), (9, .aload_n 0, 1), (10, .getfield 56, 3), (13, .iload_n 1, 1), (14, .iload_n 1, 1), (15, .bipush 32, 2), (17, .if_icmp .lt 22, 3), (20, .iload_n 1, 1), (21, .bipush 126, 2), (23, .if_icmp .gt 16, 3), (26, .aload_n 0, 1), (27, .getfield 56, 3), (30, .iload_n 1, 1), (31, .baload, 1), (32, .ifCond .ne 7, 3), (35, .iconst 1, 1), (36, .goto 4, 3), (39, .iconst 0, 1), (40, .bastore, 1), (41, .iinc 1 1, 3), (44, .goto (-42), 3), (47, .return_, 1)]
def gx_m40 : am_M := (⟨"GrammarStream$TextReader", "turnTaken", "()V"⟩, prog_12_method_20_code, 2, (Option.none : Option FieldType), 0, gx_r40)
theorem gx_d40 : gx_r40.all (fun q => decide (decode prog_12_method_20_code q.1 = .ok q.2)) = true := by decide +kernel
def gx_r41 : List (Nat × Instr × Nat) := [(0, .aload_n 0, 1), (1, .invokevirtual 67, 3), (4, .bipush 94, 2), (6, .if_icmp .ne 7, 3), (9, .iconst 1, 1), (10, .goto 4, 3), (13, .iconst 0, 1), (14, .istore_n 1, 1), (15, .iload_n 1, 1), (16, .ifCond .eq 13, 3), (19, .aload_n 0, 1), (20, .dup, 1), (21, .getfield 39, 3), (24, .iconst 1, 1), (25, .iadd, 1), (26, .putfield 39, 3), (29, .aload_n 0, 1), (30, .invokevirtual 67, 3), (33, .istore_n 2, 1), (34, .iconst 0, 1), (35, .istore_n 3, 1), (36, .iload_n 3, 1), (37, .aload_n 0, 1), (38, .getfield 36, 3), (41, .if_icmp .gt 133, 3), (44, .iload_n 3, 1), (45, .ifCond .eq 9, 3), (48, .iload_n 2, 1), (49, .bipush 93, 2), (51, .if_icmp .eq 123, 3), (54, .aload_n 0, 1), (55, .getfield 39, 3), (58, .istore 4, 2), (60, .iload_n 2, 1), (61, .invokestatic 230, 3), (64, .ifCond .eq 11, 3), (67, .aload_n 0, 1), (68, .iload_n 2, 1), (69, .invokevirtual 220, 3), (72, .goto 4, 3), (75, .iconst (-1), 1), (76, .istore 5, 2), (78, .iload 5, 2), (80, .istore 6, 2), (82, .iload 5, 2), (84, .ifCond .lt 45, 3), (87, .aload_n 0, 1), (88, .invokevirtual 67, 3), (91, .bipush 45, 2), (93, .if_icmp .ne 36, 3), (96, .aload_n 0, 1), (97, .dup, 1), (98, .getfield 39, 3), (101, .iconst 1, 1), (102, .iadd, 1), (103, .putfield 39, 3), (106, .aload_n 0, 1), (107, .invokevirtual 67, 3), (110, .istore_n 2, 1), (111, .iload_n 2, 1), (112, .invokestatic 230, 3), (115, .ifCond .eq 11, 3), (118, .aload_n 0, 1), (119, .iload_n 2, 1), (120, .invokevirtual 220, 3), (123, .goto 4, 3), (126, .iconst (-1), 1), (127, .istore 6, 2), (129, .iload 5, 2), (131, .ifCond .lt 8, 3), (134, .iload 6, 2), (136, .ifCond .ge 5, 3), (139, .iconst 0, 1), (140, .ireturn, 1), (141, .iload 5, 2), (143, .iload 6, 2), (145, .if_icmp .le 10, 3), (148, .aload_n 0, 1), (149, .iconst 5, 1), (150, .iload 4, 2), (152, .invokevirtual 86, 3), (155, .aload_n 0, 1), (156, .iload 5, 2), (158, .iload 6, 2), (160, .invokevirtual 233, 3), (163, .aload_n 0, 1), (164, .invokevirtual 67, 3), (167, .istore_n 2, 1), (168, .iinc 3 1, 3), (171, .goto (-135), 3), (174, .iload_n 1, 1), (175, .ifCond .eq 7, 3), (178, .aload_n 0, 1), (179, .invokevirtual 214, 3), (182, .aload_n 0, 1), (183, .dup, 1), (184, .getfield 39, 3), (187, .iconst 1, 1), (188, .iadd, 1), (189, .putfield 39, 3), (192, .iload_n 2, 1), (193, .bipush 93, 2), (195, .if_icmp .ne 7, 3), (198, .iconst 1, 1), (199, .goto 4, 3), (202, .iconst 0, 1), (203, .ireturn, 1)]
def gx_m41 : am_M := (⟨"GrammarStream$TextReader", "readSet", "()Z"⟩, prog_12_method_16_code, 7, (Option.some FieldType.boolean), 0, gx_r41)
theorem gx_d41 : gx_r41.all (fun q => decide (decode prog_12_method_16_code q.1 = .ok q.2)) = true := by decide +kernel
def gx_r42 : List (Nat × Instr × Nat) := [(0, .iload_n 0, 1), (1, .bipush 32, 2), (3, .if_icmp .le 25, 3), (6, .iload_n 0, 1), (7, .bipush 126, 2), (9, .if_icmp .gt 19, 3), (12, .iload_n 0, 1), (13, .bipush 93, 2), (15, .if_icmp .eq 13, 3), (18, .iload_n 0, 1), (19, .bipush 45, 2), (21, .if_icmp .eq 7, 3), (24, .iconst 1, 1), (25, .goto 4, 3), (28, .iconst 0, 1), (29, .ireturn, 1)]
def gx_m42 : am_M := (⟨"GrammarStream$TextReader", "canBeginItem", "(I)Z"⟩, prog_12_method_24_code, 1, (Option.some FieldType.boolean), 1, gx_r42)
theorem gx_d42 : gx_r42.all (fun q => decide (decode prog_12_method_24_code q.1 = .ok q.2)) = true := by decide +kernel
def gx_r43 : List (Nat × Instr × Nat) := [(0, .aload_n 0, 1), (1, .dup, 1), (2, .getfield 39, 3), (5, .iconst 1, 1), (6, .iadd, 1), (7, .putfield 39, 3), (10, .iload_n 1, 1), (11, .bipush 92, 2), (13, .if_icmp .eq 5, 3), (16, .iload_n 1, 1), (17, .ireturn, 1), (18, .aload_n 0, 1), (19, .getfield 39, 3), (22, .aload_n 0, 1), (23, .getfield 36, 3), (26, .if_icmp .ge 15, 3), (29, .aload_n 0, 1), (30, .getfield 32, 3), (33, .aload_n 0, 1), (34, .getfield 39, 3), (37, .iaload, 1), (38, .goto 4, 3), (41, .iconst (-1), 1), (42, .istore_n 2, 1), (43, .iload_n 2, 1), (44, .bipush 32, 2), (46, .if_icmp .le 9, 3), (49, .iload_n 2, 1), (50, .bipush 126, 2), (52, .if_icmp .le 5, 3), (55, .iconst (-1), 1), (56, .ireturn, 1), (57, .aload_n 0, 1), (58, .dup, 1), (59, .getfield 39, 3), (62, .iconst 1, 1), (63, .iadd, 1), (64, .putfield 39, 3), (67, .iload_n 2, 1), (68, .lookupswitch 45 #[(95, 42), (110, 36), (116, 39)], 36), (104, .bipush 10, 2), (106, .ireturn, 1), (107, .bipush 9, 2), (109, .ireturn, 1), (110, .bipush 32, 2), (112, .ireturn, 1), (113, .iload_n 2, 1), (114, .ireturn, 1)]
def gx_m43 : am_M := (⟨"GrammarStream$TextReader", "readByte", "(I)I"⟩, prog_12_method_17_code, 3, (Option.some FieldType.int), 1, gx_r43)
theorem gx_d43 : gx_r43.all (fun q => decide (decode prog_12_method_17_code q.1 = .ok q.2)) = true := by decide +kernel
def gx_r44 : List (Nat × Instr × Nat) := [(0, .iload_n 1, 1), (1, .istore_n 3, 1), (2, .iload_n 3, 1), (3, .iload_n 2, 1), (4, .if_icmp .gt 23, 3), (7, .iload_n 3, 1), (8, .sipush 256, 3), (11, .if_icmp .ge 16, 3), (14, .aload_n 0, 1), (15, .getfield 56, 3), (18, .iload_n 3, 1), (19, .iconst 1, 1), (20, .bastore, 1), (21, .iinc 3 1, 3), (24, .goto (-22), 3), (27, .return_, 1)]
def gx_m44 : am_M := (⟨"GrammarStream$TextReader", "takeAll", "(II)V"⟩, prog_12_method_19_code, 4, (Option.none : Option FieldType), 2, gx_r44)
theorem gx_d44 : gx_r44.all (fun q => decide (decode prog_12_method_19_code q.1 = .ok q.2)) = true := by decide +kernel
def gx_r45 : List (Nat × Instr × Nat) := [(0, .aload_n 0, 1), (1, .getfield 9, 3), (4, .istore_n 2, 1), (5, .aload_n 0, 1), (6, .dup, 1), (7, .getfield 9, 3), (10, .iconst 1, 1), (11, .iadd, 1), (12, .putfield 9, 3), (15, .iload_n 2, 1), (16, .sipush 600, 3), (19, .if_icmp .lt 5, 3), (22, .iload_n 2, 1), (23, .ireturn, 1), (24, .aload_n 0, 1), (25, .getfield 25, 3), (28, .iload_n 2, 1), (29, .iconst (-1), 1), (30, .iastore, 1), (31, .iconst 0, 1), (32, .istore_n 3, 1), (33, .iload_n 3, 1), (34, .bipush 10, 2), (36, .if_icmp .ge 21, 3), (39, .aload_n 0, 1), (40, .getfield 19, 3), (43, .iload_n 2, 1), (44, .bipush 10, 2), (46, .imul, 1), (47, .iload_n 3, 1), (48, .iadd, 1), (49, .lconst 0, 1), (50, .lastore, 1), (51, .iinc 3 1, 3), (54, .goto (-21), 3), (57, .iconst 0, 1), (58, .istore_n 3, 1), (59, .iload_n 3, 1), (60, .bipush 118, 2), (62, .if_icmp .ge 41, 3), (65, .aload_n 1, 1), (66, .bipush 9, 2), (68, .iload_n 3, 1), (69, .iadd, 1), (70, .baload, 1), (71, .ifCond .eq 26, 3), (74, .aload_n 0, 1), (75, .getfield 15, 3), (78, .iload_n 3, 1), (79, .bipush 10, 2), (81, .imul, 1), (82, .iload_n 2, 1), (83, .bipush 64, 2), (85, .idiv, 1), (86, .iadd, 1), (87, .dup2, 1), (88, .laload, 1), (89, .lconst 1, 1), (90, .iload_n 2, 1), (91, .bipush 64, 2), (93, .irem, 1), (94, .lshl, 1), (95, .lor, 1), (96, .lastore, 1), (97, .iinc 3 1, 3), (100, .goto (-41), 3), (103, .iload_n 2, 1), (104, .ireturn, 1)]
def gx_m45 : am_M := (⟨"GrammarStream$Places", "add", "([Z)I"⟩, prog_10_method_5_code, 4, (Option.some FieldType.int), 1, gx_r45)
theorem gx_d45 : gx_r45.all (fun q => decide (decode prog_10_method_5_code q.1 = .ok q.2)) = true := by decide +kernel
def gx_r46 : List (Nat × Instr × Nat) := [(0, .aload_n 0, 1), (1, .iconst 0, 1), (2, .putfield 9, 3), (5, .iconst 0, 1), (6, .istore_n 2, 1), (7, .iload_n 2, 1), (8, .bipush 10, 2), (10, .if_icmp .ge 42, 3), (13, .iload_n 1, 1), (14, .bipush 64, 2), (16, .idiv, 1), (17, .iload_n 2, 1), (18, .if_icmp .ne 12, 3), (21, .lconst 1, 1), (22, .iload_n 1, 1), (23, .bipush 64, 2), (25, .irem, 1), (26, .lshl, 1), (27, .goto 4, 3), (30, .lconst 0, 1), (31, .lstore_n 3, 1), (32, .aload_n 0, 1), (33, .getfield 15, 3), (36, .iload_n 2, 1), (37, .lload_n 3, 1), (38, .lastore, 1), (39, .aload_n 0, 1), (40, .getfield 19, 3), (43, .iload_n 2, 1), (44, .lload_n 3, 1), (45, .lastore, 1), (46, .iinc 2 1, 3), (49, .goto (-42), 3), (52, .return_, 1)]
def gx_m46 : am_M := (⟨"GrammarStream$Piece", "setPlace", "(I)V"⟩, prog_9_method_3_code, 5, (Option.none : Option FieldType), 1, gx_r46)
theorem gx_d46 : gx_r46.all (fun q => decide (decode prog_9_method_3_code q.1 = .ok q.2)) = true := by decide +kernel
def gx_r47 : List (Nat × Instr × Nat) := [(0, .aload_n 0, 1), (1, .invokevirtual 35, 3), (4, .istore_n 3, 1), (5, .aload_n 0, 1), (6, .invokevirtual 39, 3), (9, .istore 4, 2), (11, .iconst 0, 1), (12, .istore 5, 2), (14, .iload 5, 2), (16, .iload_n 3, 1), (17, .if_icmp .ge 55, 3), (20, .aload_n 1, 1), (21, .iconst 0, 1), (22, .iload 5, 2), (24, .invokestatic 42, 3), (27, .ifCond .eq 39, 3), (30, .iconst 0, 1), (31, .istore 6, 2), (33, .iload 6, 2), (35, .iload 4, 2), (37, .if_icmp .ge 29, 3), (40, .aload_n 0, 1), (41, .getfield 19, 3), (44, .iload 5, 2), (46, .bipush 10, 2), (48, .imul, 1), (49, .iload 6, 2), (51, .iadd, 1), (52, .dup2, 1), (53, .laload, 1), (54, .aload_n 2, 1), (55, .iload 6, 2), (57, .laload, 1), (58, .lor, 1), (59, .lastore, 1), (60, .iinc 6 1, 3), (63, .goto (-30), 3), (66, .iinc 5 1, 3), (69, .goto (-55), 3), (72, .return_, 1)]
def gx_m47 : am_M := (⟨"GrammarStream$Places", "link", "([J[J)V"⟩, prog_10_method_6_code, 7, (Option.none : Option FieldType), 2, gx_r47)
theorem gx_d47 : gx_r47.all (fun q => decide (decode prog_10_method_6_code q.1 = .ok q.2)) = true := by decide +kernel
def gx_r48 : List (Nat × Instr × Nat) := [(0, .aload_n 0, 1), (1, .getfield 9, 3), (4, .sipush 600, 3), (7, .if_icmp .ge 10, 3), (10, .aload_n 0, 1), (11, .getfield 9, 3), (14, .goto 6, 3), (17, .sipush 600, 3), (20, .ireturn, 1)]
def gx_m48 : am_M := (⟨"GrammarStream$Places", "held", "()I"⟩, prog_10_method_3_code, 1, (Option.some FieldType.int), 0, gx_r48)
theorem gx_d48 : gx_r48.all (fun q => decide (decode prog_10_method_3_code q.1 = .ok q.2)) = true := by decide +kernel
def gx_r49 : List (Nat × Instr × Nat) := [(0, .aload_n 0, 1), (1, .invokevirtual 35, 3), (4, .bipush 63, 2), (6, .iadd, 1), (7, .bipush 64, 2), (9, .idiv, 1), (10, .ireturn, 1)]
def gx_m49 : am_M := (⟨"GrammarStream$Places", "wordsUsed", "()I"⟩, prog_10_method_4_code, 1, (Option.some FieldType.int), 0, gx_r49)
theorem gx_d49 : gx_r49.all (fun q => decide (decode prog_10_method_4_code q.1 = .ok q.2)) = true := by decide +kernel
def gx_r50 : List (Nat × Instr × Nat) := [(0, .aload_n 0, 1), (1, .iload_n 1, 1), (2, .iload_n 2, 1), (3, .bipush 64, 2), (5, .idiv, 1), (6, .iadd, 1), (7, .laload, 1), (8, .iload_n 2, 1), (9, .bipush 64, 2), (11, .irem, 1), (12, .lushr, 1), (13, .lconst 1, 1), (14, .land, 1), (15, .lconst 0, 1), (16, .lcmp, 1), (17, .ifCond .eq 7, 3), (20, .iconst 1, 1), (21, .goto 4, 3), (24, .iconst 0, 1), (25, .ireturn, 1)]
def gx_m50 : am_M := (⟨"GrammarStream$Places", "holdsPlace", "([JII)Z"⟩, prog_10_method_8_code, 3, (Option.some FieldType.boolean), 3, gx_r50)
theorem gx_d50 : gx_r50.all (fun q => decide (decode prog_10_method_8_code q.1 = .ok q.2)) = true := by decide +kernel
def gx_r51 : List (Nat × Instr × Nat) := [(0, .aload_n 0, 1), (1, .getfield 9, 3), (4, .ifCond .eq 14, 3), (7, .aload_n 0, 1), (8, .getfield 15, 3), (11, .aload_n 1, 1), (12, .getfield 15, 3), (15, .invokestatic 28, 3), (18, .aload_n 1, 1), (19, .getfield 9, 3), (22, .ifCond .ne 11, 3), (25, .aload_n 0, 1), (26, .getfield 19, 3), (29, .lconst 0, 1), (30, .invokestatic 22, 3), (33, .aload_n 0, 1), (34, .getfield 19, 3), (37, .aload_n 1, 1), (38, .getfield 19, 3), (41, .invokestatic 28, 3), (44, .aload_n 0, 1), (45, .aload_n 0, 1), (46, .getfield 9, 3), (49, .ifCond .eq 14, 3), (52, .aload_n 1, 1), (53, .getfield 9, 3), (56, .ifCond .eq 7, 3), (59, .iconst 1, 1), (60, .goto 4, 3), (63, .iconst 0, 1), (64, .putfield 9, 3), (67, .return_, 1)]
def gx_m51 : am_M := (⟨"GrammarStream$Piece", "andThen", "(LGrammarStream$Piece;)V"⟩, prog_9_method_5_code, 2, (Option.none : Option FieldType), 1, gx_r51)
theorem gx_d51 : gx_r51.all (fun q => decide (decode prog_9_method_5_code q.1 = .ok q.2)) = true := by decide +kernel
def gx_r52 : List (Nat × Instr × Nat) := [(0, .iconst 0, 1), (1, .istore_n 3, 1), (2, .iload_n 3, 1), (3, .bipush 10, 2), (5, .if_icmp .ge 24, 3), (8, .aload_n 0, 1), (9, .getfield 22, 3), (12, .iload_n 3, 1), (13, .dup2, 1), (14, .laload, 1), (15, .aload_n 2, 1), (16, .getfield 46, 3), (19, .iload_n 3, 1), (20, .laload, 1), (21, .lor, 1), (22, .lastore, 1), (23, .iinc 3 1, 3), (26, .goto (-24), 3), (29, .aload_n 0, 1), (30, .invokevirtual 35, 3), (33, .istore_n 3, 1), (34, .iconst 0, 1), (35, .istore 4, 2), (37, .iload 4, 2), (39, .iload_n 3, 1), (40, .if_icmp .ge 30, 3), (43, .aload_n 2, 1), (44, .getfield 49, 3), (47, .iconst 0, 1), (48, .iload 4, 2), (50, .invokestatic 42, 3), (53, .ifCond .eq 11, 3), (56, .aload_n 0, 1), (57, .getfield 25, 3), (60, .iload 4, 2), (62, .iload_n 1, 1), (63, .iastore, 1), (64, .iinc 4 1, 3), (67, .goto (-30), 3), (70, .return_, 1)]
def gx_m52 : am_M := (⟨"GrammarStream$Places", "closeToken", "(ILGrammarStream$Piece;)V"⟩, prog_10_method_7_code, 5, (Option.none : Option FieldType), 2, gx_r52)
theorem gx_d52 : gx_r52.all (fun q => decide (decode prog_10_method_7_code q.1 = .ok q.2)) = true := by decide +kernel
def gx_r53 : List (Nat × Instr × Nat) := [(0, .aload_n 0, 1), (1, .getfield 39, 3), (4, .istore_n 1, 1), (5, .aload_n 0, 1), (6, .invokevirtual 112, 3), (9, .ifCond .ne 5, 3), (12, .iconst 0, 1), (13, .ireturn, 1), (14, .aload_n 0, 1), (15, .iload_n 1, 1), (16, .aload_n 0, 1), (17, .getfield 39, 3), (20, .iload_n 1, 1), (21, .isub, 1), (22, .invokevirtual 144, 3), (25, .istore_n 2, 1), (26, .aload_n 0, 1), (27, .bipush 58, 2), (29, .invokevirtual 119, 3), (32, .ifCond .ne 5, 3), (35, .iconst 0, 1), (36, .ireturn, 1), (37, .iconst 0, 1), (38, .istore_n 3, 1), (39, .iload_n 3, 1), (40, .aload_n 0, 1), (41, .getfield 36, 3), (44, .if_icmp .gt 45, 3), (47, .aload_n 0, 1), (48, .iload_n 2, 1), (49, .invokevirtual 147, 3), (52, .ifCond .ne 5, 3), (55, .iconst 0, 1), (56, .ireturn, 1), (57, .aload_n 0, 1), (58, .invokevirtual 67, 3), (61, .bipush 124, 2), (63, .if_icmp .eq 10, 3), (66, .aload_n 0, 1), (67, .bipush 59, 2), (69, .invokevirtual 119, 3), (72, .ireturn, 1), (73, .aload_n 0, 1), (74, .dup, 1), (75, .getfield 39, 3), (78, .iconst 1, 1), (79, .iadd, 1), (80, .putfield 39, 3), (83, .iinc 3 1, 3), (86, .goto (-47), 3), (89, .iconst 0, 1), (90, .ireturn, 1)]
def gx_m53 : am_M := (⟨"GrammarStream$TextReader", "readRules", "()Z"⟩, prog_12_method_8_code, 4, (Option.some FieldType.boolean), 0, gx_r53)
theorem gx_d53 : gx_r53.all (fun q => decide (decode prog_12_method_8_code q.1 = .ok q.2)) = true := by decide +kernel
def gx_r54 : List (Nat × Instr × Nat) := [(0, .aload_n 0, 1), (1, .getfield 21, 3), (4, .getfield 93, 3), (7, .aload_n 0, 1), (8, .getfield 32, 3), (11, .iload_n 1, 1), (12, .iload_n 2, 1), (13, .invokevirtual 136, 3), (16, .istore_n 3, 1), (17, .iload_n 3, 1), (18, .ifCond .lt 5, 3), (21, .iload_n 3, 1), (22, .ireturn, 1), (23, .aload_n 0, 1), (24, .getfield 21, 3), (27, .getfield 93, 3), (30, .iload_n 1, 1), (31, .iload_n 2, 1), (32, .invokevirtual 150, 3), (35, .aload_n 0, 1), (36, .getfield 21, 3), (39, .getfield 93, 3), (42, .getfield 97, 3), (45, .bipush 30, 2), (47, .if_icmp .le 10, 3), (50, .aload_n 0, 1), (51, .bipush 7, 2), (53, .iload_n 1, 1), (54, .invokevirtual 86, 3), (57, .aload_n 0, 1), (58, .getfield 21, 3), (61, .getfield 93, 3), (64, .getfield 97, 3), (67, .iconst 1, 1), (68, .isub, 1), (69, .ireturn, 1)]
def gx_m54 : am_M := (⟨"GrammarStream$TextReader", "numberOfSymbol", "(II)I"⟩, prog_12_method_9_code, 4, (Option.some FieldType.int), 2, gx_r54)
theorem gx_d54 : gx_r54.all (fun q => decide (decode prog_12_method_9_code q.1 = .ok q.2)) = true := by decide +kernel
end
section
def gx_r55 : List (Nat × Instr × Nat) := [(0, .aload_n 0, 1), (1, .invokevirtual 67, 3), (4, .istore_n 2, 1), (5, .aload_n 0, 1), (6, .getfield 21, 3), (9, .iload_n 1, 1), (10, .invokevirtual 153, 3), (13, .aload_n 0, 1), (14, .getfield 21, 3), (17, .getfield 157, 3), (20, .bipush 60, 2), (22, .if_icmp .le 13, 3), (25, .aload_n 0, 1), (26, .bipush 7, 2), (28, .aload_n 0, 1), (29, .getfield 39, 3), (32, .invokevirtual 86, 3), (35, .iconst 0, 1), (36, .istore_n 3, 1), (37, .iload_n 3, 1), (38, .bipush 8, 2), (40, .if_icmp .gt 65, 3), (43, .iload_n 2, 1), (44, .invokestatic 71, 3), (47, .ifCond .ne 10, 3), (50, .iload_n 2, 1), (51, .invokestatic 79, 3), (54, .ifCond .eq 51, 3), (57, .aload_n 0, 1), (58, .getfield 39, 3), (61, .istore 4, 2), (63, .iload_n 3, 1), (64, .bipush 8, 2), (66, .if_icmp .ge 10, 3), (69, .aload_n 0, 1), (70, .invokevirtual 112, 3), (73, .ifCond .ne 5, 3), (76, .iconst 0, 1), (77, .ireturn, 1), (78, .aload_n 0, 1), (79, .getfield 21, 3), (82, .iload 4, 2), (84, .aload_n 0, 1), (85, .getfield 39, 3), (88, .iload 4, 2), (90, .isub, 1), (91, .invokevirtual 160, 3), (94, .aload_n 0, 1), (95, .invokevirtual 67, 3), (98, .istore_n 2, 1), (99, .iinc 3 1, 3), (102, .goto (-65), 3), (105, .iconst 1, 1), (106, .ireturn, 1)]
def gx_m55 : am_M := (⟨"GrammarStream$TextReader", "readRow", "(I)Z"⟩, prog_12_method_10_code, 5, (Option.some FieldType.boolean), 1, gx_r55)
theorem gx_d55 : gx_r55.all (fun q => decide (decode prog_12_method_10_code q.1 = .ok q.2)) = true := by decide +kernel
def gx_r56 : List (Nat × Instr × Nat) := [(0, .aload_n 0, 1), (1, .getfield 43, 3), (4, .bipush 60, 2), (6, .if_icmp .ge 39, 3), (9, .aload_n 0, 1), (10, .getfield 34, 3), (13, .aload_n 0, 1), (14, .getfield 43, 3), (17, .iload_n 1, 1), (18, .iastore, 1), (19, .aload_n 0, 1), (20, .getfield 37, 3), (23, .aload_n 0, 1), (24, .getfield 43, 3), (27, .aload_n 0, 1), (28, .getfield 27, 3), (31, .getfield 47, 3), (34, .iastore, 1), (35, .aload_n 0, 1), (36, .getfield 40, 3), (39, .aload_n 0, 1), (40, .getfield 43, 3), (43, .iconst 0, 1), (44, .iastore, 1), (45, .aload_n 0, 1), (46, .dup, 1), (47, .getfield 43, 3), (50, .iconst 1, 1), (51, .iadd, 1), (52, .putfield 43, 3), (55, .return_, 1)]
def gx_m56 : am_M := (⟨"GrammarStream$Outline", "startRule", "(I)V"⟩, prog_7_method_4_code, 2, (Option.none : Option FieldType), 1, gx_r56)
theorem gx_d56 : gx_r56.all (fun q => decide (decode prog_7_method_4_code q.1 = .ok q.2)) = true := by decide +kernel
def gx_r57 : List (Nat × Instr × Nat) := [(0, .aload_n 0, 1), (1, .getfield 27, 3), (4, .iload_n 1, 1), (5, .iload_n 2, 1), (6, .invokevirtual 50, 3), (9, .aload_n 0, 1), (10, .getfield 43, 3), (13, .iconst 1, 1), (14, .if_icmp .lt 27, 3), (17, .aload_n 0, 1), (18, .getfield 43, 3), (21, .bipush 60, 2), (23, .if_icmp .gt 18, 3), (26, .aload_n 0, 1), (27, .getfield 40, 3), (30, .aload_n 0, 1), (31, .getfield 43, 3), (34, .iconst 1, 1), (35, .isub, 1), (36, .dup2, 1), (37, .iaload, 1), (38, .iconst 1, 1), (39, .iadd, 1), (40, .iastore, 1), (41, .return_, 1)]
def gx_m57 : am_M := (⟨"GrammarStream$Outline", "addItem", "(II)V"⟩, prog_7_method_5_code, 3, (Option.none : Option FieldType), 2, gx_r57)
theorem gx_d57 : gx_r57.all (fun q => decide (decode prog_7_method_5_code q.1 = .ok q.2)) = true := by decide +kernel
def gx_r58 : List (Nat × Instr × Nat) := [(0, .iconst 0, 1), (1, .istore_n 1, 1), (2, .iload_n 1, 1), (3, .aload_n 0, 1), (4, .getfield 21, 3), (7, .getfield 163, 3), (10, .getfield 97, 3), (13, .if_icmp .ge 142, 3), (16, .aload_n 0, 1), (17, .getfield 21, 3), (20, .getfield 163, 3), (23, .getfield 166, 3), (26, .iload_n 1, 1), (27, .iaload, 1), (28, .istore_n 2, 1), (29, .aload_n 0, 1), (30, .getfield 21, 3), (33, .getfield 163, 3), (36, .getfield 168, 3), (39, .iload_n 1, 1), (40, .iaload, 1), (41, .istore_n 3, 1), (42, .aload_n 0, 1), (43, .getfield 32, 3), (46, .iload_n 2, 1), (47, .iaload, 1), (48, .invokestatic 71, 3), (51, .istore 4, 2), (53, .iload 4, 2), (55, .ifCond .eq 13, 3), (58, .aload_n 0, 1), (59, .getfield 21, 3), (62, .getfield 133, 3), (65, .goto 10, 3), (68, .aload_n 0, 1), (69, .getfield 21, 3), (72, .getfield 93, 3), (75, .aload_n 0, 1), (76, .getfield 32, 3), (79, .iload_n 2, 1), (80, .iload_n 3, 1), (81, .invokevirtual 136, 3), (84, .istore 5, 2), (86, .iload 5, 2), (88, .ifCond .ge 12, 3), (91, .aload_n 0, 1), (92, .iconst 3, 1), (93, .iload_n 2, 1), (94, .invokevirtual 86, 3), (97, .goto 27, 3), (100, .iload 4, 2), (102, .ifCond .eq 22, 3), (105, .aload_n 0, 1), (106, .getfield 21, 3), (109, .getfield 171, 3), (112, .iload 5, 2), (114, .baload, 1), (115, .ifCond .eq 9, 3), (118, .aload_n 0, 1), (119, .iconst 4, 1), (120, .iload_n 2, 1), (121, .invokevirtual 86, 3), (124, .aload_n 0, 1), (125, .getfield 21, 3), (128, .getfield 174, 3), (131, .iload_n 1, 1), (132, .iload 4, 2), (134, .ifCond .eq 8, 3), (137, .iload 5, 2), (139, .goto 9, 3), (142, .sipush (-1000), 3), (145, .iload 5, 2), (147, .isub, 1), (148, .iastore, 1), (149, .iinc 1 1, 3), (152, .goto (-150), 3), (155, .return_, 1)]
def gx_m58 : am_M := (⟨"GrammarStream$TextReader", "findItems", "()V"⟩, prog_12_method_11_code, 6, (Option.none : Option FieldType), 0, gx_r58)
theorem gx_d58 : gx_r58.all (fun q => decide (decode prog_12_method_11_code q.1 = .ok q.2)) = true := by decide +kernel
def gx_r59 : List (Nat × Instr × Nat) := [(0, .aload_n 1, 1), (1, .aload_n 0, 1), (2, .getfield 238, 3), (5, .invokevirtual 242, 3), (8, .aload_n 1, 1), (9, .invokevirtual 246, 3), (12, .istore_n 2, 1), (13, .iload_n 2, 1), (14, .ifCond .ge 5, 3), (17, .iconst 1, 1), (18, .ireturn, 1), (19, .aload_n 0, 1), (20, .bipush 9, 2), (22, .aload_n 0, 1), (23, .getfield 238, 3), (26, .getfield 250, 3), (29, .getfield 256, 3), (32, .iload_n 2, 1), (33, .iaload, 1), (34, .invokevirtual 260, 3), (37, .iconst 0, 1), (38, .ireturn, 1)]
def gx_m59 : am_M := (⟨"GrammarStream", "tellsRowsOfAll", "(LGrammarStream$TextReader;LGrammarStream$Grammar;)Z"⟩, prog_1_method_22_code, 3, (Option.some FieldType.boolean), 2, gx_r59)
theorem gx_d59 : gx_r59.all (fun q => decide (decode prog_1_method_22_code q.1 = .ok q.2)) = true := by decide +kernel
def gx_r60 : List (Nat × Instr × Nat) := [(0, .aload_n 0, 1), (1, .aload_n 1, 1), (2, .getfield 54, 3), (5, .getfield 60, 3), (8, .bipush 24, 2), (10, .invokestatic 65, 3), (13, .putfield 18, 3), (16, .aload_n 0, 1), (17, .aload_n 1, 1), (18, .getfield 71, 3), (21, .getfield 60, 3), (24, .bipush 30, 2), (26, .invokestatic 65, 3), (29, .putfield 22, 3), (32, .aload_n 0, 1), (33, .aload_n 1, 1), (34, .getfield 74, 3), (37, .bipush 60, 2), (39, .invokestatic 65, 3), (42, .putfield 25, 3), (45, .iconst 0, 1), (46, .istore_n 2, 1), (47, .iload_n 2, 1), (48, .aload_n 0, 1), (49, .getfield 18, 3), (52, .if_icmp .ge 21, 3), (55, .aload_n 0, 1), (56, .getfield 28, 3), (59, .iload_n 2, 1), (60, .aload_n 1, 1), (61, .getfield 75, 3), (64, .iload_n 2, 1), (65, .baload, 1), (66, .bastore, 1), (67, .iinc 2 1, 3), (70, .goto (-23), 3), (73, .iconst 0, 1), (74, .istore_n 2, 1), (75, .iload_n 2, 1), (76, .aload_n 0, 1), (77, .getfield 25, 3), (80, .if_icmp .ge 65, 3), (83, .aload_n 0, 1), (84, .getfield 32, 3), (87, .iload_n 2, 1), (88, .aload_n 1, 1), (89, .getfield 76, 3), (92, .iload_n 2, 1), (93, .iaload, 1), (94, .iastore, 1), (95, .aload_n 0, 1), (96, .getfield 36, 3), (99, .iload_n 2, 1), (100, .aload_n 1, 1), (101, .getfield 77, 3), (104, .iload_n 2, 1), (105, .iaload, 1), (106, .bipush 8, 2), (108, .invokestatic 65, 3), (111, .iastore, 1), (112, .aload_n 1, 1), (113, .getfield 78, 3), (116, .aload_n 1, 1), (117, .getfield 81, 3), (120, .iload_n 2, 1), (121, .iaload, 1), (122, .aload_n 0, 1), (123, .getfield 39, 3), (126, .iload_n 2, 1), (127, .bipush 8, 2), (129, .imul, 1), (130, .aload_n 0, 1), (131, .getfield 36, 3), (134, .iload_n 2, 1), (135, .iaload, 1), (136, .invokestatic 84, 3), (139, .iinc 2 1, 3), (142, .goto (-67), 3), (145, .return_, 1)]
def gx_m60 : am_M := (⟨"GrammarStream$Grammar", "load", "(LGrammarStream$Outline;)V"⟩, prog_3_method_2_code, 3, (Option.none : Option FieldType), 1, gx_r60)
theorem gx_d60 : gx_r60.all (fun q => decide (decode prog_3_method_2_code q.1 = .ok q.2)) = true := by decide +kernel
def gx_r61 : List (Nat × Instr × Nat) := [(0, .aload_n 0, 1), (1, .iconst 1, 1), (2, .invokevirtual 94, 3), (5, .istore_n 1, 1), (6, .iconst 0, 1), (7, .istore_n 2, 1), (8, .iload_n 2, 1), (9, .aload_n 0, 1), (10, .getfield 22, 3), (13, .if_icmp .ge 19, 3), (16, .iload_n 1, 1), (17, .iload_n 2, 1), (18, .invokestatic 98, 3), (21, .ifCond .ne 5, 3), (24, .iload_n 2, 1), (25, .ireturn, 1), (26, .iinc 2 1, 3), (29, .goto (-21), 3), (32, .iconst (-1), 1), (33, .ireturn, 1)]
def gx_m61 : am_M := (⟨"GrammarStream$Grammar", "firstBarren", "()I"⟩, prog_3_method_8_code, 3, (Option.some FieldType.int), 0, gx_r61)
theorem gx_d61 : gx_r61.all (fun q => decide (decode prog_3_method_8_code q.1 = .ok q.2)) = true := by decide +kernel
def gx_r62 : List (Nat × Instr × Nat) := [(0, .iconst 0, 1), (1, .istore_n 2, 1), (2, .iconst 1, 1), (3, .istore_n 3, 1), (4, .iconst 0, 1), (5, .istore 4, 2), (7, .iload_n 3, 1), (8, .ifCond .eq 73, 3), (11, .iload 4, 2), (13, .bipush 30, 2), (15, .if_icmp .gt 66, 3), (18, .iload_n 2, 1), (19, .istore 5, 2), (21, .iconst 0, 1), (22, .istore 6, 2), (24, .iload 6, 2), (26, .aload_n 0, 1), (27, .getfield 25, 3), (30, .if_icmp .ge 33, 3), (33, .aload_n 0, 1), (34, .iload 6, 2), (36, .iconst 0, 1), (37, .iload_n 2, 1), (38, .iload_n 1, 1), (39, .invokevirtual 108, 3), (42, .ifCond .eq 15, 3), (45, .iload_n 2, 1), (46, .iconst 1, 1), (47, .aload_n 0, 1), (48, .getfield 32, 3), (51, .iload 6, 2), (53, .iaload, 1), (54, .ishl, 1), (55, .ior, 1), (56, .istore_n 2, 1), (57, .iinc 6 1, 3), (60, .goto (-36), 3), (63, .iload_n 2, 1), (64, .iload 5, 2), (66, .if_icmp .eq 7, 3), (69, .iconst 1, 1), (70, .goto 4, 3), (73, .iconst 0, 1), (74, .istore_n 3, 1), (75, .iinc 4 1, 3), (78, .goto (-71), 3), (81, .iload_n 2, 1), (82, .ireturn, 1)]
def gx_m62 : am_M := (⟨"GrammarStream$Grammar", "spread", "(Z)I"⟩, prog_3_method_10_code, 7, (Option.some FieldType.int), 1, gx_r62)
theorem gx_d62 : gx_r62.all (fun q => decide (decode prog_3_method_10_code q.1 = .ok q.2)) = true := by decide +kernel
def gx_r63 : List (Nat × Instr × Nat) := [(0, .iload_n 2, 1), (1, .istore 5, 2), (3, .iload 5, 2), (5, .aload_n 0, 1), (6, .getfield 36, 3), (9, .iload_n 1, 1), (10, .iaload, 1), (11, .if_icmp .ge 46, 3), (14, .aload_n 0, 1), (15, .iload_n 1, 1), (16, .iload 5, 2), (18, .invokevirtual 112, 3), (21, .istore 6, 2), (23, .iload 6, 2), (25, .ifCond .lt 11, 3), (28, .iload 4, 2), (30, .ifCond .ne 21, 3), (33, .goto 16, 3), (36, .iload_n 3, 1), (37, .sipush (-1000), 3), (40, .iload 6, 2), (42, .isub, 1), (43, .invokestatic 98, 3), (46, .ifCond .ne 5, 3), (49, .iconst 0, 1), (50, .ireturn, 1), (51, .iinc 5 1, 3), (54, .goto (-51), 3), (57, .iconst 1, 1), (58, .ireturn, 1)]
def gx_m63 : am_M := (⟨"GrammarStream$Grammar", "isWithin", "(IIIZ)Z"⟩, prog_3_method_11_code, 7, (Option.some FieldType.boolean), 4, gx_r63)
theorem gx_d63 : gx_r63.all (fun q => decide (decode prog_3_method_11_code q.1 = .ok q.2)) = true := by decide +kernel
def gx_r64 : List (Nat × Instr × Nat) := [(0, .aload_n 0, 1), (1, .getfield 39, 3), (4, .iload_n 1, 1), (5, .bipush 8, 2), (7, .imul, 1), (8, .iload_n 2, 1), (9, .iadd, 1), (10, .iaload, 1), (11, .ireturn, 1)]
def gx_m64 : am_M := (⟨"GrammarStream$Grammar", "itemAt", "(II)I"⟩, prog_3_method_7_code, 3, (Option.some FieldType.int), 2, gx_r64)
theorem gx_d64 : gx_r64.all (fun q => decide (decode prog_3_method_7_code q.1 = .ok q.2)) = true := by decide +kernel
def gx_r65 : List (Nat × Instr × Nat) := [(0, .iload_n 0, 1), (1, .iload_n 1, 1), (2, .iushr, 1), (3, .iconst 1, 1), (4, .iand, 1), (5, .ifCond .eq 7, 3), (8, .iconst 1, 1), (9, .goto 4, 3), (12, .iconst 0, 1), (13, .ireturn, 1)]
def gx_m65 : am_M := (⟨"GrammarStream", "hasBit", "(II)Z"⟩, prog_1_method_25_code, 2, (Option.some FieldType.boolean), 2, gx_r65)
theorem gx_d65 : gx_r65.all (fun q => decide (decode prog_1_method_25_code q.1 = .ok q.2)) = true := by decide +kernel
def gx_r66 : List (Nat × Instr × Nat) := [(0, .aload_n 1, 1), (1, .getfield 42, 3), (4, .sipush 600, 3), (7, .if_icmp .le 5, 3), (10, .iconst 0, 1), (11, .ireturn, 1), (12, .aload_n 0, 1), (13, .aload_n 1, 1), (14, .invokevirtual 47, 3), (17, .putfield 38, 3), (20, .aload_n 2, 1), (21, .aload_n 1, 1), (22, .getfield 42, 3), (25, .invokevirtual 51, 3), (28, .aload_n 0, 1), (29, .aload_n 1, 1), (30, .aload_n 2, 1), (31, .invokevirtual 57, 3), (34, .aload_n 0, 1), (35, .getfield 19, 3), (38, .iconst (-1), 1), (39, .invokestatic 61, 3), (42, .aload_n 2, 1), (43, .getfield 67, 3), (46, .iconst 0, 1), (47, .iconst (-1), 1), (48, .iastore, 1), (49, .aload_n 2, 1), (50, .iconst 1, 1), (51, .putfield 70, 3), (54, .aload_n 0, 1), (55, .getfield 15, 3), (58, .iconst 0, 1), (59, .iconst 0, 1), (60, .iastore, 1), (61, .iconst 0, 1), (62, .istore_n 3, 1), (63, .iload_n 3, 1), (64, .aload_n 2, 1), (65, .getfield 70, 3), (68, .if_icmp .ge 28, 3), (71, .iload_n 3, 1), (72, .sipush 400, 3), (75, .if_icmp .ge 21, 3), (78, .aload_n 0, 1), (79, .aload_n 1, 1), (80, .aload_n 2, 1), (81, .iload_n 3, 1), (82, .invokevirtual 73, 3), (85, .ifCond .ne 5, 3), (88, .iconst 0, 1), (89, .ireturn, 1), (90, .iinc 3 1, 3), (93, .goto (-30), 3), (96, .aload_n 0, 1), (97, .aload_n 2, 1), (98, .invokevirtual 77, 3), (101, .iconst 1, 1), (102, .ireturn, 1)]
def gx_m66 : am_M := (⟨"GrammarStream$MachineMaker", "makeMachine", "(LGrammarStream$Places;LGrammarStream$Machine;)Z"⟩, prog_5_method_2_code, 4, (Option.some FieldType.boolean), 2, gx_r66)
theorem gx_d66 : gx_r66.all (fun q => decide (decode prog_5_method_2_code q.1 = .ok q.2)) = true := by decide +kernel
def gx_r67 : List (Nat × Instr × Nat) := [(0, .aload_n 0, 1), (1, .iload_n 1, 1), (2, .putfield 9, 3), (5, .aload_n 0, 1), (6, .iconst 0, 1), (7, .putfield 15, 3), (10, .aload_n 0, 1), (11, .iconst 0, 1), (12, .putfield 18, 3), (15, .aload_n 0, 1), (16, .iconst 0, 1), (17, .putfield 21, 3), (20, .aload_n 0, 1), (21, .getfield 24, 3), (24, .iconst (-1), 1), (25, .invokestatic 38, 3), (28, .aload_n 0, 1), (29, .getfield 35, 3), (32, .iconst 0, 1), (33, .invokestatic 38, 3), (36, .return_, 1)]
def gx_m67 : am_M := (⟨"GrammarStream$Machine", "clear", "(I)V"⟩, prog_4_method_2_code, 2, (Option.none : Option FieldType), 1, gx_r67)
theorem gx_d67 : gx_r67.all (fun q => decide (decode prog_4_method_2_code q.1 = .ok q.2)) = true := by decide +kernel
def gx_r68 : List (Nat × Instr × Nat) := [(0, .iconst 0, 1), (1, .istore_n 2, 1), (2, .aload_n 0, 1), (3, .arraylength, 1), (4, .istore_n 3, 1), (5, .iload_n 2, 1), (6, .iload_n 3, 1), (7, .if_icmp .ge 13, 3), (10, .aload_n 0, 1), (11, .iload_n 2, 1), (12, .iload_n 1, 1), (13, .iastore, 1), (14, .iinc 2 1, 3), (17, .goto (-12), 3), (20, .return_, 1)]
def gx_m68 : am_M := (⟨"java/util/Arrays", "fill", "([II)V"⟩, prog_17_method_103_code, 4, (Option.none : Option FieldType), 2, gx_r68)
theorem gx_d68 : gx_r68.all (fun q => decide (decode prog_17_method_103_code q.1 = .ok q.2)) = true := by decide +kernel
def gx_r69 : List (Nat × Instr × Nat) := [(0, .iconst 0, 1), (1, .istore_n 3, 1), (2, .iload_n 3, 1), (3, .bipush 118, 2), (5, .if_icmp .ge 90, 3), (8, .aload_n 0, 1), (9, .aload_n 1, 1), (10, .iload_n 3, 1), (11, .invokevirtual 81, 3), (14, .ifCond .eq 75, 3), (17, .iconst 0, 1), (18, .istore 4, 2), (20, .iload 4, 2), (22, .aload_n 2, 1), (23, .getfield 85, 3), (26, .if_icmp .ge 25, 3), (29, .aload_n 0, 1), (30, .aload_n 1, 1), (31, .aload_n 0, 1), (32, .getfield 29, 3), (35, .iload 4, 2), (37, .iaload, 1), (38, .iload_n 3, 1), (39, .invokevirtual 88, 3), (42, .ifCond .ne 9, 3), (45, .iinc 4 1, 3), (48, .goto (-28), 3), (51, .iload 4, 2), (53, .aload_n 2, 1), (54, .getfield 85, 3), (57, .if_icmp .ne 21, 3), (60, .aload_n 0, 1), (61, .getfield 29, 3), (64, .iload 4, 2), (66, .iload_n 3, 1), (67, .iastore, 1), (68, .aload_n 2, 1), (69, .dup, 1), (70, .getfield 85, 3), (73, .iconst 1, 1), (74, .iadd, 1), (75, .putfield 85, 3), (78, .aload_n 2, 1), (79, .getfield 92, 3), (82, .bipush 9, 2), (84, .iload_n 3, 1), (85, .iadd, 1), (86, .iload 4, 2), (88, .iastore, 1), (89, .iinc 3 1, 3), (92, .goto (-90), 3), (95, .return_, 1)]
def gx_m69 : am_M := (⟨"GrammarStream$MachineMaker", "sortBytes", "(LGrammarStream$Places;LGrammarStream$Machine;)V"⟩, prog_5_method_3_code, 5, (Option.none : Option FieldType), 2, gx_r69)
theorem gx_d69 : gx_r69.all (fun q => decide (decode prog_5_method_3_code q.1 = .ok q.2)) = true := by decide +kernel
def gx_r70 : List (Nat × Instr × Nat) := [(0, .lconst 0, 1), (1, .lstore_n 3, 1), (2, .iconst 0, 1), (3, .istore 5, 2), (5, .iload 5, 2), (7, .aload_n 0, 1), (8, .getfield 38, 3), (11, .if_icmp .ge 24, 3), (14, .lload_n 3, 1), (15, .aload_n 1, 1), (16, .getfield 95, 3), (19, .iload_n 2, 1), (20, .bipush 10, 2), (22, .imul, 1), (23, .iload 5, 2), (25, .iadd, 1), (26, .laload, 1), (27, .lor, 1), (28, .lstore_n 3, 1), (29, .iinc 5 1, 3), (32, .goto (-27), 3), (35, .lload_n 3, 1), (36, .lconst 0, 1), (37, .lcmp, 1), (38, .ifCond .eq 7, 3), (41, .iconst 1, 1), (42, .goto 4, 3), (45, .iconst 0, 1), (46, .ireturn, 1)]
def gx_m70 : am_M := (⟨"GrammarStream$MachineMaker", "isTaken", "(LGrammarStream$Places;I)Z"⟩, prog_5_method_4_code, 6, (Option.some FieldType.boolean), 2, gx_r70)
theorem gx_d70 : gx_r70.all (fun q => decide (decode prog_5_method_4_code q.1 = .ok q.2)) = true := by decide +kernel
def gx_r71 : List (Nat × Instr × Nat) := [(0, .iconst 0, 1), (1, .istore 4, 2), (3, .iload 4, 2), (5, .aload_n 0, 1), (6, .getfield 38, 3), (9, .if_icmp .ge 39, 3), (12, .aload_n 1, 1), (13, .getfield 95, 3), (16, .iload_n 2, 1), (17, .bipush 10, 2), (19, .imul, 1), (20, .iload 4, 2), (22, .iadd, 1), (23, .laload, 1), (24, .aload_n 1, 1), (25, .getfield 95, 3), (28, .iload_n 3, 1), (29, .bipush 10, 2), (31, .imul, 1), (32, .iload 4, 2), (34, .iadd, 1), (35, .laload, 1), (36, .lcmp, 1), (37, .ifCond .eq 5, 3), (40, .iconst 0, 1), (41, .ireturn, 1), (42, .iinc 4 1, 3), (45, .goto (-42), 3), (48, .iconst 1, 1), (49, .ireturn, 1)]
def gx_m71 : am_M := (⟨"GrammarStream$MachineMaker", "sameTakers", "(LGrammarStream$Places;II)Z"⟩, prog_5_method_5_code, 5, (Option.some FieldType.boolean), 3, gx_r71)
theorem gx_d71 : gx_r71.all (fun q => decide (decode prog_5_method_5_code q.1 = .ok q.2)) = true := by decide +kernel
def gx_r72 : List (Nat × Instr × Nat) := [(0, .aload_n 0, 1), (1, .aload_n 1, 1), (2, .iload_n 3, 1), (3, .invokevirtual 98, 3), (6, .iconst 0, 1), (7, .istore 4, 2), (9, .iload 4, 2), (11, .aload_n 2, 1), (12, .getfield 85, 3), (15, .if_icmp .ge 55, 3), (18, .aload_n 0, 1), (19, .aload_n 1, 1), (20, .aload_n 2, 1), (21, .aload_n 0, 1), (22, .getfield 29, 3), (25, .iload 4, 2), (27, .iaload, 1), (28, .aload_n 0, 1), (29, .getfield 15, 3), (32, .iload_n 3, 1), (33, .iaload, 1), (34, .iconst 1, 1), (35, .iadd, 1), (36, .invokevirtual 102, 3), (39, .istore 5, 2), (41, .iload 5, 2), (43, .bipush (-2), 2), (45, .if_icmp .ne 5, 3), (48, .iconst 0, 1), (49, .ireturn, 1), (50, .aload_n 2, 1), (51, .getfield 106, 3), (54, .iload_n 3, 1), (55, .bipush 118, 2), (57, .imul, 1), (58, .iload 4, 2), (60, .iadd, 1), (61, .iload 5, 2), (63, .iastore, 1), (64, .iinc 4 1, 3), (67, .goto (-58), 3), (70, .iconst 1, 1), (71, .ireturn, 1)]
def gx_m72 : am_M := (⟨"GrammarStream$MachineMaker", "findWays", "(LGrammarStream$Places;LGrammarStream$Machine;I)Z"⟩, prog_5_method_6_code, 6, (Option.some FieldType.boolean), 3, gx_r72)
theorem gx_d72 : gx_r72.all (fun q => decide (decode prog_5_method_6_code q.1 = .ok q.2)) = true := by decide +kernel
def gx_r73 : List (Nat × Instr × Nat) := [(0, .iload_n 2, 1), (1, .ifCond .ne 19, 3), (4, .aload_n 1, 1), (5, .getfield 109, 3), (8, .iconst 0, 1), (9, .aload_n 0, 1), (10, .getfield 32, 3), (13, .iconst 0, 1), (14, .bipush 10, 2), (16, .invokestatic 112, 3), (19, .return_, 1), (20, .aload_n 0, 1), (21, .getfield 32, 3), (24, .lconst 0, 1), (25, .invokestatic 118, 3), (28, .iconst 0, 1), (29, .istore_n 3, 1), (30, .iload_n 3, 1), (31, .aload_n 1, 1), (32, .getfield 42, 3), (35, .if_icmp .ge 64, 3), (38, .aload_n 0, 1), (39, .getfield 9, 3), (42, .iload_n 2, 1), (43, .bipush 10, 2), (45, .imul, 1), (46, .iload_n 3, 1), (47, .invokestatic 121, 3), (50, .ifCond .eq 43, 3), (53, .iconst 0, 1), (54, .istore 4, 2), (56, .iload 4, 2), (58, .aload_n 0, 1), (59, .getfield 38, 3), (62, .if_icmp .ge 31, 3), (65, .aload_n 0, 1), (66, .getfield 32, 3), (69, .iload 4, 2), (71, .dup2, 1), (72, .laload, 1), (73, .aload_n 1, 1), (74, .getfield 125, 3), (77, .iload_n 3, 1), (78, .bipush 10, 2), (80, .imul, 1), (81, .iload 4, 2), (83, .iadd, 1), (84, .laload, 1), (85, .lor, 1), (86, .lastore, 1), (87, .iinc 4 1, 3), (90, .goto (-34), 3), (93, .iinc 3 1, 3), (96, .goto (-66), 3), (99, .return_, 1)]
def gx_m73 : am_M := (⟨"GrammarStream$MachineMaker", "gatherComing", "(LGrammarStream$Places;I)V"⟩, prog_5_method_7_code, 5, (Option.none : Option FieldType), 2, gx_r73)
theorem gx_d73 : gx_r73.all (fun q => decide (decode prog_5_method_7_code q.1 = .ok q.2)) = true := by decide +kernel
def gx_r74 : List (Nat × Instr × Nat) := [(0, .lconst 0, 1), (1, .lstore 5, 2), (3, .lconst 0, 1), (4, .lstore 7, 2), (6, .iconst 0, 1), (7, .istore 9, 2), (9, .iload 9, 2), (11, .aload_n 0, 1), (12, .getfield 38, 3), (15, .if_icmp .ge 74, 3), (18, .aload_n 0, 1), (19, .getfield 35, 3), (22, .iload 9, 2), (24, .aload_n 0, 1), (25, .getfield 32, 3), (28, .iload 9, 2), (30, .laload, 1), (31, .aload_n 1, 1), (32, .getfield 95, 3), (35, .iload_n 3, 1), (36, .bipush 10, 2), (38, .imul, 1), (39, .iload 9, 2), (41, .iadd, 1), (42, .laload, 1), (43, .land, 1), (44, .lastore, 1), (45, .lload 5, 2), (47, .aload_n 0, 1), (48, .getfield 35, 3), (51, .iload 9, 2), (53, .laload, 1), (54, .lor, 1), (55, .lstore 5, 2), (57, .lload 7, 2), (59, .aload_n 0, 1), (60, .getfield 35, 3), (63, .iload 9, 2), (65, .laload, 1), (66, .lxor, 1), (67, .ldc2_w 128, 3), (70, .lmul, 1), (71, .lstore 7, 2), (73, .lload 7, 2), (75, .lload 7, 2), (77, .bipush 29, 2), (79, .lushr, 1), (80, .lxor, 1), (81, .lstore 7, 2), (83, .iinc 9 1, 3), (86, .goto (-77), 3), (89, .lload 5, 2), (91, .lconst 0, 1), (92, .lcmp, 1), (93, .ifCond .ne 5, 3), (96, .iconst (-1), 1), (97, .ireturn, 1), (98, .lload 7, 2), (100, .ldc2_w 130, 3), (103, .land, 1), (104, .l2i, 1), (105, .istore 9, 2), (107, .aload_n 0, 1), (108, .getfield 19, 3), (111, .iload 9, 2), (113, .iaload, 1), (114, .istore 10, 2), (116, .iconst 0, 1), (117, .istore 11, 2), (119, .iload 11, 2), (121, .sipush 400, 3), (124, .if_icmp .ge 35, 3), (127, .iload 10, 2), (129, .ifCond .lt 30, 3), (132, .aload_n 0, 1), (133, .iload 10, 2), (135, .invokevirtual 132, 3), (138, .ifCond .eq 6, 3), (141, .iload 10, 2), (143, .ireturn, 1), (144, .aload_n 0, 1), (145, .getfield 22, 3), (148, .iload 10, 2), (150, .iaload, 1), (151, .istore 10, 2), (153, .iinc 11 1, 3), (156, .goto (-37), 3), (159, .aload_n 0, 1), (160, .aload_n 1, 1), (161, .aload_n 2, 1), (162, .iload 9, 2), (164, .iload 4, 2), (166, .invokevirtual 136, 3), (169, .ireturn, 1)]
def gx_m74 : am_M := (⟨"GrammarStream$MachineMaker", "stateFor", "(LGrammarStream$Places;LGrammarStream$Machine;II)I"⟩, prog_5_method_8_code, 12, (Option.some FieldType.int), 4, gx_r74)
theorem gx_d74 : gx_r74.all (fun q => decide (decode prog_5_method_8_code q.1 = .ok q.2)) = true := by decide +kernel
def gx_r75 : List (Nat × Instr × Nat) := [(0, .iconst 0, 1), (1, .istore_n 2, 1), (2, .iload_n 2, 1), (3, .aload_n 0, 1), (4, .getfield 38, 3), (7, .if_icmp .ge 32, 3), (10, .aload_n 0, 1), (11, .getfield 9, 3), (14, .iload_n 1, 1), (15, .bipush 10, 2), (17, .imul, 1), (18, .iload_n 2, 1), (19, .iadd, 1), (20, .laload, 1), (21, .aload_n 0, 1), (22, .getfield 35, 3), (25, .iload_n 2, 1), (26, .laload, 1), (27, .lcmp, 1), (28, .ifCond .eq 5, 3), (31, .iconst 0, 1), (32, .ireturn, 1), (33, .iinc 2 1, 3), (36, .goto (-34), 3), (39, .iconst 1, 1), (40, .ireturn, 1)]
def gx_m75 : am_M := (⟨"GrammarStream$MachineMaker", "isReached", "(I)Z"⟩, prog_5_method_9_code, 3, (Option.some FieldType.boolean), 1, gx_r75)
theorem gx_d75 : gx_r75.all (fun q => decide (decode prog_5_method_9_code q.1 = .ok q.2)) = true := by decide +kernel
def gx_r76 : List (Nat × Instr × Nat) := [(0, .aload_n 2, 1), (1, .getfield 70, 3), (4, .istore 5, 2), (6, .iload 5, 2), (8, .sipush 400, 3), (11, .if_icmp .lt 6, 3), (14, .bipush (-2), 2), (16, .ireturn, 1), (17, .aload_n 2, 1), (18, .dup, 1), (19, .getfield 70, 3), (22, .iconst 1, 1), (23, .iadd, 1), (24, .putfield 70, 3), (27, .aload_n 0, 1), (28, .getfield 35, 3), (31, .iconst 0, 1), (32, .aload_n 0, 1), (33, .getfield 9, 3), (36, .iload 5, 2), (38, .bipush 10, 2), (40, .imul, 1), (41, .aload_n 0, 1), (42, .getfield 38, 3), (45, .invokestatic 112, 3), (48, .aload_n 0, 1), (49, .getfield 15, 3), (52, .iload 5, 2), (54, .iload 4, 2), (56, .iastore, 1), (57, .aload_n 0, 1), (58, .getfield 22, 3), (61, .iload 5, 2), (63, .aload_n 0, 1), (64, .getfield 19, 3), (67, .iload_n 3, 1), (68, .iaload, 1), (69, .iastore, 1), (70, .aload_n 0, 1), (71, .getfield 19, 3), (74, .iload_n 3, 1), (75, .iload 5, 2), (77, .iastore, 1), (78, .aload_n 0, 1), (79, .aload_n 1, 1), (80, .invokevirtual 139, 3), (83, .istore 6, 2), (85, .aload_n 2, 1), (86, .getfield 67, 3), (89, .iload 5, 2), (91, .iload 6, 2), (93, .iastore, 1), (94, .iload 6, 2), (96, .ifCond .lt 29, 3), (99, .iload 6, 2), (101, .bipush 24, 2), (103, .if_icmp .ge 22, 3), (106, .aload_n 2, 1), (107, .getfield 143, 3), (110, .iload 6, 2), (112, .iaload, 1), (113, .ifCond .ne 12, 3), (116, .aload_n 2, 1), (117, .getfield 143, 3), (120, .iload 6, 2), (122, .iload 4, 2), (124, .iastore, 1), (125, .iload 5, 2), (127, .ireturn, 1)]
def gx_m76 : am_M := (⟨"GrammarStream$MachineMaker", "addState", "(LGrammarStream$Places;LGrammarStream$Machine;II)I"⟩, prog_5_method_10_code, 7, (Option.some FieldType.int), 4, gx_r76)
theorem gx_d76 : gx_r76.all (fun q => decide (decode prog_5_method_10_code q.1 = .ok q.2)) = true := by decide +kernel
def gx_r77 : List (Nat × Instr × Nat) := [(0, .iconst (-1), 1), (1, .istore_n 2, 1), (2, .iconst 0, 1), (3, .istore_n 3, 1), (4, .iload_n 3, 1), (5, .aload_n 1, 1), (6, .getfield 42, 3), (9, .if_icmp .ge 47, 3), (12, .aload_n 1, 1), (13, .getfield 146, 3), (16, .iload_n 3, 1), (17, .iaload, 1), (18, .istore 4, 2), (20, .iload 4, 2), (22, .ifCond .lt 28, 3), (25, .iload_n 2, 1), (26, .ifCond .lt 9, 3), (29, .iload 4, 2), (31, .iload_n 2, 1), (32, .if_icmp .ge 18, 3), (35, .aload_n 0, 1), (36, .getfield 35, 3), (39, .iconst 0, 1), (40, .iload_n 3, 1), (41, .invokestatic 121, 3), (44, .ifCond .eq 6, 3), (47, .iload 4, 2), (49, .istore_n 2, 1), (50, .iinc 3 1, 3), (53, .goto (-49), 3), (56, .iload_n 2, 1), (57, .ireturn, 1)]
def gx_m77 : am_M := (⟨"GrammarStream$MachineMaker", "tokenFound", "(LGrammarStream$Places;)I"⟩, prog_5_method_11_code, 5, (Option.some FieldType.int), 1, gx_r77)
theorem gx_d77 : gx_r77.all (fun q => decide (decode prog_5_method_11_code q.1 = .ok q.2)) = true := by decide +kernel
end
section
def gx_r78 : List (Nat × Instr × Nat) := [(0, .iconst 0, 1), (1, .istore_n 2, 1), (2, .iload_n 2, 1), (3, .aload_n 1, 1), (4, .getfield 70, 3), (7, .if_icmp .ge 16, 3), (10, .aload_n 0, 1), (11, .getfield 25, 3), (14, .iload_n 2, 1), (15, .iconst 0, 1), (16, .bastore, 1), (17, .iinc 2 1, 3), (20, .goto (-18), 3), (23, .iconst 1, 1), (24, .istore_n 2, 1), (25, .iconst 0, 1), (26, .istore_n 3, 1), (27, .iload_n 2, 1), (28, .ifCond .eq 77, 3), (31, .iload_n 3, 1), (32, .sipush 400, 3), (35, .if_icmp .gt 70, 3), (38, .iconst 0, 1), (39, .istore_n 2, 1), (40, .aload_n 1, 1), (41, .getfield 70, 3), (44, .iconst 1, 1), (45, .isub, 1), (46, .istore 4, 2), (48, .iload 4, 2), (50, .ifCond .lt 49, 3), (53, .aload_n 0, 1), (54, .getfield 25, 3), (57, .iload 4, 2), (59, .baload, 1), (60, .ifCond .ne 33, 3), (63, .aload_n 0, 1), (64, .aload_n 1, 1), (65, .iload 4, 2), (67, .invokevirtual 149, 3), (70, .ifCond .eq 23, 3), (73, .aload_n 0, 1), (74, .getfield 25, 3), (77, .iload 4, 2), (79, .iconst 1, 1), (80, .bastore, 1), (81, .aload_n 1, 1), (82, .dup, 1), (83, .getfield 153, 3), (86, .iconst 1, 1), (87, .iadd, 1), (88, .putfield 153, 3), (91, .iconst 1, 1), (92, .istore_n 2, 1), (93, .iinc 4 (-1), 3), (96, .goto (-48), 3), (99, .iinc 3 1, 3), (102, .goto (-75), 3), (105, .return_, 1)]
def gx_m78 : am_M := (⟨"GrammarStream$MachineMaker", "countHopeful", "(LGrammarStream$Machine;)V"⟩, prog_5_method_12_code, 5, (Option.none : Option FieldType), 1, gx_r78)
theorem gx_d78 : gx_r78.all (fun q => decide (decode prog_5_method_12_code q.1 = .ok q.2)) = true := by decide +kernel
def gx_r79 : List (Nat × Instr × Nat) := [(0, .aload_n 1, 1), (1, .getfield 67, 3), (4, .iload_n 2, 1), (5, .iaload, 1), (6, .ifCond .lt 5, 3), (9, .iconst 1, 1), (10, .ireturn, 1), (11, .iconst 0, 1), (12, .istore_n 3, 1), (13, .iload_n 3, 1), (14, .aload_n 1, 1), (15, .getfield 85, 3), (18, .if_icmp .ge 39, 3), (21, .aload_n 1, 1), (22, .getfield 106, 3), (25, .iload_n 2, 1), (26, .bipush 118, 2), (28, .imul, 1), (29, .iload_n 3, 1), (30, .iadd, 1), (31, .iaload, 1), (32, .istore 4, 2), (34, .iload 4, 2), (36, .ifCond .lt 15, 3), (39, .aload_n 0, 1), (40, .getfield 25, 3), (43, .iload 4, 2), (45, .baload, 1), (46, .ifCond .eq 5, 3), (49, .iconst 1, 1), (50, .ireturn, 1), (51, .iinc 3 1, 3), (54, .goto (-41), 3), (57, .iconst 0, 1), (58, .ireturn, 1)]
def gx_m79 : am_M := (⟨"GrammarStream$MachineMaker", "hasHope", "(LGrammarStream$Machine;I)Z"⟩, prog_5_method_13_code, 5, (Option.some FieldType.boolean), 2, gx_r79)
theorem gx_d79 : gx_r79.all (fun q => decide (decode prog_5_method_13_code q.1 = .ok q.2)) = true := by decide +kernel
def gx_r80 : List (Nat × Instr × Nat) := [(0, .aload_n 0, 1), (1, .aload_n 0, 1), (2, .iconst 0, 1), (3, .invokevirtual 94, 3), (6, .putfield 42, 3), (9, .aload_n 0, 1), (10, .invokevirtual 102, 3), (13, .aload_n 0, 1), (14, .invokevirtual 105, 3), (17, .return_, 1)]
def gx_m80 : am_M := (⟨"GrammarStream$Grammar", "makeSets", "()V"⟩, prog_3_method_9_code, 1, (Option.none : Option FieldType), 0, gx_r80)
theorem gx_d80 : gx_r80.all (fun q => decide (decode prog_3_method_9_code q.1 = .ok q.2)) = true := by decide +kernel
def gx_r81 : List (Nat × Instr × Nat) := [(0, .aload_n 0, 1), (1, .getfield 45, 3), (4, .iconst 0, 1), (5, .invokestatic 115, 3), (8, .iconst 1, 1), (9, .istore_n 1, 1), (10, .iconst 0, 1), (11, .istore_n 2, 1), (12, .iload_n 1, 1), (13, .ifCond .eq 93, 3), (16, .iload_n 2, 1), (17, .sipush 1000, 3), (20, .if_icmp .gt 86, 3), (23, .iconst 0, 1), (24, .istore_n 1, 1), (25, .iconst 0, 1), (26, .istore_n 3, 1), (27, .iload_n 3, 1), (28, .aload_n 0, 1), (29, .getfield 25, 3), (32, .if_icmp .ge 68, 3), (35, .aload_n 0, 1), (36, .getfield 45, 3), (39, .aload_n 0, 1), (40, .getfield 32, 3), (43, .iload_n 3, 1), (44, .iaload, 1), (45, .iaload, 1), (46, .istore 4, 2), (48, .aload_n 0, 1), (49, .getfield 45, 3), (52, .aload_n 0, 1), (53, .getfield 32, 3), (56, .iload_n 3, 1), (57, .iaload, 1), (58, .dup2, 1), (59, .iaload, 1), (60, .aload_n 0, 1), (61, .iload_n 3, 1), (62, .iconst 0, 1), (63, .invokevirtual 121, 3), (66, .ior, 1), (67, .iastore, 1), (68, .iload_n 1, 1), (69, .ifCond .ne 19, 3), (72, .aload_n 0, 1), (73, .getfield 45, 3), (76, .aload_n 0, 1), (77, .getfield 32, 3), (80, .iload_n 3, 1), (81, .iaload, 1), (82, .iaload, 1), (83, .iload 4, 2), (85, .if_icmp .eq 7, 3), (88, .iconst 1, 1), (89, .goto 4, 3), (92, .iconst 0, 1), (93, .istore_n 1, 1), (94, .iinc 3 1, 3), (97, .goto (-70), 3), (100, .iinc 2 1, 3), (103, .goto (-91), 3), (106, .return_, 1)]
def gx_m81 : am_M := (⟨"GrammarStream$Grammar", "makeFirsts", "()V"⟩, prog_3_method_14_code, 5, (Option.none : Option FieldType), 0, gx_r81)
theorem gx_d81 : gx_r81.all (fun q => decide (decode prog_3_method_14_code q.1 = .ok q.2)) = true := by decide +kernel
def gx_r82 : List (Nat × Instr × Nat) := [(0, .iconst 0, 1), (1, .istore_n 3, 1), (2, .iload_n 2, 1), (3, .istore 4, 2), (5, .iload 4, 2), (7, .aload_n 0, 1), (8, .getfield 36, 3), (11, .iload_n 1, 1), (12, .iaload, 1), (13, .if_icmp .ge 62, 3), (16, .aload_n 0, 1), (17, .iload_n 1, 1), (18, .iload 4, 2), (20, .invokevirtual 112, 3), (23, .istore 5, 2), (25, .iload 5, 2), (27, .ifCond .lt 10, 3), (30, .iload_n 3, 1), (31, .iconst 1, 1), (32, .iload 5, 2), (34, .ishl, 1), (35, .ior, 1), (36, .ireturn, 1), (37, .iload_n 3, 1), (38, .aload_n 0, 1), (39, .getfield 45, 3), (42, .sipush (-1000), 3), (45, .iload 5, 2), (47, .isub, 1), (48, .iaload, 1), (49, .ior, 1), (50, .istore_n 3, 1), (51, .aload_n 0, 1), (52, .getfield 42, 3), (55, .sipush (-1000), 3), (58, .iload 5, 2), (60, .isub, 1), (61, .invokestatic 98, 3), (64, .ifCond .ne 5, 3), (67, .iload_n 3, 1), (68, .ireturn, 1), (69, .iinc 4 1, 3), (72, .goto (-67), 3), (75, .iload_n 3, 1), (76, .ireturn, 1)]
def gx_m82 : am_M := (⟨"GrammarStream$Grammar", "firstsFrom", "(II)I"⟩, prog_3_method_13_code, 6, (Option.some FieldType.int), 2, gx_r82)
theorem gx_d82 : gx_r82.all (fun q => decide (decode prog_3_method_13_code q.1 = .ok q.2)) = true := by decide +kernel
def gx_r83 : List (Nat × Instr × Nat) := [(0, .aload_n 0, 1), (1, .getfield 48, 3), (4, .iconst 0, 1), (5, .invokestatic 115, 3), (8, .aload_n 0, 1), (9, .getfield 48, 3), (12, .iconst 0, 1), (13, .iconst 1, 1), (14, .aload_n 0, 1), (15, .getfield 18, 3), (18, .ishl, 1), (19, .iastore, 1), (20, .iconst 1, 1), (21, .istore_n 1, 1), (22, .iconst 0, 1), (23, .istore_n 2, 1), (24, .iload_n 1, 1), (25, .ifCond .eq 58, 3), (28, .iload_n 2, 1), (29, .sipush 1000, 3), (32, .if_icmp .gt 51, 3), (35, .iconst 0, 1), (36, .istore_n 1, 1), (37, .iconst 0, 1), (38, .istore_n 3, 1), (39, .iload_n 3, 1), (40, .aload_n 0, 1), (41, .getfield 25, 3), (44, .if_icmp .ge 33, 3), (47, .aload_n 0, 1), (48, .getfield 48, 3), (51, .aload_n 0, 1), (52, .getfield 32, 3), (55, .iload_n 3, 1), (56, .iaload, 1), (57, .iaload, 1), (58, .ifCond .eq 13, 3), (61, .aload_n 0, 1), (62, .iload_n 3, 1), (63, .invokevirtual 124, 3), (66, .ifCond .eq 5, 3), (69, .iconst 1, 1), (70, .istore_n 1, 1), (71, .iinc 3 1, 3), (74, .goto (-35), 3), (77, .iinc 2 1, 3), (80, .goto (-56), 3), (83, .return_, 1)]
def gx_m83 : am_M := (⟨"GrammarStream$Grammar", "makeFollows", "()V"⟩, prog_3_method_15_code, 4, (Option.none : Option FieldType), 0, gx_r83)
theorem gx_d83 : gx_r83.all (fun q => decide (decode prog_3_method_15_code q.1 = .ok q.2)) = true := by decide +kernel
def gx_r84 : List (Nat × Instr × Nat) := [(0, .iconst 0, 1), (1, .istore_n 2, 1), (2, .iconst 0, 1), (3, .istore_n 3, 1), (4, .iload_n 3, 1), (5, .aload_n 0, 1), (6, .getfield 36, 3), (9, .iload_n 1, 1), (10, .iaload, 1), (11, .if_icmp .ge 111, 3), (14, .aload_n 0, 1), (15, .iload_n 1, 1), (16, .iload_n 3, 1), (17, .invokevirtual 112, 3), (20, .istore 4, 2), (22, .iload 4, 2), (24, .ifCond .ge 92, 3), (27, .sipush (-1000), 3), (30, .iload 4, 2), (32, .isub, 1), (33, .istore 5, 2), (35, .aload_n 0, 1), (36, .getfield 48, 3), (39, .iload 5, 2), (41, .iaload, 1), (42, .istore 6, 2), (44, .aload_n 0, 1), (45, .getfield 48, 3), (48, .iload 5, 2), (50, .dup2, 1), (51, .iaload, 1), (52, .aload_n 0, 1), (53, .iload_n 1, 1), (54, .iload_n 3, 1), (55, .iconst 1, 1), (56, .iadd, 1), (57, .invokevirtual 121, 3), (60, .ior, 1), (61, .iastore, 1), (62, .aload_n 0, 1), (63, .iload_n 1, 1), (64, .iload_n 3, 1), (65, .iconst 1, 1), (66, .iadd, 1), (67, .invokevirtual 127, 3), (70, .ifCond .eq 24, 3), (73, .aload_n 0, 1), (74, .getfield 48, 3), (77, .iload 5, 2), (79, .dup2, 1), (80, .iaload, 1), (81, .aload_n 0, 1), (82, .getfield 48, 3), (85, .aload_n 0, 1), (86, .getfield 32, 3), (89, .iload_n 1, 1), (90, .iaload, 1), (91, .iaload, 1), (92, .ior, 1), (93, .iastore, 1), (94, .iload_n 2, 1), (95, .ifCond .ne 15, 3), (98, .aload_n 0, 1), (99, .getfield 48, 3), (102, .iload 5, 2), (104, .iaload, 1), (105, .iload 6, 2), (107, .if_icmp .eq 7, 3), (110, .iconst 1, 1), (111, .goto 4, 3), (114, .iconst 0, 1), (115, .istore_n 2, 1), (116, .iinc 3 1, 3), (119, .goto (-115), 3), (122, .iload_n 2, 1), (123, .ireturn, 1)]
def gx_m84 : am_M := (⟨"GrammarStream$Grammar", "growFollows", "(I)Z"⟩, prog_3_method_16_code, 7, (Option.some FieldType.boolean), 1, gx_r84)
theorem gx_d84 : gx_r84.all (fun q => decide (decode prog_3_method_16_code q.1 = .ok q.2)) = true := by decide +kernel
def gx_r85 : List (Nat × Instr × Nat) := [(0, .aload_n 0, 1), (1, .iload_n 1, 1), (2, .iload_n 2, 1), (3, .aload_n 0, 1), (4, .getfield 42, 3), (7, .iconst 0, 1), (8, .invokevirtual 108, 3), (11, .ireturn, 1)]
def gx_m85 : am_M := (⟨"GrammarStream$Grammar", "isEmptyFrom", "(II)Z"⟩, prog_3_method_12_code, 3, (Option.some FieldType.boolean), 2, gx_r85)
theorem gx_d85 : gx_r85.all (fun q => decide (decode prog_3_method_12_code q.1 = .ok q.2)) = true := by decide +kernel
def gx_r86 : List (Nat × Instr × Nat) := [(0, .iconst 0, 1), (1, .istore_n 2, 1), (2, .iload_n 2, 1), (3, .aload_n 0, 1), (4, .getfield 22, 3), (7, .if_icmp .ge 93, 3), (10, .iconst 0, 1), (11, .istore_n 3, 1), (12, .iload_n 3, 1), (13, .aload_n 0, 1), (14, .getfield 18, 3), (17, .if_icmp .gt 77, 3), (20, .aload_n 0, 1), (21, .iload_n 2, 1), (22, .iload_n 3, 1), (23, .iconst 0, 1), (24, .invokevirtual 130, 3), (27, .istore 4, 2), (29, .iload 4, 2), (31, .ifCond .ge 7, 3), (34, .iconst (-1), 1), (35, .goto 13, 3), (38, .aload_n 0, 1), (39, .iload_n 2, 1), (40, .iload_n 3, 1), (41, .iload 4, 2), (43, .iconst 1, 1), (44, .iadd, 1), (45, .invokevirtual 130, 3), (48, .istore 5, 2), (50, .iload 5, 2), (52, .ifCond .lt 23, 3), (55, .aload_n 1, 1), (56, .iconst 0, 1), (57, .iload_n 2, 1), (58, .iastore, 1), (59, .aload_n 1, 1), (60, .iconst 1, 1), (61, .iload_n 3, 1), (62, .iastore, 1), (63, .aload_n 1, 1), (64, .iconst 2, 1), (65, .iload 4, 2), (67, .iastore, 1), (68, .aload_n 1, 1), (69, .iconst 3, 1), (70, .iload 5, 2), (72, .iastore, 1), (73, .iconst 1, 1), (74, .ireturn, 1), (75, .aload_n 0, 1), (76, .getfield 51, 3), (79, .iload_n 2, 1), (80, .bipush 25, 2), (82, .imul, 1), (83, .iload_n 3, 1), (84, .iadd, 1), (85, .iload 4, 2), (87, .iastore, 1), (88, .iinc 3 1, 3), (91, .goto (-79), 3), (94, .iinc 2 1, 3), (97, .goto (-95), 3), (100, .iconst 0, 1), (101, .ireturn, 1)]
def gx_m86 : am_M := (⟨"GrammarStream$Grammar", "fillCells", "([I)Z"⟩, prog_3_method_17_code, 6, (Option.some FieldType.boolean), 1, gx_r86)
theorem gx_d86 : gx_r86.all (fun q => decide (decode prog_3_method_17_code q.1 = .ok q.2)) = true := by decide +kernel
def gx_r87 : List (Nat × Instr × Nat) := [(0, .iload_n 3, 1), (1, .istore 4, 2), (3, .iload 4, 2), (5, .aload_n 0, 1), (6, .getfield 25, 3), (9, .if_icmp .ge 60, 3), (12, .aload_n 0, 1), (13, .getfield 32, 3), (16, .iload 4, 2), (18, .iaload, 1), (19, .iload_n 1, 1), (20, .if_icmp .ne 43, 3), (23, .aload_n 0, 1), (24, .iload 4, 2), (26, .iconst 0, 1), (27, .invokevirtual 121, 3), (30, .iload_n 2, 1), (31, .invokestatic 98, 3), (34, .ifCond .ne 26, 3), (37, .aload_n 0, 1), (38, .getfield 48, 3), (41, .iload_n 1, 1), (42, .iaload, 1), (43, .iload_n 2, 1), (44, .invokestatic 98, 3), (47, .ifCond .eq 16, 3), (50, .aload_n 0, 1), (51, .iload 4, 2), (53, .iconst 0, 1), (54, .invokevirtual 127, 3), (57, .ifCond .eq 6, 3), (60, .iload 4, 2), (62, .ireturn, 1), (63, .iinc 4 1, 3), (66, .goto (-63), 3), (69, .iconst (-1), 1), (70, .ireturn, 1)]
def gx_m87 : am_M := (⟨"GrammarStream$Grammar", "nextRuleFor", "(III)I"⟩, prog_3_method_18_code, 5, (Option.some FieldType.int), 3, gx_r87)
theorem gx_d87 : gx_r87.all (fun q => decide (decode prog_3_method_18_code q.1 = .ok q.2)) = true := by decide +kernel
def gx_r88 : List (Nat × Instr × Nat) := [(0, .aload_n 0, 1), (1, .aload_n 0, 1), (2, .getfield 32, 3), (5, .putfield 36, 3), (8, .aload_n 0, 1), (9, .aload_n 1, 1), (10, .putfield 32, 3), (13, .aload_n 0, 1), (14, .getfield 39, 3), (17, .ifnonnull 15, 3), (20, .aload_n 0, 1), (21, .new 170, 3), (24, .dup, 1), (25, .aload_n 1, 1), (26, .invokespecial 264, 3), (29, .putfield 39, 3), (32, .aload_n 0, 1), (33, .getfield 39, 3), (36, .aload_n 1, 1), (37, .invokevirtual 190, 3), (40, .aload_n 0, 1), (41, .getfield 43, 3), (44, .ifnull 10, 3), (47, .aload_n 0, 1), (48, .getfield 43, 3), (51, .invokevirtual 266, 3), (54, .return_, 1)]
def gx_m88 : am_M := (⟨"GrammarStream", "putInPlace", "(LGrammarStream$Grammar;)V"⟩, prog_1_method_23_code, 2, (Option.none : Option FieldType), 1, gx_r88)
theorem gx_d88 : gx_r88.all (fun q => decide (decode prog_1_method_23_code q.1 = .ok q.2)) = true := by decide +kernel
def gx_r89 : List (Nat × Instr × Nat) := [(0, .aload_n 0, 1), (1, .invokespecial 3, 3), (4, .aload_n 0, 1), (5, .sipush 4000, 3), (8, .newarray .int, 2), (10, .putfield 9, 3), (13, .aload_n 0, 1), (14, .iconst 0, 1), (15, .putfield 15, 3), (18, .aload_n 0, 1), (19, .iconst 0, 1), (20, .putfield 19, 3), (23, .aload_n 0, 1), (24, .iconst 0, 1), (25, .putfield 22, 3), (28, .aload_n 0, 1), (29, .iconst 0, 1), (30, .putfield 25, 3), (33, .aload_n 0, 1), (34, .iconst (-1), 1), (35, .putfield 28, 3), (38, .aload_n 0, 1), (39, .iconst 0, 1), (40, .putfield 31, 3), (43, .aload_n 0, 1), (44, .iconst 0, 1), (45, .putfield 34, 3), (48, .aload_n 0, 1), (49, .iconst 0, 1), (50, .putfield 37, 3), (53, .aload_n 0, 1), (54, .iconst 0, 1), (55, .putfield 40, 3), (58, .aload_n 0, 1), (59, .sipush 4000, 3), (62, .newarray .int, 2), (64, .putfield 44, 3), (67, .aload_n 0, 1), (68, .sipush 4000, 3), (71, .newarray .int, 2), (73, .putfield 47, 3), (76, .aload_n 0, 1), (77, .sipush 4000, 3), (80, .newarray .int, 2), (82, .putfield 50, 3), (85, .aload_n 0, 1), (86, .iconst 0, 1), (87, .putfield 53, 3), (90, .aload_n 0, 1), (91, .aload_n 1, 1), (92, .putfield 56, 3), (95, .aload_n 0, 1), (96, .new 60, 3), (99, .dup, 1), (100, .aload_n 1, 1), (101, .invokespecial 62, 3), (104, .putfield 65, 3), (107, .return_, 1)]
def gx_m89 : am_M := (⟨"GrammarStream$Reading", "<init>", "(LGrammarStream$Grammar;)V"⟩, prog_11_method_1_code, 2, (Option.none : Option FieldType), 1, gx_r89)
theorem gx_d89 : gx_r89.all (fun q => decide (decode prog_11_method_1_code q.1 = .ok q.2)) = true := by decide +kernel
def gx_r90 : List (Nat × Instr × Nat) := [(0, .aload_n 0, 1), (1, .invokespecial 3, 3), (4, .aload_n 0, 1), (5, .sipush 6000, 3), (8, .newarray .int, 2), (10, .putfield 9, 3), (13, .aload_n 0, 1), (14, .sipush 6000, 3), (17, .newarray .int, 2), (19, .putfield 15, 3), (22, .aload_n 0, 1), (23, .sipush 6000, 3), (26, .newarray .int, 2), (28, .putfield 18, 3), (31, .aload_n 0, 1), (32, .iconst 0, 1), (33, .putfield 21, 3), (36, .aload_n 0, 1), (37, .sipush 6000, 3), (40, .newarray .int, 2), (42, .putfield 25, 3), (45, .aload_n 0, 1), (46, .sipush 6000, 3), (49, .newarray .int, 2), (51, .putfield 28, 3), (54, .aload_n 0, 1), (55, .sipush 6000, 3), (58, .newarray .int, 2), (60, .putfield 31, 3), (63, .aload_n 0, 1), (64, .sipush 20000, 3), (67, .newarray .int, 2), (69, .putfield 34, 3), (72, .aload_n 0, 1), (73, .sipush 20000, 3), (76, .newarray .int, 2), (78, .putfield 37, 3), (81, .aload_n 0, 1), (82, .sipush 20000, 3), (85, .newarray .int, 2), (87, .putfield 40, 3), (90, .aload_n 0, 1), (91, .sipush 20000, 3), (94, .newarray .int, 2), (96, .putfield 43, 3), (99, .aload_n 0, 1), (100, .iconst 0, 1), (101, .putfield 46, 3), (104, .aload_n 0, 1), (105, .iconst 0, 1), (106, .putfield 49, 3), (109, .aload_n 0, 1), (110, .aload_n 1, 1), (111, .putfield 52, 3), (114, .return_, 1)]
def gx_m90 : am_M := (⟨"GrammarStream$Parser", "<init>", "(LGrammarStream$Grammar;)V"⟩, prog_8_method_1_code, 2, (Option.none : Option FieldType), 1, gx_r90)
theorem gx_d90 : gx_r90.all (fun q => decide (decode prog_8_method_1_code q.1 = .ok q.2)) = true := by decide +kernel
def gx_r91 : List (Nat × Instr × Nat) := [(0, .aload_n 0, 1), (1, .aload_n 1, 1), (2, .putfield 56, 3), (5, .aload_n 0, 1), (6, .getfield 65, 3), (9, .aload_n 1, 1), (10, .invokevirtual 69, 3), (13, .aload_n 0, 1), (14, .iconst 0, 1), (15, .putfield 15, 3), (18, .aload_n 0, 1), (19, .iconst 0, 1), (20, .putfield 34, 3), (23, .aload_n 0, 1), (24, .iconst 0, 1), (25, .putfield 37, 3), (28, .aload_n 0, 1), (29, .iconst 0, 1), (30, .putfield 40, 3), (33, .aload_n 0, 1), (34, .iconst 0, 1), (35, .putfield 53, 3), (38, .aload_n 0, 1), (39, .iconst 0, 1), (40, .invokevirtual 72, 3), (43, .return_, 1)]
def gx_m91 : am_M := (⟨"GrammarStream$Reading", "start", "(LGrammarStream$Grammar;)V"⟩, prog_11_method_2_code, 2, (Option.none : Option FieldType), 1, gx_r91)
theorem gx_d91 : gx_r91.all (fun q => decide (decode prog_11_method_2_code q.1 = .ok q.2)) = true := by decide +kernel
def gx_r92 : List (Nat × Instr × Nat) := [(0, .aload_n 0, 1), (1, .aload_n 1, 1), (2, .putfield 52, 3), (5, .aload_n 0, 1), (6, .getfield 9, 3), (9, .iconst 0, 1), (10, .sipush (-1000), 3), (13, .iastore, 1), (14, .aload_n 0, 1), (15, .getfield 15, 3), (18, .iconst 0, 1), (19, .iconst (-1), 1), (20, .iastore, 1), (21, .aload_n 0, 1), (22, .getfield 18, 3), (25, .iconst 0, 1), (26, .iconst 0, 1), (27, .iastore, 1), (28, .aload_n 0, 1), (29, .iconst 1, 1), (30, .putfield 21, 3), (33, .aload_n 0, 1), (34, .iconst 0, 1), (35, .putfield 46, 3), (38, .aload_n 0, 1), (39, .iconst 0, 1), (40, .putfield 49, 3), (43, .return_, 1)]
def gx_m92 : am_M := (⟨"GrammarStream$Parser", "start", "(LGrammarStream$Grammar;)V"⟩, prog_8_method_2_code, 2, (Option.none : Option FieldType), 1, gx_r92)
theorem gx_d92 : gx_r92.all (fun q => decide (decode prog_8_method_2_code q.1 = .ok q.2)) = true := by decide +kernel
def gx_r93 : List (Nat × Instr × Nat) := [(0, .aload_n 0, 1), (1, .iload_n 1, 1), (2, .putfield 19, 3), (5, .aload_n 0, 1), (6, .iload_n 1, 1), (7, .putfield 22, 3), (10, .aload_n 0, 1), (11, .iconst 0, 1), (12, .putfield 25, 3), (15, .aload_n 0, 1), (16, .iconst (-1), 1), (17, .putfield 28, 3), (20, .return_, 1)]
def gx_m93 : am_M := (⟨"GrammarStream$Reading", "beginAt", "(I)V"⟩, prog_11_method_6_code, 2, (Option.none : Option FieldType), 1, gx_r93)
theorem gx_d93 : gx_r93.all (fun q => decide (decode prog_11_method_6_code q.1 = .ok q.2)) = true := by decide +kernel
def gx_r94 : List (Nat × Instr × Nat) := [(0, .aload_n 0, 1), (1, .iconst 0, 1), (2, .putfield 26, 3), (5, .return_, 1)]
def gx_m94 : am_M := (⟨"GrammarStream$Counts", "forget", "()V"⟩, prog_2_method_2_code, 1, (Option.none : Option FieldType), 0, gx_r94)
theorem gx_d94 : gx_r94.all (fun q => decide (decode prog_2_method_2_code q.1 = .ok q.2)) = true := by decide +kernel
def gx_r95 : List (Nat × Instr × Nat) := [(0, .iload_n 1, 1), (1, .ifCond .lt 8, 3), (4, .iload_n 1, 1), (5, .iconst 1, 1), (6, .if_icmp .le 5, 3), (9, .iconst (-1), 1), (10, .ireturn, 1), (11, .aload_n 0, 1), (12, .getfield 24, 3), (15, .ifnonnull 5, 3), (18, .iconst 0, 1), (19, .ireturn, 1), (20, .iload_n 1, 1), (21, .ifCond .ne 13, 3), (24, .aload_n 0, 1), (25, .getfield 24, 3), (28, .getfield 94, 3), (31, .goto 10, 3), (34, .aload_n 0, 1), (35, .getfield 24, 3), (38, .getfield 64, 3), (41, .ireturn, 1)]
def gx_m95 : am_M := (⟨"GrammarStream", "fault", "(I)I"⟩, prog_1_method_4_code, 2, (Option.some FieldType.int), 1, gx_r95)
theorem gx_d95 : gx_r95.all (fun q => decide (decode prog_1_method_4_code q.1 = .ok q.2)) = true := by decide +kernel
def gx_r96 : List (Nat × Instr × Nat) := [(0, .aload_n 0, 1), (1, .getfield 20, 3), (4, .ifCond .eq 25, 3), (7, .iload_n 1, 1), (8, .ifCond .lt 21, 3), (11, .iload_n 1, 1), (12, .aload_n 0, 1), (13, .getfield 17, 3), (16, .arraylength, 1), (17, .if_icmp .ge 12, 3), (20, .aload_n 0, 1), (21, .getfield 17, 3), (24, .iload_n 1, 1), (25, .iaload, 1), (26, .goto 4, 3), (29, .iconst (-1), 1), (30, .ireturn, 1)]
def gx_m96 : am_M := (⟨"GrammarStream", "conflict", "(I)I"⟩, prog_1_method_5_code, 2, (Option.some FieldType.int), 1, gx_r96)
theorem gx_d96 : gx_r96.all (fun q => decide (decode prog_1_method_5_code q.1 = .ok q.2)) = true := by decide +kernel
def gx_r97 : List (Nat × Instr × Nat) := [(0, .aload_n 0, 1), (1, .getfield 32, 3), (4, .ifnull 45, 3), (7, .aload_n 0, 1), (8, .getfield 32, 3), (11, .iload_n 1, 1), (12, .invokevirtual 97, 3), (15, .ifCond .eq 34, 3), (18, .aload_n 0, 1), (19, .getfield 32, 3), (22, .iload_n 2, 1), (23, .invokevirtual 101, 3), (26, .ifCond .eq 23, 3), (29, .aload_n 0, 1), (30, .getfield 32, 3), (33, .getfield 104, 3), (36, .iload_n 1, 1), (37, .iaload, 1), (38, .iload_n 2, 1), (39, .invokestatic 107, 3), (42, .ifCond .eq 7, 3), (45, .iconst 1, 1), (46, .goto 4, 3), (49, .iconst 0, 1), (50, .ireturn, 1)]
def gx_m97 : am_M := (⟨"GrammarStream", "first", "(II)Z"⟩, prog_1_method_6_code, 3, (Option.some FieldType.boolean), 2, gx_r97)
theorem gx_d97 : gx_r97.all (fun q => decide (decode prog_1_method_6_code q.1 = .ok q.2)) = true := by decide +kernel
def gx_r98 : List (Nat × Instr × Nat) := [(0, .iload_n 1, 1), (1, .ifCond .lt 15, 3), (4, .iload_n 1, 1), (5, .aload_n 0, 1), (6, .getfield 22, 3), (9, .if_icmp .ge 7, 3), (12, .iconst 1, 1), (13, .goto 4, 3), (16, .iconst 0, 1), (17, .ireturn, 1)]
def gx_m98 : am_M := (⟨"GrammarStream$Grammar", "hasSymbol", "(I)Z"⟩, prog_3_method_4_code, 2, (Option.some FieldType.boolean), 1, gx_r98)
theorem gx_d98 : gx_r98.all (fun q => decide (decode prog_3_method_4_code q.1 = .ok q.2)) = true := by decide +kernel
def gx_r99 : List (Nat × Instr × Nat) := [(0, .iload_n 1, 1), (1, .ifCond .lt 15, 3), (4, .iload_n 1, 1), (5, .aload_n 0, 1), (6, .getfield 18, 3), (9, .if_icmp .ge 7, 3), (12, .iconst 1, 1), (13, .goto 4, 3), (16, .iconst 0, 1), (17, .ireturn, 1)]
def gx_m99 : am_M := (⟨"GrammarStream$Grammar", "hasToken", "(I)Z"⟩, prog_3_method_3_code, 2, (Option.some FieldType.boolean), 1, gx_r99)
theorem gx_d99 : gx_r99.all (fun q => decide (decode prog_3_method_3_code q.1 = .ok q.2)) = true := by decide +kernel
def gx_r100 : List (Nat × Instr × Nat) := [(0, .aload_n 0, 1), (1, .getfield 32, 3), (4, .ifnull 35, 3), (7, .aload_n 0, 1), (8, .getfield 32, 3), (11, .iload_n 1, 1), (12, .iload_n 2, 1), (13, .invokevirtual 111, 3), (16, .ifCond .eq 23, 3), (19, .aload_n 0, 1), (20, .getfield 32, 3), (23, .getfield 114, 3), (26, .iload_n 1, 1), (27, .iaload, 1), (28, .iload_n 2, 1), (29, .invokestatic 107, 3), (32, .ifCond .eq 7, 3), (35, .iconst 1, 1), (36, .goto 4, 3), (39, .iconst 0, 1), (40, .ireturn, 1)]
def gx_m100 : am_M := (⟨"GrammarStream", "follow", "(II)Z"⟩, prog_1_method_7_code, 3, (Option.some FieldType.boolean), 2, gx_r100)
theorem gx_d100 : gx_r100.all (fun q => decide (decode prog_1_method_7_code q.1 = .ok q.2)) = true := by decide +kernel
def gx_r101 : List (Nat × Instr × Nat) := [(0, .aload_n 0, 1), (1, .iload_n 1, 1), (2, .invokevirtual 90, 3), (5, .ifCond .eq 19, 3), (8, .iload_n 2, 1), (9, .ifCond .lt 15, 3), (12, .iload_n 2, 1), (13, .aload_n 0, 1), (14, .getfield 18, 3), (17, .if_icmp .gt 7, 3), (20, .iconst 1, 1), (21, .goto 4, 3), (24, .iconst 0, 1), (25, .ireturn, 1)]
def gx_m101 : am_M := (⟨"GrammarStream$Grammar", "hasCell", "(II)Z"⟩, prog_3_method_5_code, 3, (Option.some FieldType.boolean), 2, gx_r101)
theorem gx_d101 : gx_r101.all (fun q => decide (decode prog_3_method_5_code q.1 = .ok q.2)) = true := by decide +kernel
def gx_r102 : List (Nat × Instr × Nat) := [(0, .aload_n 0, 1), (1, .getfield 32, 3), (4, .ifnull 32, 3), (7, .aload_n 0, 1), (8, .getfield 32, 3), (11, .iload_n 1, 1), (12, .invokevirtual 97, 3), (15, .ifCond .eq 21, 3), (18, .aload_n 0, 1), (19, .getfield 32, 3), (22, .getfield 117, 3), (25, .iload_n 1, 1), (26, .invokestatic 107, 3), (29, .ifCond .eq 7, 3), (32, .iconst 1, 1), (33, .goto 4, 3), (36, .iconst 0, 1), (37, .ireturn, 1)]
def gx_m102 : am_M := (⟨"GrammarStream", "empty", "(I)Z"⟩, prog_1_method_8_code, 2, (Option.some FieldType.boolean), 1, gx_r102)
theorem gx_d102 : gx_r102.all (fun q => decide (decode prog_1_method_8_code q.1 = .ok q.2)) = true := by decide +kernel
def gx_r103 : List (Nat × Instr × Nat) := [(0, .aload_n 0, 1), (1, .getfield 32, 3), (4, .ifnull 27, 3), (7, .aload_n 0, 1), (8, .getfield 32, 3), (11, .iload_n 1, 1), (12, .iload_n 2, 1), (13, .invokevirtual 111, 3), (16, .ifCond .eq 15, 3), (19, .aload_n 0, 1), (20, .getfield 32, 3), (23, .iload_n 1, 1), (24, .iload_n 2, 1), (25, .invokevirtual 120, 3), (28, .goto 4, 3), (31, .iconst (-1), 1), (32, .ireturn, 1)]
def gx_m103 : am_M := (⟨"GrammarStream", "cell", "(II)I"⟩, prog_1_method_9_code, 3, (Option.some FieldType.int), 2, gx_r103)
theorem gx_d103 : gx_r103.all (fun q => decide (decode prog_1_method_9_code q.1 = .ok q.2)) = true := by decide +kernel
def gx_r104 : List (Nat × Instr × Nat) := [(0, .aload_n 0, 1), (1, .getfield 51, 3), (4, .iload_n 1, 1), (5, .bipush 25, 2), (7, .imul, 1), (8, .iload_n 2, 1), (9, .iadd, 1), (10, .iaload, 1), (11, .ireturn, 1)]
def gx_m104 : am_M := (⟨"GrammarStream$Grammar", "ruleFor", "(II)I"⟩, prog_3_method_6_code, 3, (Option.some FieldType.int), 2, gx_r104)
theorem gx_d104 : gx_r104.all (fun q => decide (decode prog_3_method_6_code q.1 = .ok q.2)) = true := by decide +kernel
def gx_r105 : List (Nat × Instr × Nat) := [(0, .iload_n 1, 1), (1, .ifCond .lt 9, 3), (4, .iload_n 1, 1), (5, .bipush 6, 2), (7, .if_icmp .le 5, 3), (10, .iconst (-1), 1), (11, .ireturn, 1), (12, .iload_n 1, 1), (13, .bipush 6, 2), (15, .if_icmp .ne 8, 3), (18, .aload_n 0, 1), (19, .getfield 13, 3), (22, .ireturn, 1), (23, .aload_n 0, 1), (24, .getfield 32, 3), (27, .ifnonnull 5, 3), (30, .iconst 0, 1), (31, .ireturn, 1), (32, .iload_n 1, 1), (33, .tableswitch 81 0 4 #[35, 43, 51, 59, 70], 35), (68, .aload_n 0, 1), (69, .getfield 32, 3), (72, .getfield 124, 3), (75, .ireturn, 1), (76, .aload_n 0, 1), (77, .getfield 32, 3), (80, .getfield 127, 3), (83, .ireturn, 1), (84, .aload_n 0, 1), (85, .getfield 32, 3), (88, .getfield 130, 3), (91, .ireturn, 1), (92, .aload_n 0, 1), (93, .getfield 32, 3), (96, .getfield 71, 3), (99, .getfield 133, 3), (102, .ireturn, 1), (103, .aload_n 0, 1), (104, .getfield 32, 3), (107, .getfield 71, 3), (110, .getfield 138, 3), (113, .ireturn, 1), (114, .aload_n 0, 1), (115, .getfield 32, 3), (118, .getfield 71, 3), (121, .getfield 141, 3), (124, .ireturn, 1)]
def gx_m105 : am_M := (⟨"GrammarStream", "many", "(I)I"⟩, prog_1_method_10_code, 2, (Option.some FieldType.int), 1, gx_r105)
theorem gx_d105 : gx_r105.all (fun q => decide (decode prog_1_method_10_code q.1 = .ok q.2)) = true := by decide +kernel
def gx_r106 : List (Nat × Instr × Nat) := [(0, .aload_n 0, 1), (1, .getfield 32, 3), (4, .ifnull 22, 3), (7, .iload_n 1, 1), (8, .ifCond .lt 18, 3), (11, .iload_n 1, 1), (12, .aload_n 0, 1), (13, .getfield 32, 3), (16, .getfield 130, 3), (19, .if_icmp .ge 7, 3), (22, .iload_n 2, 1), (23, .ifCond .ge 5, 3), (26, .iconst (-1), 1), (27, .ireturn, 1), (28, .iload_n 2, 1), (29, .ifCond .ne 13, 3), (32, .aload_n 0, 1), (33, .getfield 32, 3), (36, .getfield 144, 3), (39, .iload_n 1, 1), (40, .iaload, 1), (41, .ireturn, 1), (42, .iload_n 2, 1), (43, .iconst 1, 1), (44, .if_icmp .ne 13, 3), (47, .aload_n 0, 1), (48, .getfield 32, 3), (51, .getfield 147, 3), (54, .iload_n 1, 1), (55, .iaload, 1), (56, .ireturn, 1), (57, .iload_n 2, 1), (58, .iconst 2, 1), (59, .isub, 1), (60, .istore_n 3, 1), (61, .iload_n 3, 1), (62, .aload_n 0, 1), (63, .getfield 32, 3), (66, .getfield 147, 3), (69, .iload_n 1, 1), (70, .iaload, 1), (71, .if_icmp .ge 15, 3), (74, .aload_n 0, 1), (75, .getfield 32, 3), (78, .iload_n 1, 1), (79, .iload_n 3, 1), (80, .invokevirtual 150, 3), (83, .goto 4, 3), (86, .iconst (-1), 1), (87, .ireturn, 1)]
def gx_m106 : am_M := (⟨"GrammarStream", "rule", "(II)I"⟩, prog_1_method_11_code, 4, (Option.some FieldType.int), 2, gx_r106)
theorem gx_d106 : gx_r106.all (fun q => decide (decode prog_1_method_11_code q.1 = .ok q.2)) = true := by decide +kernel
end
section
def gx_r107 : List (Nat × Instr × Nat) := [(0, .aload_n 0, 1), (1, .getfield 32, 3), (4, .ifnull 23, 3), (7, .aload_n 0, 1), (8, .getfield 32, 3), (11, .iload_n 1, 1), (12, .invokevirtual 101, 3), (15, .ifCond .eq 12, 3), (18, .iload_n 2, 1), (19, .ifCond .lt 8, 3), (22, .iload_n 2, 1), (23, .iconst 1, 1), (24, .if_icmp .le 5, 3), (27, .iconst (-1), 1), (28, .ireturn, 1), (29, .iload_n 2, 1), (30, .ifCond .ne 21, 3), (33, .aload_n 0, 1), (34, .getfield 32, 3), (37, .getfield 153, 3), (40, .iload_n 1, 1), (41, .baload, 1), (42, .ifCond .eq 7, 3), (45, .iconst 1, 1), (46, .goto 4, 3), (49, .iconst 0, 1), (50, .ireturn, 1), (51, .aload_n 0, 1), (52, .getfield 32, 3), (55, .getfield 71, 3), (58, .getfield 157, 3), (61, .iload_n 1, 1), (62, .iaload, 1), (63, .ireturn, 1)]
def gx_m107 : am_M := (⟨"GrammarStream", "token", "(II)I"⟩, prog_1_method_12_code, 3, (Option.some FieldType.int), 2, gx_r107)
theorem gx_d107 : gx_r107.all (fun q => decide (decode prog_1_method_12_code q.1 = .ok q.2)) = true := by decide +kernel
def gx_r108 : List (Nat × Instr × Nat) := [(0, .aload_n 0, 1), (1, .getfield 32, 3), (4, .ifnull 13, 3), (7, .iload_n 1, 1), (8, .ifCond .lt 9, 3), (11, .iload_n 1, 1), (12, .bipush 40, 2), (14, .if_icmp .le 7, 3), (17, .ldc2_w 160, 3), (20, .lreturn, 1), (21, .aload_n 0, 1), (22, .getfield 43, 3), (25, .ifnonnull 14, 3), (28, .aload_n 0, 1), (29, .new 162, 3), (32, .dup, 1), (33, .invokespecial 164, 3), (36, .putfield 43, 3), (39, .aload_n 0, 1), (40, .getfield 43, 3), (43, .aload_n 0, 1), (44, .getfield 32, 3), (47, .iload_n 1, 1), (48, .invokevirtual 165, 3), (51, .lreturn, 1)]
def gx_m108 : am_M := (⟨"GrammarStream", "count", "(I)J"⟩, prog_1_method_13_code, 2, (Option.some FieldType.long), 1, gx_r108)
theorem gx_d108 : gx_r108.all (fun q => decide (decode prog_1_method_13_code q.1 = .ok q.2)) = true := by decide +kernel
def gx_r109 : List (Nat × Instr × Nat) := [(0, .aload_n 0, 1), (1, .invokespecial 3, 3), (4, .aload_n 0, 1), (5, .sipush 1230, 3), (8, .newarray .long, 2), (10, .putfield 11, 3), (13, .aload_n 0, 1), (14, .sipush 22140, 3), (17, .newarray .long, 2), (19, .putfield 15, 3), (22, .aload_n 0, 1), (23, .bipush 30, 2), (25, .newarray .int, 2), (27, .putfield 18, 3), (30, .aload_n 0, 1), (31, .iconst 0, 1), (32, .putfield 22, 3), (35, .aload_n 0, 1), (36, .iconst 0, 1), (37, .putfield 26, 3), (40, .return_, 1)]
def gx_m109 : am_M := (⟨"GrammarStream$Counts", "<init>", "()V"⟩, prog_2_method_1_code, 1, (Option.none : Option FieldType), 0, gx_r109)
theorem gx_d109 : gx_r109.all (fun q => decide (decode prog_2_method_1_code q.1 = .ok q.2)) = true := by decide +kernel
def gx_r110 : List (Nat × Instr × Nat) := [(0, .aload_n 0, 1), (1, .getfield 26, 3), (4, .ifCond .ne 16, 3), (7, .aload_n 0, 1), (8, .getfield 11, 3), (11, .lconst 0, 1), (12, .invokestatic 29, 3), (15, .aload_n 0, 1), (16, .aload_n 1, 1), (17, .invokevirtual 35, 3), (20, .aload_n 0, 1), (21, .getfield 26, 3), (24, .iload_n 2, 1), (25, .if_icmp .gt 34, 3), (28, .aload_n 0, 1), (29, .getfield 26, 3), (32, .bipush 41, 2), (34, .if_icmp .ge 25, 3), (37, .aload_n 0, 1), (38, .aload_n 1, 1), (39, .aload_n 0, 1), (40, .getfield 26, 3), (43, .invokevirtual 39, 3), (46, .aload_n 0, 1), (47, .dup, 1), (48, .getfield 26, 3), (51, .iconst 1, 1), (52, .iadd, 1), (53, .putfield 26, 3), (56, .goto (-36), 3), (59, .iload_n 2, 1), (60, .ifCond .lt 18, 3), (63, .iload_n 2, 1), (64, .bipush 41, 2), (66, .if_icmp .ge 12, 3), (69, .aload_n 0, 1), (70, .getfield 11, 3), (73, .iload_n 2, 1), (74, .laload, 1), (75, .goto 4, 3), (78, .lconst 0, 1), (79, .lreturn, 1)]
def gx_m110 : am_M := (⟨"GrammarStream$Counts", "rowsOf", "(LGrammarStream$Grammar;I)J"⟩, prog_2_method_3_code, 3, (Option.some FieldType.long), 2, gx_r110)
theorem gx_d110 : gx_r110.all (fun q => decide (decode prog_2_method_3_code q.1 = .ok q.2)) = true := by decide +kernel
def gx_r111 : List (Nat × Instr × Nat) := [(0, .aload_n 0, 1), (1, .iconst 0, 1), (2, .putfield 22, 3), (5, .iconst 0, 1), (6, .istore_n 2, 1), (7, .iconst 1, 1), (8, .istore_n 3, 1), (9, .iconst 0, 1), (10, .istore 4, 2), (12, .iload_n 3, 1), (13, .ifCond .eq 85, 3), (16, .iload 4, 2), (18, .bipush 30, 2), (20, .if_icmp .gt 78, 3), (23, .iconst 0, 1), (24, .istore_n 3, 1), (25, .iconst 0, 1), (26, .istore 5, 2), (28, .iload 5, 2), (30, .aload_n 1, 1), (31, .getfield 43, 3), (34, .if_icmp .ge 58, 3), (37, .iload_n 2, 1), (38, .iload 5, 2), (40, .invokestatic 48, 3), (43, .ifCond .ne 43, 3), (46, .aload_n 1, 1), (47, .iload 5, 2), (49, .iload_n 2, 1), (50, .invokestatic 52, 3), (53, .ifCond .eq 33, 3), (56, .iload_n 2, 1), (57, .iconst 1, 1), (58, .iload 5, 2), (60, .ishl, 1), (61, .ior, 1), (62, .istore_n 2, 1), (63, .aload_n 0, 1), (64, .getfield 18, 3), (67, .aload_n 0, 1), (68, .getfield 22, 3), (71, .iload 5, 2), (73, .iastore, 1), (74, .aload_n 0, 1), (75, .dup, 1), (76, .getfield 22, 3), (79, .iconst 1, 1), (80, .iadd, 1), (81, .putfield 22, 3), (84, .iconst 1, 1), (85, .istore_n 3, 1), (86, .iinc 5 1, 3), (89, .goto (-61), 3), (92, .iinc 4 1, 3), (95, .goto (-83), 3), (98, .return_, 1)]
def gx_m111 : am_M := (⟨"GrammarStream$Counts", "orderSymbols", "(LGrammarStream$Grammar;)V"⟩, prog_2_method_4_code, 6, (Option.none : Option FieldType), 1, gx_r111)
theorem gx_d111 : gx_r111.all (fun q => decide (decode prog_2_method_4_code q.1 = .ok q.2)) = true := by decide +kernel
def gx_r112 : List (Nat × Instr × Nat) := [(0, .iconst 0, 1), (1, .istore_n 3, 1), (2, .iload_n 3, 1), (3, .aload_n 0, 1), (4, .getfield 56, 3), (7, .if_icmp .ge 30, 3), (10, .aload_n 0, 1), (11, .getfield 59, 3), (14, .iload_n 3, 1), (15, .iaload, 1), (16, .iload_n 1, 1), (17, .if_icmp .ne 14, 3), (20, .aload_n 0, 1), (21, .iload_n 3, 1), (22, .iload_n 2, 1), (23, .invokestatic 62, 3), (26, .ifCond .ne 5, 3), (29, .iconst 0, 1), (30, .ireturn, 1), (31, .iinc 3 1, 3), (34, .goto (-32), 3), (37, .iconst 1, 1), (38, .ireturn, 1)]
def gx_m112 : am_M := (⟨"GrammarStream$Counts", "needsOnly", "(LGrammarStream$Grammar;II)Z"⟩, prog_2_method_5_code, 4, (Option.some FieldType.boolean), 3, gx_r112)
theorem gx_d112 : gx_r112.all (fun q => decide (decode prog_2_method_5_code q.1 = .ok q.2)) = true := by decide +kernel
def gx_r113 : List (Nat × Instr × Nat) := [(0, .iconst 1, 1), (1, .istore_n 3, 1), (2, .iconst 0, 1), (3, .istore 4, 2), (5, .iload 4, 2), (7, .aload_n 0, 1), (8, .getfield 65, 3), (11, .iload_n 1, 1), (12, .iaload, 1), (13, .if_icmp .ge 81, 3), (16, .iload_n 3, 1), (17, .ifCond .eq 77, 3), (20, .aload_n 0, 1), (21, .iload_n 1, 1), (22, .iload 4, 2), (24, .invokevirtual 68, 3), (27, .istore 5, 2), (29, .iload 5, 2), (31, .ifCond .ge 30, 3), (34, .iload_n 2, 1), (35, .sipush (-1000), 3), (38, .iload 5, 2), (40, .isub, 1), (41, .invokestatic 48, 3), (44, .ifCond .ne 17, 3), (47, .aload_n 0, 1), (48, .iload_n 1, 1), (49, .iload 4, 2), (51, .iconst 1, 1), (52, .iadd, 1), (53, .invokevirtual 72, 3), (56, .ifCond .eq 5, 3), (59, .iconst 0, 1), (60, .ireturn, 1), (61, .iload 5, 2), (63, .ifCond .ge 23, 3), (66, .aload_n 0, 1), (67, .getfield 75, 3), (70, .sipush (-1000), 3), (73, .iload 5, 2), (75, .isub, 1), (76, .invokestatic 48, 3), (79, .ifCond .eq 7, 3), (82, .iconst 1, 1), (83, .goto 4, 3), (86, .iconst 0, 1), (87, .istore_n 3, 1), (88, .iinc 4 1, 3), (91, .goto (-86), 3), (94, .iconst 1, 1), (95, .ireturn, 1)]
def gx_m113 : am_M := (⟨"GrammarStream$Counts", "rowNeedsOnly", "(LGrammarStream$Grammar;II)Z"⟩, prog_2_method_6_code, 6, (Option.some FieldType.boolean), 3, gx_r113)
theorem gx_d113 : gx_r113.all (fun q => decide (decode prog_2_method_6_code q.1 = .ok q.2)) = true := by decide +kernel
def gx_r114 : List (Nat × Instr × Nat) := [(0, .iconst 0, 1), (1, .istore_n 3, 1), (2, .iload_n 3, 1), (3, .aload_n 0, 1), (4, .getfield 22, 3), (7, .if_icmp .ge 77, 3), (10, .aload_n 0, 1), (11, .getfield 18, 3), (14, .iload_n 3, 1), (15, .iaload, 1), (16, .istore 4, 2), (18, .lconst 0, 1), (19, .lstore 5, 2), (21, .iconst 0, 1), (22, .istore 7, 2), (24, .iload 7, 2), (26, .aload_n 1, 1), (27, .getfield 56, 3), (30, .if_icmp .ge 34, 3), (33, .aload_n 1, 1), (34, .getfield 59, 3), (37, .iload 7, 2), (39, .iaload, 1), (40, .iload 4, 2), (42, .if_icmp .ne 16, 3), (45, .lload 5, 2), (47, .aload_n 0, 1), (48, .aload_n 1, 1), (49, .iload 7, 2), (51, .iload_n 2, 1), (52, .invokevirtual 78, 3), (55, .ladd, 1), (56, .lstore 5, 2), (58, .iinc 7 1, 3), (61, .goto (-37), 3), (64, .aload_n 0, 1), (65, .getfield 11, 3), (68, .iload 4, 2), (70, .bipush 41, 2), (72, .imul, 1), (73, .iload_n 2, 1), (74, .iadd, 1), (75, .lload 5, 2), (77, .lastore, 1), (78, .iinc 3 1, 3), (81, .goto (-79), 3), (84, .iconst 0, 1), (85, .istore_n 3, 1), (86, .iload_n 3, 1), (87, .aload_n 1, 1), (88, .getfield 56, 3), (91, .if_icmp .ge 17, 3), (94, .aload_n 0, 1), (95, .aload_n 1, 1), (96, .iload_n 3, 1), (97, .iload_n 2, 1), (98, .invokevirtual 78, 3), (101, .pop2, 1), (102, .iinc 3 1, 3), (105, .goto (-19), 3), (108, .return_, 1)]
def gx_m114 : am_M := (⟨"GrammarStream$Counts", "countLength", "(LGrammarStream$Grammar;I)V"⟩, prog_2_method_7_code, 8, (Option.none : Option FieldType), 2, gx_r114)
theorem gx_d114 : gx_r114.all (fun q => decide (decode prog_2_method_7_code q.1 = .ok q.2)) = true := by decide +kernel
def gx_r115 : List (Nat × Instr × Nat) := [(0, .aload_n 1, 1), (1, .getfield 65, 3), (4, .iload_n 2, 1), (5, .iaload, 1), (6, .istore 4, 2), (8, .iload_n 3, 1), (9, .ifCond .ne 7, 3), (12, .lconst 1, 1), (13, .goto 4, 3), (16, .lconst 0, 1), (17, .lstore 5, 2), (19, .aload_n 0, 1), (20, .getfield 15, 3), (23, .iload_n 2, 1), (24, .bipush 9, 2), (26, .imul, 1), (27, .iload 4, 2), (29, .iadd, 1), (30, .bipush 41, 2), (32, .imul, 1), (33, .iload_n 3, 1), (34, .iadd, 1), (35, .lload 5, 2), (37, .lastore, 1), (38, .iload 4, 2), (40, .iconst 1, 1), (41, .isub, 1), (42, .istore 7, 2), (44, .iload 7, 2), (46, .ifCond .lt 58, 3), (49, .iload_n 2, 1), (50, .bipush 9, 2), (52, .imul, 1), (53, .iload 7, 2), (55, .iadd, 1), (56, .iconst 1, 1), (57, .iadd, 1), (58, .bipush 41, 2), (60, .imul, 1), (61, .istore 8, 2), (63, .aload_n 0, 1), (64, .aload_n 1, 1), (65, .iload_n 2, 1), (66, .iload 7, 2), (68, .invokevirtual 68, 3), (71, .iload 8, 2), (73, .iload_n 3, 1), (74, .invokevirtual 82, 3), (77, .lstore 5, 2), (79, .aload_n 0, 1), (80, .getfield 15, 3), (83, .iload_n 2, 1), (84, .bipush 9, 2), (86, .imul, 1), (87, .iload 7, 2), (89, .iadd, 1), (90, .bipush 41, 2), (92, .imul, 1), (93, .iload_n 3, 1), (94, .iadd, 1), (95, .lload 5, 2), (97, .lastore, 1), (98, .iinc 7 (-1), 3), (101, .goto (-57), 3), (104, .lload 5, 2), (106, .lreturn, 1)]
def gx_m115 : am_M := (⟨"GrammarStream$Counts", "countRow", "(LGrammarStream$Grammar;II)J"⟩, prog_2_method_8_code, 9, (Option.some FieldType.long), 3, gx_r115)
theorem gx_d115 : gx_r115.all (fun q => decide (decode prog_2_method_8_code q.1 = .ok q.2)) = true := by decide +kernel
def gx_r116 : List (Nat × Instr × Nat) := [(0, .iload_n 1, 1), (1, .ifCond .lt 22, 3), (4, .iload_n 3, 1), (5, .ifCond .ne 7, 3), (8, .lconst 0, 1), (9, .goto 13, 3), (12, .aload_n 0, 1), (13, .getfield 15, 3), (16, .iload_n 2, 1), (17, .iload_n 3, 1), (18, .iadd, 1), (19, .iconst 1, 1), (20, .isub, 1), (21, .laload, 1), (22, .lreturn, 1), (23, .sipush (-1000), 3), (26, .iload_n 1, 1), (27, .isub, 1), (28, .bipush 41, 2), (30, .imul, 1), (31, .istore 4, 2), (33, .lconst 0, 1), (34, .lstore 5, 2), (36, .iconst 0, 1), (37, .istore 7, 2), (39, .iload 7, 2), (41, .iload_n 3, 1), (42, .if_icmp .gt 36, 3), (45, .lload 5, 2), (47, .aload_n 0, 1), (48, .getfield 11, 3), (51, .iload 4, 2), (53, .iload 7, 2), (55, .iadd, 1), (56, .laload, 1), (57, .aload_n 0, 1), (58, .getfield 15, 3), (61, .iload_n 2, 1), (62, .iload_n 3, 1), (63, .iadd, 1), (64, .iload 7, 2), (66, .isub, 1), (67, .laload, 1), (68, .lmul, 1), (69, .ladd, 1), (70, .lstore 5, 2), (72, .iinc 7 1, 3), (75, .goto (-36), 3), (78, .lload 5, 2), (80, .lreturn, 1)]
def gx_m116 : am_M := (⟨"GrammarStream$Counts", "countTail", "(III)J"⟩, prog_2_method_9_code, 8, (Option.some FieldType.long), 3, gx_r116)
theorem gx_d116 : gx_r116.all (fun q => decide (decode prog_2_method_9_code q.1 = .ok q.2)) = true := by decide +kernel
def gx_r117 : List (Nat × Instr × Nat) := [(0, .iload_n 3, 1), (1, .iconst 1, 1), (2, .if_icmp .lt 26, 3), (5, .iload_n 3, 1), (6, .bipush 8, 2), (8, .if_icmp .gt 20, 3), (11, .aload_n 0, 1), (12, .getfield 39, 3), (15, .ifnull 13, 3), (18, .aload_n 0, 1), (19, .getfield 39, 3), (22, .getfield 169, 3), (25, .ifCond .eq 5, 3), (28, .iconst (-1), 1), (29, .ireturn, 1), (30, .aload_n 0, 1), (31, .getfield 39, 3), (34, .getfield 174, 3), (37, .iload_n 3, 1), (38, .iadd, 1), (39, .sipush 4000, 3), (42, .if_icmp .le 6, 3), (45, .bipush (-2), 2), (47, .ireturn, 1), (48, .iload_n 3, 1), (49, .iconst 1, 1), (50, .isub, 1), (51, .istore 4, 2), (53, .iload 4, 2), (55, .ifCond .lt 22, 3), (58, .aload_n 0, 1), (59, .getfield 39, 3), (62, .lload_n 1, 1), (63, .iload 4, 2), (65, .invokestatic 47, 3), (68, .invokevirtual 177, 3), (71, .iinc 4 (-1), 3), (74, .goto (-21), 3), (77, .aload_n 0, 1), (78, .getfield 39, 3), (81, .invokevirtual 181, 3), (84, .aload_n 0, 1), (85, .getfield 39, 3), (88, .getfield 184, 3), (91, .ireturn, 1)]
def gx_m117 : am_M := (⟨"GrammarStream", "feed", "(JI)I"⟩, prog_1_method_14_code, 5, (Option.some FieldType.int), 2, gx_r117)
theorem gx_d117 : gx_r117.all (fun q => decide (decode prog_1_method_14_code q.1 = .ok q.2)) = true := by decide +kernel
def gx_r118 : List (Nat × Instr × Nat) := [(0, .aload_n 0, 1), (1, .getfield 15, 3), (4, .sipush 4000, 3), (7, .if_icmp .ge 23, 3), (10, .aload_n 0, 1), (11, .getfield 9, 3), (14, .aload_n 0, 1), (15, .getfield 15, 3), (18, .iload_n 1, 1), (19, .iastore, 1), (20, .aload_n 0, 1), (21, .dup, 1), (22, .getfield 15, 3), (25, .iconst 1, 1), (26, .iadd, 1), (27, .putfield 15, 3), (30, .return_, 1)]
def gx_m118 : am_M := (⟨"GrammarStream$Reading", "append", "(I)V"⟩, prog_11_method_3_code, 2, (Option.none : Option FieldType), 1, gx_r118)
theorem gx_d118 : gx_r118.all (fun q => decide (decode prog_11_method_3_code q.1 = .ok q.2)) = true := by decide +kernel
def gx_r119 : List (Nat × Instr × Nat) := [(0, .aload_n 0, 1), (1, .iconst 0, 1), (2, .invokevirtual 76, 3), (5, .return_, 1)]
def gx_m119 : am_M := (⟨"GrammarStream$Reading", "lookOn", "()V"⟩, prog_11_method_4_code, 1, (Option.none : Option FieldType), 0, gx_r119)
theorem gx_d119 : gx_r119.all (fun q => decide (decode prog_11_method_4_code q.1 = .ok q.2)) = true := by decide +kernel
def gx_r120 : List (Nat × Instr × Nat) := [(0, .iconst 0, 1), (1, .istore_n 2, 1), (2, .iload_n 2, 1), (3, .sipush 4000, 3), (6, .if_icmp .gt 43, 3), (9, .aload_n 0, 1), (10, .getfield 34, 3), (13, .ifCond .ne 36, 3), (16, .aload_n 0, 1), (17, .getfield 19, 3), (20, .aload_n 0, 1), (21, .getfield 15, 3), (24, .if_icmp .ge 25, 3), (27, .aload_n 0, 1), (28, .invokevirtual 89, 3), (31, .ifCond .ne 8, 3), (34, .iload_n 1, 1), (35, .ifCond .ne 4, 3), (38, .return_, 1), (39, .aload_n 0, 1), (40, .invokevirtual 93, 3), (43, .iinc 2 1, 3), (46, .goto (-44), 3), (49, .return_, 1)]
def gx_m120 : am_M := (⟨"GrammarStream$Reading", "lookAtAll", "(Z)V"⟩, prog_11_method_7_code, 3, (Option.none : Option FieldType), 1, gx_r120)
theorem gx_d120 : gx_r120.all (fun q => decide (decode prog_11_method_7_code q.1 = .ok q.2)) = true := by decide +kernel
def gx_r121 : List (Nat × Instr × Nat) := [(0, .aload_n 0, 1), (1, .getfield 22, 3), (4, .aload_n 0, 1), (5, .getfield 15, 3), (8, .if_icmp .ge 92, 3), (11, .aload_n 0, 1), (12, .getfield 56, 3), (15, .getfield 96, 3), (18, .aload_n 0, 1), (19, .getfield 25, 3), (22, .aload_n 0, 1), (23, .getfield 9, 3), (26, .aload_n 0, 1), (27, .getfield 22, 3), (30, .iaload, 1), (31, .invokevirtual 100, 3), (34, .istore_n 1, 1), (35, .iload_n 1, 1), (36, .ifCond .ge 5, 3), (39, .iconst 1, 1), (40, .ireturn, 1), (41, .aload_n 0, 1), (42, .iload_n 1, 1), (43, .putfield 25, 3), (46, .aload_n 0, 1), (47, .getfield 56, 3), (50, .getfield 96, 3), (53, .getfield 106, 3), (56, .iload_n 1, 1), (57, .iaload, 1), (58, .ifCond .lt 29, 3), (61, .aload_n 0, 1), (62, .aload_n 0, 1), (63, .getfield 22, 3), (66, .iconst 1, 1), (67, .iadd, 1), (68, .putfield 28, 3), (71, .aload_n 0, 1), (72, .aload_n 0, 1), (73, .getfield 56, 3), (76, .getfield 96, 3), (79, .getfield 106, 3), (82, .iload_n 1, 1), (83, .iaload, 1), (84, .putfield 31, 3), (87, .aload_n 0, 1), (88, .dup, 1), (89, .getfield 22, 3), (92, .iconst 1, 1), (93, .iadd, 1), (94, .putfield 22, 3), (97, .goto (-97), 3), (100, .iconst 0, 1), (101, .ireturn, 1)]
def gx_m121 : am_M := (⟨"GrammarStream$Reading", "goTillStuck", "()Z"⟩, prog_11_method_8_code, 2, (Option.some FieldType.boolean), 0, gx_r121)
theorem gx_d121 : gx_r121.all (fun q => decide (decode prog_11_method_8_code q.1 = .ok q.2)) = true := by decide +kernel
def gx_r122 : List (Nat × Instr × Nat) := [(0, .iload_n 1, 1), (1, .ifCond .lt 31, 3), (4, .iload_n 1, 1), (5, .aload_n 0, 1), (6, .getfield 15, 3), (9, .if_icmp .ge 23, 3), (12, .iload_n 2, 1), (13, .ifCond .lt 19, 3), (16, .iload_n 2, 1), (17, .sipush 256, 3), (20, .if_icmp .ge 12, 3), (23, .aload_n 0, 1), (24, .getfield 24, 3), (27, .iload_n 2, 1), (28, .iaload, 1), (29, .ifCond .ge 5, 3), (32, .iconst (-1), 1), (33, .ireturn, 1), (34, .aload_n 0, 1), (35, .getfield 29, 3), (38, .iload_n 1, 1), (39, .bipush 118, 2), (41, .imul, 1), (42, .aload_n 0, 1), (43, .getfield 24, 3), (46, .iload_n 2, 1), (47, .iaload, 1), (48, .iadd, 1), (49, .iaload, 1), (50, .ireturn, 1)]
def gx_m122 : am_M := (⟨"GrammarStream$Machine", "stateBy", "(II)I"⟩, prog_4_method_3_code, 3, (Option.some FieldType.int), 2, gx_r122)
theorem gx_d122 : gx_r122.all (fun q => decide (decode prog_4_method_3_code q.1 = .ok q.2)) = true := by decide +kernel
def gx_r123 : List (Nat × Instr × Nat) := [(0, .aload_n 0, 1), (1, .getfield 19, 3), (4, .istore_n 1, 1), (5, .aload_n 0, 1), (6, .getfield 28, 3), (9, .ifCond .ge 14, 3), (12, .aload_n 0, 1), (13, .iconst 1, 1), (14, .putfield 34, 3), (17, .aload_n 0, 1), (18, .iload_n 1, 1), (19, .putfield 37, 3), (22, .return_, 1), (23, .aload_n 0, 1), (24, .aload_n 0, 1), (25, .getfield 28, 3), (28, .invokevirtual 72, 3), (31, .aload_n 0, 1), (32, .getfield 56, 3), (35, .getfield 109, 3), (38, .aload_n 0, 1), (39, .getfield 31, 3), (42, .baload, 1), (43, .ifCond .ne 68, 3), (46, .aload_n 0, 1), (47, .getfield 53, 3), (50, .sipush 4000, 3), (53, .if_icmp .ge 58, 3), (56, .aload_n 0, 1), (57, .getfield 44, 3), (60, .aload_n 0, 1), (61, .getfield 53, 3), (64, .aload_n 0, 1), (65, .getfield 31, 3), (68, .iastore, 1), (69, .aload_n 0, 1), (70, .getfield 47, 3), (73, .aload_n 0, 1), (74, .getfield 53, 3), (77, .iload_n 1, 1), (78, .iastore, 1), (79, .aload_n 0, 1), (80, .getfield 50, 3), (83, .aload_n 0, 1), (84, .getfield 53, 3), (87, .aload_n 0, 1), (88, .getfield 19, 3), (91, .iastore, 1), (92, .aload_n 0, 1), (93, .dup, 1), (94, .getfield 53, 3), (97, .iconst 1, 1), (98, .iadd, 1), (99, .putfield 53, 3), (102, .aload_n 0, 1), (103, .aload_n 0, 1), (104, .getfield 31, 3), (107, .iload_n 1, 1), (108, .invokevirtual 85, 3), (111, .return_, 1)]
def gx_m123 : am_M := (⟨"GrammarStream$Reading", "settleToken", "()V"⟩, prog_11_method_9_code, 2, (Option.none : Option FieldType), 0, gx_r123)
theorem gx_d123 : gx_r123.all (fun q => decide (decode prog_11_method_9_code q.1 = .ok q.2)) = true := by decide +kernel
def gx_r124 : List (Nat × Instr × Nat) := [(0, .aload_n 0, 1), (1, .aload_n 0, 1), (2, .getfield 65, 3), (5, .iload_n 1, 1), (6, .invokevirtual 113, 3), (9, .putfield 34, 3), (12, .aload_n 0, 1), (13, .iload_n 2, 1), (14, .putfield 37, 3), (17, .return_, 1)]
def gx_m124 : am_M := (⟨"GrammarStream$Reading", "passOn", "(II)V"⟩, prog_11_method_10_code, 3, (Option.none : Option FieldType), 2, gx_r124)
theorem gx_d124 : gx_r124.all (fun q => decide (decode prog_11_method_10_code q.1 = .ok q.2)) = true := by decide +kernel
def gx_r125 : List (Nat × Instr × Nat) := [(0, .iconst 0, 1), (1, .istore_n 2, 1), (2, .iload_n 2, 1), (3, .sipush 20001, 3), (6, .if_icmp .gt 119, 3), (9, .aload_n 0, 1), (10, .getfield 21, 3), (13, .ifCond .ne 20, 3), (16, .iload_n 1, 1), (17, .aload_n 0, 1), (18, .getfield 52, 3), (21, .getfield 56, 3), (24, .if_icmp .ne 7, 3), (27, .iconst 0, 1), (28, .goto 4, 3), (31, .iconst 2, 1), (32, .ireturn, 1), (33, .aload_n 0, 1), (34, .getfield 9, 3), (37, .aload_n 0, 1), (38, .getfield 21, 3), (41, .iconst 1, 1), (42, .isub, 1), (43, .iaload, 1), (44, .istore_n 3, 1), (45, .iload_n 3, 1), (46, .ifCond .lt 10, 3), (49, .aload_n 0, 1), (50, .iload_n 3, 1), (51, .iload_n 1, 1), (52, .invokevirtual 61, 3), (55, .ireturn, 1), (56, .aload_n 0, 1), (57, .getfield 52, 3), (60, .sipush (-1000), 3), (63, .iload_n 3, 1), (64, .isub, 1), (65, .iload_n 1, 1), (66, .invokevirtual 65, 3), (69, .istore 4, 2), (71, .iload 4, 2), (73, .ifCond .ge 5, 3), (76, .iconst 2, 1), (77, .ireturn, 1), (78, .aload_n 0, 1), (79, .getfield 46, 3), (82, .sipush 20000, 3), (85, .if_icmp .ge 26, 3), (88, .aload_n 0, 1), (89, .getfield 21, 3), (92, .iconst 1, 1), (93, .isub, 1), (94, .aload_n 0, 1), (95, .getfield 52, 3), (98, .getfield 68, 3), (101, .iload 4, 2), (103, .iaload, 1), (104, .iadd, 1), (105, .sipush 6000, 3), (108, .if_icmp .le 5, 3), (111, .iconst 3, 1), (112, .ireturn, 1), (113, .aload_n 0, 1), (114, .iload 4, 2), (116, .invokevirtual 71, 3), (119, .iinc 2 1, 3), (122, .goto (-120), 3), (125, .iconst 3, 1), (126, .ireturn, 1)]
def gx_m125 : am_M := (⟨"GrammarStream$Parser", "take", "(I)I"⟩, prog_8_method_3_code, 5, (Option.some FieldType.int), 1, gx_r125)
theorem gx_d125 : gx_r125.all (fun q => decide (decode prog_8_method_3_code q.1 = .ok q.2)) = true := by decide +kernel
def gx_r126 : List (Nat × Instr × Nat) := [(0, .iload_n 1, 1), (1, .iload_n 2, 1), (2, .if_icmp .eq 5, 3), (5, .iconst 2, 1), (6, .ireturn, 1), (7, .aload_n 0, 1), (8, .dup, 1), (9, .getfield 21, 3), (12, .iconst 1, 1), (13, .isub, 1), (14, .putfield 21, 3), (17, .aload_n 0, 1), (18, .dup, 1), (19, .getfield 49, 3), (22, .iconst 1, 1), (23, .iadd, 1), (24, .putfield 49, 3), (27, .iconst 0, 1), (28, .ireturn, 1)]
def gx_m126 : am_M := (⟨"GrammarStream$Parser", "takeOff", "(II)I"⟩, prog_8_method_4_code, 3, (Option.some FieldType.int), 2, gx_r126)
theorem gx_d126 : gx_r126.all (fun q => decide (decode prog_8_method_4_code q.1 = .ok q.2)) = true := by decide +kernel
def gx_r127 : List (Nat × Instr × Nat) := [(0, .aload_n 0, 1), (1, .getfield 21, 3), (4, .iconst 1, 1), (5, .isub, 1), (6, .istore_n 2, 1), (7, .aload_n 0, 1), (8, .getfield 46, 3), (11, .istore_n 3, 1), (12, .aload_n 0, 1), (13, .getfield 34, 3), (16, .iload_n 3, 1), (17, .iload_n 1, 1), (18, .iastore, 1), (19, .aload_n 0, 1), (20, .getfield 37, 3), (23, .iload_n 3, 1), (24, .aload_n 0, 1), (25, .getfield 15, 3), (28, .iload_n 2, 1), (29, .iaload, 1), (30, .iastore, 1), (31, .aload_n 0, 1), (32, .getfield 40, 3), (35, .iload_n 3, 1), (36, .aload_n 0, 1), (37, .getfield 18, 3), (40, .iload_n 2, 1), (41, .iaload, 1), (42, .iastore, 1), (43, .aload_n 0, 1), (44, .getfield 43, 3), (47, .iload_n 3, 1), (48, .aload_n 0, 1), (49, .getfield 49, 3), (52, .iastore, 1), (53, .aload_n 0, 1), (54, .dup, 1), (55, .getfield 46, 3), (58, .iconst 1, 1), (59, .iadd, 1), (60, .putfield 46, 3), (63, .aload_n 0, 1), (64, .iload_n 2, 1), (65, .putfield 21, 3), (68, .aload_n 0, 1), (69, .getfield 52, 3), (72, .getfield 68, 3), (75, .iload_n 1, 1), (76, .iaload, 1), (77, .iconst 1, 1), (78, .isub, 1), (79, .istore 4, 2), (81, .iload 4, 2), (83, .ifCond .lt 59, 3), (86, .aload_n 0, 1), (87, .getfield 9, 3), (90, .aload_n 0, 1), (91, .getfield 21, 3), (94, .aload_n 0, 1), (95, .getfield 52, 3), (98, .iload_n 1, 1), (99, .iload 4, 2), (101, .invokevirtual 75, 3), (104, .iastore, 1), (105, .aload_n 0, 1), (106, .getfield 15, 3), (109, .aload_n 0, 1), (110, .getfield 21, 3), (113, .iload_n 3, 1), (114, .iastore, 1), (115, .aload_n 0, 1), (116, .getfield 18, 3), (119, .aload_n 0, 1), (120, .getfield 21, 3), (123, .iload 4, 2), (125, .iastore, 1), (126, .aload_n 0, 1), (127, .dup, 1), (128, .getfield 21, 3), (131, .iconst 1, 1), (132, .iadd, 1), (133, .putfield 21, 3), (136, .iinc 4 (-1), 3), (139, .goto (-58), 3), (142, .return_, 1)]
def gx_m127 : am_M := (⟨"GrammarStream$Parser", "replaceTop", "(I)V"⟩, prog_8_method_5_code, 5, (Option.none : Option FieldType), 1, gx_r127)
theorem gx_d127 : gx_r127.all (fun q => decide (decode prog_8_method_5_code q.1 = .ok q.2)) = true := by decide +kernel
def gx_r128 : List (Nat × Instr × Nat) := [(0, .aload_n 0, 1), (1, .getfield 39, 3), (4, .ifnonnull 5, 3), (7, .iconst (-1), 1), (8, .ireturn, 1), (9, .aload_n 0, 1), (10, .getfield 39, 3), (13, .invokevirtual 187, 3), (16, .aload_n 0, 1), (17, .getfield 39, 3), (20, .getfield 184, 3), (23, .ireturn, 1)]
def gx_m128 : am_M := (⟨"GrammarStream", "finish", "()I"⟩, prog_1_method_15_code, 1, (Option.some FieldType.int), 0, gx_r128)
theorem gx_d128 : gx_r128.all (fun q => decide (decode prog_1_method_15_code q.1 = .ok q.2)) = true := by decide +kernel
def gx_r129 : List (Nat × Instr × Nat) := [(0, .aload_n 0, 1), (1, .getfield 40, 3), (4, .ifCond .eq 4, 3), (7, .return_, 1), (8, .aload_n 0, 1), (9, .iconst 1, 1), (10, .putfield 40, 3), (13, .aload_n 0, 1), (14, .iconst 1, 1), (15, .invokevirtual 76, 3), (18, .aload_n 0, 1), (19, .getfield 34, 3), (22, .ifCond .ne 18, 3), (25, .aload_n 0, 1), (26, .aload_n 0, 1), (27, .getfield 56, 3), (30, .getfield 80, 3), (33, .aload_n 0, 1), (34, .getfield 15, 3), (37, .invokevirtual 85, 3), (40, .return_, 1)]
def gx_m129 : am_M := (⟨"GrammarStream$Reading", "end", "()V"⟩, prog_11_method_5_code, 1, (Option.none : Option FieldType), 0, gx_r129)
theorem gx_d129 : gx_r129.all (fun q => decide (decode prog_11_method_5_code q.1 = .ok q.2)) = true := by decide +kernel
def gx_r130 : List (Nat × Instr × Nat) := [(0, .aload_n 0, 1), (1, .getfield 39, 3), (4, .ifnull 10, 3), (7, .aload_n 0, 1), (8, .getfield 32, 3), (11, .ifnonnull 5, 3), (14, .iconst (-1), 1), (15, .ireturn, 1), (16, .aload_n 0, 1), (17, .getfield 39, 3), (20, .getfield 174, 3), (23, .istore_n 1, 1), (24, .aload_n 0, 1), (25, .getfield 39, 3), (28, .aload_n 0, 1), (29, .getfield 32, 3), (32, .invokevirtual 190, 3), (35, .iload_n 1, 1), (36, .ireturn, 1)]
def gx_m130 : am_M := (⟨"GrammarStream", "reset", "()I"⟩, prog_1_method_16_code, 2, (Option.some FieldType.int), 0, gx_r130)
theorem gx_d130 : gx_r130.all (fun q => decide (decode prog_1_method_16_code q.1 = .ok q.2)) = true := by decide +kernel
def gx_r131 : List (Nat × Instr × Nat) := [(0, .iload_n 1, 1), (1, .ifCond .lt 9, 3), (4, .iload_n 1, 1), (5, .bipush 6, 2), (7, .if_icmp .le 5, 3), (10, .iconst (-1), 1), (11, .ireturn, 1), (12, .aload_n 0, 1), (13, .getfield 39, 3), (16, .ifnonnull 14, 3), (19, .iload_n 1, 1), (20, .iconst 2, 1), (21, .if_icmp .ne 7, 3), (24, .iconst (-1), 1), (25, .goto 4, 3), (28, .iconst 0, 1), (29, .ireturn, 1), (30, .iload_n 1, 1), (31, .tableswitch 110 0 5 #[37, 45, 53, 75, 91, 99], 37), (68, .aload_n 0, 1), (69, .getfield 39, 3), (72, .getfield 174, 3), (75, .ireturn, 1), (76, .aload_n 0, 1), (77, .getfield 39, 3), (80, .getfield 184, 3), (83, .ireturn, 1), (84, .aload_n 0, 1), (85, .getfield 39, 3), (88, .getfield 184, 3), (91, .ifCond .ne 7, 3), (94, .iconst (-1), 1), (95, .goto 10, 3), (98, .aload_n 0, 1), (99, .getfield 39, 3), (102, .getfield 193, 3), (105, .ireturn, 1), (106, .aload_n 0, 1), (107, .getfield 39, 3), (110, .getfield 169, 3), (113, .ifCond .eq 7, 3), (116, .iconst 1, 1), (117, .goto 4, 3), (120, .iconst 0, 1), (121, .ireturn, 1), (122, .aload_n 0, 1), (123, .getfield 39, 3), (126, .getfield 196, 3), (129, .ireturn, 1), (130, .aload_n 0, 1), (131, .getfield 39, 3), (134, .getfield 199, 3), (137, .getfield 203, 3), (140, .ireturn, 1), (141, .aload_n 0, 1), (142, .getfield 39, 3), (145, .getfield 199, 3), (148, .getfield 208, 3), (151, .ireturn, 1)]
def gx_m131 : am_M := (⟨"GrammarStream", "stream", "(I)I"⟩, prog_1_method_17_code, 2, (Option.some FieldType.int), 1, gx_r131)
theorem gx_d131 : gx_r131.all (fun q => decide (decode prog_1_method_17_code q.1 = .ok q.2)) = true := by decide +kernel
end
section
def gx_r132 : List (Nat × Instr × Nat) := [(0, .aload_n 0, 1), (1, .getfield 39, 3), (4, .ifnull 18, 3), (7, .iload_n 1, 1), (8, .ifCond .lt 14, 3), (11, .iload_n 1, 1), (12, .aload_n 0, 1), (13, .getfield 39, 3), (16, .getfield 196, 3), (19, .if_icmp .lt 5, 3), (22, .iconst (-1), 1), (23, .ireturn, 1), (24, .iload_n 2, 1), (25, .tableswitch 57 0 2 #[27, 37, 47], 27), (52, .aload_n 0, 1), (53, .getfield 39, 3), (56, .getfield 211, 3), (59, .iload_n 1, 1), (60, .iaload, 1), (61, .ireturn, 1), (62, .aload_n 0, 1), (63, .getfield 39, 3), (66, .getfield 214, 3), (69, .iload_n 1, 1), (70, .iaload, 1), (71, .ireturn, 1), (72, .aload_n 0, 1), (73, .getfield 39, 3), (76, .getfield 217, 3), (79, .iload_n 1, 1), (80, .iaload, 1), (81, .ireturn, 1), (82, .iconst (-1), 1), (83, .ireturn, 1)]
def gx_m132 : am_M := (⟨"GrammarStream", "found", "(II)I"⟩, prog_1_method_18_code, 3, (Option.some FieldType.int), 2, gx_r132)
theorem gx_d132 : gx_r132.all (fun q => decide (decode prog_1_method_18_code q.1 = .ok q.2)) = true := by decide +kernel
def gx_r133 : List (Nat × Instr × Nat) := [(0, .aload_n 0, 1), (1, .getfield 39, 3), (4, .ifnull 21, 3), (7, .iload_n 1, 1), (8, .ifCond .lt 17, 3), (11, .iload_n 1, 1), (12, .aload_n 0, 1), (13, .getfield 39, 3), (16, .getfield 199, 3), (19, .getfield 203, 3), (22, .if_icmp .lt 5, 3), (25, .iconst (-1), 1), (26, .ireturn, 1), (27, .iload_n 2, 1), (28, .tableswitch 84 0 3 #[32, 45, 58, 71], 32), (60, .aload_n 0, 1), (61, .getfield 39, 3), (64, .getfield 199, 3), (67, .getfield 220, 3), (70, .iload_n 1, 1), (71, .iaload, 1), (72, .ireturn, 1), (73, .aload_n 0, 1), (74, .getfield 39, 3), (77, .getfield 199, 3), (80, .getfield 223, 3), (83, .iload_n 1, 1), (84, .iaload, 1), (85, .ireturn, 1), (86, .aload_n 0, 1), (87, .getfield 39, 3), (90, .getfield 199, 3), (93, .getfield 226, 3), (96, .iload_n 1, 1), (97, .iaload, 1), (98, .ireturn, 1), (99, .aload_n 0, 1), (100, .getfield 39, 3), (103, .getfield 199, 3), (106, .getfield 229, 3), (109, .iload_n 1, 1), (110, .iaload, 1), (111, .ireturn, 1), (112, .iconst (-1), 1), (113, .ireturn, 1)]
def gx_m133 : am_M := (⟨"GrammarStream", "noted", "(II)I"⟩, prog_1_method_19_code, 3, (Option.some FieldType.int), 2, gx_r133)
theorem gx_d133 : gx_r133.all (fun q => decide (decode prog_1_method_19_code q.1 = .ok q.2)) = true := by decide +kernel
def gx_r134 : List (Nat × Instr × Nat) := [(0, .aload_n 0, 1), (1, .getfield 32, 3), (4, .ifnull 30, 3), (7, .aload_n 0, 1), (8, .getfield 39, 3), (11, .ifnull 23, 3), (14, .aload_n 0, 1), (15, .getfield 39, 3), (18, .getfield 184, 3), (21, .ifCond .ne 13, 3), (24, .aload_n 0, 1), (25, .getfield 39, 3), (28, .getfield 169, 3), (31, .ifCond .eq 5, 3), (34, .iconst 0, 1), (35, .ireturn, 1), (36, .iload_n 1, 1), (37, .aload_n 0, 1), (38, .getfield 32, 3), (41, .getfield 124, 3), (44, .if_icmp .eq 28, 3), (47, .aload_n 0, 1), (48, .getfield 32, 3), (51, .iload_n 1, 1), (52, .invokevirtual 101, 3), (55, .ifCond .eq 15, 3), (58, .aload_n 0, 1), (59, .getfield 32, 3), (62, .getfield 153, 3), (65, .iload_n 1, 1), (66, .baload, 1), (67, .ifCond .eq 5, 3), (70, .iconst 0, 1), (71, .ireturn, 1), (72, .aload_n 0, 1), (73, .getfield 39, 3), (76, .getfield 199, 3), (79, .iload_n 1, 1), (80, .invokevirtual 232, 3), (83, .ireturn, 1)]
def gx_m134 : am_M := (⟨"GrammarStream", "expected", "(I)Z"⟩, prog_1_method_20_code, 2, (Option.some FieldType.boolean), 1, gx_r134)
theorem gx_d134 : gx_r134.all (fun q => decide (decode prog_1_method_20_code q.1 = .ok q.2)) = true := by decide +kernel
def gx_r135 : List (Nat × Instr × Nat) := [(0, .aload_n 0, 1), (1, .getfield 21, 3), (4, .istore_n 2, 1), (5, .aload_n 0, 1), (6, .getfield 46, 3), (9, .istore_n 3, 1), (10, .aload_n 0, 1), (11, .getfield 49, 3), (14, .istore 4, 2), (16, .aload_n 0, 1), (17, .getfield 9, 3), (20, .iconst 0, 1), (21, .aload_n 0, 1), (22, .getfield 25, 3), (25, .iconst 0, 1), (26, .iload_n 2, 1), (27, .invokestatic 78, 3), (30, .aload_n 0, 1), (31, .getfield 15, 3), (34, .iconst 0, 1), (35, .aload_n 0, 1), (36, .getfield 28, 3), (39, .iconst 0, 1), (40, .iload_n 2, 1), (41, .invokestatic 78, 3), (44, .aload_n 0, 1), (45, .getfield 18, 3), (48, .iconst 0, 1), (49, .aload_n 0, 1), (50, .getfield 31, 3), (53, .iconst 0, 1), (54, .iload_n 2, 1), (55, .invokestatic 78, 3), (58, .aload_n 0, 1), (59, .iload_n 1, 1), (60, .invokevirtual 84, 3), (63, .ifCond .ne 7, 3), (66, .iconst 1, 1), (67, .goto 4, 3), (70, .iconst 0, 1), (71, .istore 5, 2), (73, .aload_n 0, 1), (74, .getfield 25, 3), (77, .iconst 0, 1), (78, .aload_n 0, 1), (79, .getfield 9, 3), (82, .iconst 0, 1), (83, .iload_n 2, 1), (84, .invokestatic 78, 3), (87, .aload_n 0, 1), (88, .getfield 28, 3), (91, .iconst 0, 1), (92, .aload_n 0, 1), (93, .getfield 15, 3), (96, .iconst 0, 1), (97, .iload_n 2, 1), (98, .invokestatic 78, 3), (101, .aload_n 0, 1), (102, .getfield 31, 3), (105, .iconst 0, 1), (106, .aload_n 0, 1), (107, .getfield 18, 3), (110, .iconst 0, 1), (111, .iload_n 2, 1), (112, .invokestatic 78, 3), (115, .aload_n 0, 1), (116, .iload_n 2, 1), (117, .putfield 21, 3), (120, .aload_n 0, 1), (121, .iload_n 3, 1), (122, .putfield 46, 3), (125, .aload_n 0, 1), (126, .iload 4, 2), (128, .putfield 49, 3), (131, .iload 5, 2), (133, .ireturn, 1)]
def gx_m135 : am_M := (⟨"GrammarStream$Parser", "wouldTake", "(I)Z"⟩, prog_8_method_6_code, 6, (Option.some FieldType.boolean), 1, gx_r135)
theorem gx_d135 : gx_r135.all (fun q => decide (decode prog_8_method_6_code q.1 = .ok q.2)) = true := by decide +kernel
def gx_r136 : List (Nat × Instr × Nat) := [(0, .aload_n 0, 1), (1, .invokespecial 1, 3), (4, .aload_n 0, 1), (5, .sipush 2000, 3), (8, .newarray .int, 2), (10, .putfield 7, 3), (13, .aload_n 0, 1), (14, .sipush 700, 3), (17, .newarray .int, 2), (19, .putfield 13, 3), (22, .aload_n 0, 1), (23, .sipush 700, 3), (26, .newarray .int, 2), (28, .putfield 16, 3), (31, .aload_n 0, 1), (32, .sipush 700, 3), (35, .newarray .boolean, 2), (37, .putfield 19, 3), (40, .aload_n 0, 1), (41, .sipush 700, 3), (44, .newarray .int, 2), (46, .putfield 23, 3), (49, .aload_n 0, 1), (50, .sipush 700, 3), (53, .newarray .int, 2), (55, .putfield 26, 3), (58, .aload_n 0, 1), (59, .sipush 2100, 3), (62, .newarray .int, 2), (64, .putfield 29, 3), (67, .aload_n 0, 1), (68, .sipush 2100, 3), (71, .newarray .int, 2), (73, .putfield 32, 3), (76, .aload_n 0, 1), (77, .sipush 2100, 3), (80, .newarray .int, 2), (82, .putfield 35, 3), (85, .aload_n 0, 1), (86, .sipush 2100, 3), (89, .newarray .int, 2), (91, .putfield 38, 3), (94, .aload_n 0, 1), (95, .sipush 2100, 3), (98, .newarray .int, 2), (100, .putfield 41, 3), (103, .aload_n 0, 1), (104, .sipush 2100, 3), (107, .newarray .int, 2), (109, .putfield 44, 3), (112, .aload_n 0, 1), (113, .bipush 22, 2), (115, .newarray .boolean, 2), (117, .putfield 47, 3), (120, .aload_n 0, 1), (121, .bipush 22, 2), (123, .newarray .boolean, 2), (125, .putfield 50, 3), (128, .aload_n 0, 1), (129, .sipush 220, 3), (132, .newarray .long, 2), (134, .putfield 53, 3), (137, .aload_n 0, 1), (138, .sipush 220, 3), (141, .newarray .long, 2), (143, .putfield 57, 3), (146, .aload_n 0, 1), (147, .bipush 22, 2), (149, .newarray .boolean, 2), (151, .putfield 60, 3), (154, .aload_n 0, 1), (155, .bipush 22, 2), (157, .newarray .boolean, 2), (159, .putfield 63, 3), (162, .aload_n 0, 1), (163, .sipush 220, 3), (166, .newarray .long, 2), (168, .putfield 66, 3), (171, .aload_n 0, 1), (172, .sipush 220, 3), (175, .newarray .long, 2), (177, .putfield 69, 3), (180, .aload_n 0, 1), (181, .bipush 10, 2), (183, .newarray .long, 2), (185, .putfield 72, 3), (188, .aload_n 0, 1), (189, .bipush 10, 2), (191, .newarray .long, 2), (193, .putfield 75, 3), (196, .aload_n 0, 1), (197, .sipush 600, 3), (200, .newarray .long, 2), (202, .putfield 78, 3), (205, .aload_n 0, 1), (206, .sipush 600, 3), (209, .newarray .long, 2), (211, .putfield 81, 3), (214, .aload_n 0, 1), (215, .sipush 600, 3), (218, .newarray .int, 2), (220, .putfield 84, 3), (223, .aload_n 0, 1), (224, .sipush 6000, 3), (227, .newarray .long, 2), (229, .putfield 87, 3), (232, .aload_n 0, 1), (233, .bipush 10, 2), (235, .newarray .long, 2), (237, .putfield 90, 3), (240, .aload_n 0, 1), (241, .bipush 10, 2), (243, .newarray .long, 2), (245, .putfield 93, 3), (248, .aload_n 0, 1), (249, .sipush 700, 3), (252, .newarray .boolean, 2), (254, .putfield 96, 3), (257, .aload_n 0, 1), (258, .sipush 4000, 3), (261, .newarray .long, 2), (263, .putfield 99, 3), (266, .aload_n 0, 1), (267, .ldc 102, 2), (269, .newarray .int, 2), (271, .putfield 103, 3), (274, .aload_n 0, 1), (275, .sipush 400, 3), (278, .newarray .int, 2), (280, .putfield 106, 3), (283, .aload_n 0, 1), (284, .sipush 400, 3), (287, .newarray .boolean, 2), (289, .putfield 109, 3), (292, .aload_n 0, 1), (293, .bipush 24, 2), (295, .newarray .int, 2), (297, .putfield 112, 3), (300, .aload_n 0, 1), (301, .bipush 10, 2), (303, .newarray .long, 2), (305, .putfield 115, 3), (308, .aload_n 0, 1), (309, .bipush 10, 2), (311, .newarray .long, 2), (313, .putfield 118, 3), (316, .aload_n 0, 1), (317, .sipush 400, 3), (320, .newarray .int, 2), (322, .putfield 121, 3), (325, .aload_n 0, 1), (326, .bipush 30, 2), (328, .newarray .boolean, 2), (330, .putfield 124, 3), (333, .aload_n 0, 1), (334, .bipush 30, 2), (336, .newarray .int, 2), (338, .putfield 127, 3), (341, .aload_n 0, 1), (342, .bipush 30, 2), (344, .newarray .int, 2), (346, .putfield 130, 3), (349, .aload_n 0, 1), (350, .bipush 30, 2), (352, .newarray .boolean, 2), (354, .putfield 133, 3), (357, .aload_n 0, 1), (358, .sipush 750, 3), (361, .newarray .int, 2), (363, .putfield 136, 3), (366, .aload_n 0, 1), (367, .iconst 4, 1), (368, .newarray .int, 2), (370, .putfield 139, 3), (373, .aload_n 0, 1), (374, .bipush 24, 2), (376, .newarray .boolean, 2), (378, .putfield 142, 3), (381, .aload_n 0, 1), (382, .bipush 24, 2), (384, .newarray .int, 2), (386, .putfield 145, 3), (389, .aload_n 0, 1), (390, .bipush 60, 2), (392, .newarray .int, 2), (394, .putfield 148, 3), (397, .aload_n 0, 1), (398, .bipush 60, 2), (400, .newarray .int, 2), (402, .putfield 151, 3), (405, .aload_n 0, 1), (406, .sipush 480, 3), (409, .newarray .int, 2), (411, .putfield 154, 3), (414, .aload_n 0, 1), (415, .ldc 102, 2), (417, .newarray .int, 2), (419, .putfield 157, 3), (422, .aload_n 0, 1), (423, .sipush 400, 3), (426, .newarray .int, 2), (428, .putfield 160, 3), (431, .aload_n 0, 1), (432, .bipush 30, 2), (434, .newarray .boolean, 2), (436, .putfield 163, 3), (439, .aload_n 0, 1), (440, .bipush 30, 2), (442, .newarray .boolean, 2), (444, .putfield 166, 3), (447, .aload_n 0, 1), (448, .bipush 30, 2), (450, .newarray .int, 2), (452, .putfield 169, 3), (455, .aload_n 0, 1), (456, .bipush 30, 2), (458, .newarray .int, 2), (460, .putfield 172, 3), (463, .aload_n 0, 1), (464, .sipush 750, 3), (467, .newarray .int, 2), (469, .putfield 175, 3), (472, .aload_n 0, 1), (473, .sipush 1230, 3), (476, .newarray .long, 2), (478, .putfield 178, 3), (481, .aload_n 0, 1), (482, .bipush 41, 2), (484, .newarray .long, 2), (486, .putfield 181, 3), (489, .aload_n 0, 1), (490, .bipush 41, 2), (492, .newarray .long, 2), (494, .putfield 184, 3), (497, .aload_n 0, 1), (498, .sipush 4000, 3), (501, .newarray .int, 2), (503, .putfield 187, 3), (506, .aload_n 0, 1), (507, .sipush 4000, 3), (510, .newarray .int, 2), (512, .putfield 190, 3), (515, .aload_n 0, 1), (516, .sipush 4000, 3), (519, .newarray .int, 2), (521, .putfield 193, 3), (524, .aload_n 0, 1), (525, .sipush 4000, 3), (528, .newarray .int, 2), (530, .putfield 196, 3), (533, .aload_n 0, 1), (534, .sipush 20000, 3), (537, .newarray .int, 2), (539, .putfield 199, 3), (542, .aload_n 0, 1), (543, .sipush 20000, 3), (546, .newarray .int, 2), (548, .putfield 202, 3), (551, .aload_n 0, 1), (552, .sipush 20000, 3), (555, .newarray .int, 2), (557, .putfield 205, 3), (560, .aload_n 0, 1), (561, .sipush 20000, 3), (564, .newarray .int, 2), (566, .putfield 208, 3), (569, .aload_n 0, 1), (570, .sipush 6008, 3), (573, .newarray .int, 2), (575, .putfield 211, 3), (578, .aload_n 0, 1), (579, .sipush 6008, 3), (582, .newarray .int, 2), (584, .putfield 214, 3), (587, .aload_n 0, 1), (588, .sipush 6008, 3), (591, .newarray .int, 2), (593, .putfield 217, 3), (596, .aload_n 0, 1), (597, .sipush 6008, 3), (600, .newarray .int, 2), (602, .putfield 220, 3), (605, .return_, 1)]
def gx_m136 : am_M := (⟨"GrammarStreamModel", "<init>", "()V"⟩, prog_14_method_1_code, 1, (Option.none : Option FieldType), 0, gx_r136)
theorem gx_d136 : gx_r136.all (fun q => decide (decode prog_14_method_1_code q.1 = .ok q.2)) = true := by decide +kernel
def gx_r137 : List (Nat × Instr × Nat) := [(0, .iload_n 3, 1), (1, .iconst 1, 1), (2, .if_icmp .lt 9, 3), (5, .iload_n 3, 1), (6, .bipush 8, 2), (8, .if_icmp .le 5, 3), (11, .iconst (-1), 1), (12, .ireturn, 1), (13, .aload_n 0, 1), (14, .getfield 223, 3), (17, .iload_n 3, 1), (18, .iadd, 1), (19, .sipush 2000, 3), (22, .if_icmp .le 6, 3), (25, .bipush (-2), 2), (27, .ireturn, 1), (28, .iload_n 3, 1), (29, .iconst 1, 1), (30, .isub, 1), (31, .istore 4, 2), (33, .iload 4, 2), (35, .ifCond .lt 40, 3), (38, .aload_n 0, 1), (39, .getfield 7, 3), (42, .aload_n 0, 1), (43, .getfield 223, 3), (46, .lload_n 1, 1), (47, .bipush 8, 2), (49, .iload 4, 2), (51, .imul, 1), (52, .lshr, 1), (53, .ldc2_w 227, 3), (56, .land, 1), (57, .l2i, 1), (58, .iastore, 1), (59, .aload_n 0, 1), (60, .dup, 1), (61, .getfield 223, 3), (64, .iconst 1, 1), (65, .iadd, 1), (66, .putfield 223, 3), (69, .iinc 4 (-1), 3), (72, .goto (-39), 3), (75, .aload_n 0, 1), (76, .getfield 223, 3), (79, .ireturn, 1)]
def gx_m137 : am_M := (⟨"GrammarStreamModel", "type", "(JI)I"⟩, prog_14_method_2_code, 5, (Option.some FieldType.int), 2, gx_r137)
theorem gx_d137 : gx_r137.all (fun q => decide (decode prog_14_method_2_code q.1 = .ok q.2)) = true := by decide +kernel
def gx_r138 : List (Nat × Instr × Nat) := [(0, .aload_n 0, 1), (1, .invokevirtual 400, 3), (4, .istore_n 1, 1), (5, .aload_n 0, 1), (6, .iconst 0, 1), (7, .putfield 223, 3), (10, .iload_n 1, 1), (11, .ireturn, 1)]
def gx_m138 : am_M := (⟨"GrammarStreamModel", "build", "()I"⟩, prog_14_method_46_code, 2, (Option.some FieldType.int), 0, gx_r138)
theorem gx_d138 : gx_r138.all (fun q => decide (decode prog_14_method_46_code q.1 = .ok q.2)) = true := by decide +kernel
def gx_r139 : List (Nat × Instr × Nat) := [(0, .aload_n 0, 1), (1, .iconst 0, 1), (2, .putfield 403, 3), (5, .aload_n 0, 1), (6, .iconst 0, 1), (7, .putfield 406, 3), (10, .aload_n 0, 1), (11, .iconst 0, 1), (12, .putfield 409, 3), (15, .aload_n 0, 1), (16, .invokevirtual 412, 3), (19, .ifCond .eq 7, 3), (22, .aload_n 0, 1), (23, .invokevirtual 415, 3), (26, .aload_n 0, 1), (27, .getfield 240, 3), (30, .ifCond .ne 24, 3), (33, .aload_n 0, 1), (34, .getfield 271, 3), (37, .ifCond .ne 17, 3), (40, .aload_n 0, 1), (41, .bipush 8, 2), (43, .putfield 240, 3), (46, .aload_n 0, 1), (47, .aload_n 0, 1), (48, .getfield 223, 3), (51, .putfield 243, 3), (54, .aload_n 0, 1), (55, .getfield 240, 3), (58, .ifCond .ne 7, 3), (61, .aload_n 0, 1), (62, .invokevirtual 418, 3), (65, .aload_n 0, 1), (66, .getfield 240, 3), (69, .ifCond .le 27, 3), (72, .aload_n 0, 1), (73, .aload_n 0, 1), (74, .getfield 240, 3), (77, .putfield 403, 3), (80, .aload_n 0, 1), (81, .aload_n 0, 1), (82, .getfield 243, 3), (85, .putfield 406, 3), (88, .bipush (-10), 2), (90, .aload_n 0, 1), (91, .getfield 243, 3), (94, .isub, 1), (95, .ireturn, 1), (96, .aload_n 0, 1), (97, .getfield 283, 3), (100, .sipush 600, 3), (103, .if_icmp .gt 10, 3), (106, .aload_n 0, 1), (107, .invokevirtual 421, 3), (110, .ifCond .ne 6, 3), (113, .bipush (-2), 2), (115, .ireturn, 1), (116, .aload_n 0, 1), (117, .invokevirtual 424, 3), (120, .aload_n 0, 1), (121, .getfield 397, 3), (124, .ifCond .eq 11, 3), (127, .aload_n 0, 1), (128, .iconst 1, 1), (129, .putfield 409, 3), (132, .bipush (-3), 2), (134, .ireturn, 1), (135, .aload_n 0, 1), (136, .invokevirtual 427, 3), (139, .iconst 0, 1), (140, .ireturn, 1)]
def gx_m139 : am_M := (⟨"GrammarStreamModel", "make", "()I"⟩, prog_14_method_47_code, 1, (Option.some FieldType.int), 0, gx_r139)
theorem gx_d139 : gx_r139.all (fun q => decide (decode prog_14_method_47_code q.1 = .ok q.2)) = true := by decide +kernel
def gx_r140 : List (Nat × Instr × Nat) := [(0, .aload_n 0, 1), (1, .iconst 0, 1), (2, .putfield 229, 3), (5, .aload_n 0, 1), (6, .iconst 0, 1), (7, .putfield 240, 3), (10, .aload_n 0, 1), (11, .iconst 0, 1), (12, .putfield 243, 3), (15, .aload_n 0, 1), (16, .iconst 0, 1), (17, .putfield 264, 3), (20, .aload_n 0, 1), (21, .iconst 0, 1), (22, .putfield 271, 3), (25, .aload_n 0, 1), (26, .iconst 0, 1), (27, .putfield 277, 3), (30, .aload_n 0, 1), (31, .iconst 0, 1), (32, .putfield 280, 3), (35, .aload_n 0, 1), (36, .iconst 0, 1), (37, .putfield 283, 3), (40, .iconst 0, 1), (41, .istore_n 1, 1), (42, .iload_n 1, 1), (43, .bipush 10, 2), (45, .if_icmp .ge 23, 3), (48, .aload_n 0, 1), (49, .getfield 90, 3), (52, .iload_n 1, 1), (53, .lconst 0, 1), (54, .lastore, 1), (55, .aload_n 0, 1), (56, .getfield 93, 3), (59, .iload_n 1, 1), (60, .lconst 0, 1), (61, .lastore, 1), (62, .iinc 1 1, 3), (65, .goto (-23), 3), (68, .aload_n 0, 1), (69, .invokevirtual 274, 3), (72, .aload_n 0, 1), (73, .getfield 229, 3), (76, .aload_n 0, 1), (77, .getfield 223, 3), (80, .if_icmp .ge 39, 3), (83, .aload_n 0, 1), (84, .aload_n 0, 1), (85, .invokevirtual 232, 3), (88, .invokevirtual 249, 3), (91, .ifCond .eq 10, 3), (94, .aload_n 0, 1), (95, .invokevirtual 286, 3), (98, .goto 7, 3), (101, .aload_n 0, 1), (102, .invokevirtual 290, 3), (105, .istore_n 1, 1), (106, .iload_n 1, 1), (107, .ifCond .ne 5, 3), (110, .iconst 0, 1), (111, .ireturn, 1), (112, .aload_n 0, 1), (113, .invokevirtual 274, 3), (116, .goto (-44), 3), (119, .iconst 1, 1), (120, .ireturn, 1)]
def gx_m140 : am_M := (⟨"GrammarStreamModel", "readAll", "()Z"⟩, prog_14_method_16_code, 2, (Option.some FieldType.boolean), 0, gx_r140)
theorem gx_d140 : gx_r140.all (fun q => decide (decode prog_14_method_16_code q.1 = .ok q.2)) = true := by decide +kernel
def gx_r141 : List (Nat × Instr × Nat) := [(0, .aload_n 0, 1), (1, .aload_n 0, 1), (2, .invokevirtual 232, 3), (5, .invokevirtual 236, 3), (8, .ifCond .eq 16, 3), (11, .aload_n 0, 1), (12, .dup, 1), (13, .getfield 229, 3), (16, .iconst 1, 1), (17, .iadd, 1), (18, .putfield 229, 3), (21, .goto (-21), 3), (24, .return_, 1)]
def gx_m141 : am_M := (⟨"GrammarStreamModel", "blanks", "()V"⟩, prog_14_method_8_code, 1, (Option.none : Option FieldType), 0, gx_r141)
theorem gx_d141 : gx_r141.all (fun q => decide (decode prog_14_method_8_code q.1 = .ok q.2)) = true := by decide +kernel
def gx_r142 : List (Nat × Instr × Nat) := [(0, .aload_n 0, 1), (1, .getfield 229, 3), (4, .aload_n 0, 1), (5, .getfield 223, 3), (8, .if_icmp .ge 15, 3), (11, .aload_n 0, 1), (12, .getfield 7, 3), (15, .aload_n 0, 1), (16, .getfield 229, 3), (19, .iaload, 1), (20, .goto 4, 3), (23, .iconst (-1), 1), (24, .ireturn, 1)]
def gx_m142 : am_M := (⟨"GrammarStreamModel", "here", "()I"⟩, prog_14_method_3_code, 1, (Option.some FieldType.int), 0, gx_r142)
theorem gx_d142 : gx_r142.all (fun q => decide (decode prog_14_method_3_code q.1 = .ok q.2)) = true := by decide +kernel
def gx_r143 : List (Nat × Instr × Nat) := [(0, .iload_n 1, 1), (1, .bipush 9, 2), (3, .if_icmp .eq 21, 3), (6, .iload_n 1, 1), (7, .bipush 10, 2), (9, .if_icmp .eq 15, 3), (12, .iload_n 1, 1), (13, .bipush 13, 2), (15, .if_icmp .eq 9, 3), (18, .iload_n 1, 1), (19, .bipush 32, 2), (21, .if_icmp .ne 7, 3), (24, .iconst 1, 1), (25, .goto 4, 3), (28, .iconst 0, 1), (29, .ireturn, 1)]
def gx_m143 : am_M := (⟨"GrammarStreamModel", "isBlank", "(I)Z"⟩, prog_14_method_4_code, 2, (Option.some FieldType.boolean), 1, gx_r143)
theorem gx_d143 : gx_r143.all (fun q => decide (decode prog_14_method_4_code q.1 = .ok q.2)) = true := by decide +kernel
def gx_r144 : List (Nat × Instr × Nat) := [(0, .iload_n 1, 1), (1, .bipush 65, 2), (3, .if_icmp .lt 13, 3), (6, .iload_n 1, 1), (7, .bipush 90, 2), (9, .if_icmp .gt 7, 3), (12, .iconst 1, 1), (13, .goto 4, 3), (16, .iconst 0, 1), (17, .ireturn, 1)]
def gx_m144 : am_M := (⟨"GrammarStreamModel", "isBig", "(I)Z"⟩, prog_14_method_6_code, 2, (Option.some FieldType.boolean), 1, gx_r144)
theorem gx_d144 : gx_r144.all (fun q => decide (decode prog_14_method_6_code q.1 = .ok q.2)) = true := by decide +kernel
def gx_r145 : List (Nat × Instr × Nat) := [(0, .aload_n 0, 1), (1, .invokevirtual 293, 3), (4, .ifCond .ne 5, 3), (7, .iconst 0, 1), (8, .ireturn, 1), (9, .aload_n 0, 1), (10, .aload_n 0, 1), (11, .getfield 246, 3), (14, .aload_n 0, 1), (15, .getfield 261, 3), (18, .invokevirtual 310, 3), (21, .istore_n 1, 1), (22, .aload_n 0, 1), (23, .getfield 246, 3), (26, .istore_n 2, 1), (27, .aload_n 0, 1), (28, .getfield 261, 3), (31, .istore_n 3, 1), (32, .aload_n 0, 1), (33, .bipush 58, 2), (35, .invokevirtual 304, 3), (38, .ifCond .ne 5, 3), (41, .iconst 0, 1), (42, .ireturn, 1), (43, .iload_n 1, 1), (44, .ifCond .ge 48, 3), (47, .aload_n 0, 1), (48, .getfield 271, 3), (51, .bipush 30, 2), (53, .if_icmp .lt 10, 3), (56, .aload_n 0, 1), (57, .bipush 7, 2), (59, .iload_n 2, 1), (60, .invokevirtual 300, 3), (63, .aload_n 0, 1), (64, .getfield 271, 3), (67, .istore_n 1, 1), (68, .aload_n 0, 1), (69, .getfield 23, 3), (72, .iload_n 1, 1), (73, .iload_n 2, 1), (74, .iastore, 1), (75, .aload_n 0, 1), (76, .getfield 26, 3), (79, .iload_n 1, 1), (80, .iload_n 3, 1), (81, .iastore, 1), (82, .aload_n 0, 1), (83, .dup, 1), (84, .getfield 271, 3), (87, .iconst 1, 1), (88, .iadd, 1), (89, .putfield 271, 3), (92, .iconst 1, 1), (93, .istore 4, 2), (95, .iload 4, 2), (97, .ifCond .eq 107, 3), (100, .aload_n 0, 1), (101, .invokevirtual 274, 3), (104, .aload_n 0, 1), (105, .getfield 277, 3), (108, .bipush 60, 2), (110, .if_icmp .lt 13, 3), (113, .aload_n 0, 1), (114, .bipush 7, 2), (116, .aload_n 0, 1), (117, .getfield 229, 3), (120, .invokevirtual 300, 3), (123, .aload_n 0, 1), (124, .getfield 29, 3), (127, .aload_n 0, 1), (128, .getfield 277, 3), (131, .iload_n 1, 1), (132, .iastore, 1), (133, .aload_n 0, 1), (134, .getfield 32, 3), (137, .aload_n 0, 1), (138, .getfield 277, 3), (141, .aload_n 0, 1), (142, .getfield 280, 3), (145, .iastore, 1), (146, .aload_n 0, 1), (147, .getfield 35, 3), (150, .aload_n 0, 1), (151, .getfield 277, 3), (154, .iconst 0, 1), (155, .iastore, 1), (156, .aload_n 0, 1), (157, .dup, 1), (158, .getfield 277, 3), (161, .iconst 1, 1), (162, .iadd, 1), (163, .putfield 277, 3), (166, .aload_n 0, 1), (167, .invokevirtual 313, 3), (170, .ifCond .ne 5, 3), (173, .iconst 0, 1), (174, .ireturn, 1), (175, .aload_n 0, 1), (176, .invokevirtual 232, 3), (179, .bipush 124, 2), (181, .if_icmp .ne 7, 3), (184, .iconst 1, 1), (185, .goto 4, 3), (188, .iconst 0, 1), (189, .istore 4, 2), (191, .aload_n 0, 1), (192, .dup, 1), (193, .getfield 229, 3), (196, .iconst 1, 1), (197, .iadd, 1), (198, .putfield 229, 3), (201, .goto (-106), 3), (204, .iconst 1, 1), (205, .ireturn, 1)]
def gx_m145 : am_M := (⟨"GrammarStreamModel", "readRules", "()Z"⟩, prog_14_method_18_code, 5, (Option.some FieldType.boolean), 0, gx_r145)
theorem gx_d145 : gx_r145.all (fun q => decide (decode prog_14_method_18_code q.1 = .ok q.2)) = true := by decide +kernel
def gx_r146 : List (Nat × Instr × Nat) := [(0, .aload_n 0, 1), (1, .aload_n 0, 1), (2, .getfield 229, 3), (5, .putfield 246, 3), (8, .aload_n 0, 1), (9, .aload_n 0, 1), (10, .invokevirtual 232, 3), (13, .invokevirtual 249, 3), (16, .istore_n 1, 1), (17, .iload_n 1, 1), (18, .ifCond .ne 23, 3), (21, .aload_n 0, 1), (22, .aload_n 0, 1), (23, .invokevirtual 232, 3), (26, .invokevirtual 252, 3), (29, .ifCond .ne 12, 3), (32, .aload_n 0, 1), (33, .aload_n 0, 1), (34, .getfield 229, 3), (37, .invokevirtual 255, 3), (40, .ireturn, 1), (41, .aload_n 0, 1), (42, .aload_n 0, 1), (43, .invokevirtual 232, 3), (46, .invokevirtual 252, 3), (49, .ifCond .ne 29, 3), (52, .aload_n 0, 1), (53, .aload_n 0, 1), (54, .invokevirtual 232, 3), (57, .invokevirtual 258, 3), (60, .ifCond .ne 18, 3), (63, .iload_n 1, 1), (64, .ifCond .eq 50, 3), (67, .aload_n 0, 1), (68, .aload_n 0, 1), (69, .invokevirtual 232, 3), (72, .invokevirtual 249, 3), (75, .ifCond .eq 39, 3), (78, .aload_n 0, 1), (79, .getfield 229, 3), (82, .aload_n 0, 1), (83, .getfield 246, 3), (86, .isub, 1), (87, .bipush 12, 2), (89, .if_icmp .ne 12, 3), (92, .aload_n 0, 1), (93, .aload_n 0, 1), (94, .getfield 229, 3), (97, .invokevirtual 255, 3), (100, .ireturn, 1), (101, .aload_n 0, 1), (102, .dup, 1), (103, .getfield 229, 3), (106, .iconst 1, 1), (107, .iadd, 1), (108, .putfield 229, 3), (111, .goto (-70), 3), (114, .aload_n 0, 1), (115, .aload_n 0, 1), (116, .getfield 229, 3), (119, .putfield 261, 3), (122, .iconst 1, 1), (123, .ireturn, 1)]
def gx_m146 : am_M := (⟨"GrammarStreamModel", "name", "()Z"⟩, prog_14_method_11_code, 2, (Option.some FieldType.boolean), 0, gx_r146)
theorem gx_d146 : gx_r146.all (fun q => decide (decode prog_14_method_11_code q.1 = .ok q.2)) = true := by decide +kernel
end
section
def gx_r147 : List (Nat × Instr × Nat) := [(0, .iload_n 1, 1), (1, .bipush 97, 2), (3, .if_icmp .lt 13, 3), (6, .iload_n 1, 1), (7, .bipush 122, 2), (9, .if_icmp .gt 7, 3), (12, .iconst 1, 1), (13, .goto 4, 3), (16, .iconst 0, 1), (17, .ireturn, 1)]
def gx_m147 : am_M := (⟨"GrammarStreamModel", "isSmall", "(I)Z"⟩, prog_14_method_5_code, 2, (Option.some FieldType.boolean), 1, gx_r147)
theorem gx_d147 : gx_r147.all (fun q => decide (decode prog_14_method_5_code q.1 = .ok q.2)) = true := by decide +kernel
def gx_r148 : List (Nat × Instr × Nat) := [(0, .aload_n 0, 1), (1, .iconst 1, 1), (2, .putfield 240, 3), (5, .aload_n 0, 1), (6, .iload_n 1, 1), (7, .putfield 243, 3), (10, .iconst 0, 1), (11, .ireturn, 1)]
def gx_m148 : am_M := (⟨"GrammarStreamModel", "stop", "(I)Z"⟩, prog_14_method_9_code, 2, (Option.some FieldType.boolean), 1, gx_r148)
theorem gx_d148 : gx_r148.all (fun q => decide (decode prog_14_method_9_code q.1 = .ok q.2)) = true := by decide +kernel
def gx_r149 : List (Nat × Instr × Nat) := [(0, .iload_n 1, 1), (1, .bipush 48, 2), (3, .if_icmp .lt 13, 3), (6, .iload_n 1, 1), (7, .bipush 57, 2), (9, .if_icmp .gt 7, 3), (12, .iconst 1, 1), (13, .goto 4, 3), (16, .iconst 0, 1), (17, .ireturn, 1)]
def gx_m149 : am_M := (⟨"GrammarStreamModel", "isDigit", "(I)Z"⟩, prog_14_method_7_code, 2, (Option.some FieldType.boolean), 1, gx_r149)
theorem gx_d149 : gx_r149.all (fun q => decide (decode prog_14_method_7_code q.1 = .ok q.2)) = true := by decide +kernel
def gx_r150 : List (Nat × Instr × Nat) := [(0, .iconst 0, 1), (1, .istore_n 3, 1), (2, .iload_n 3, 1), (3, .aload_n 0, 1), (4, .getfield 271, 3), (7, .if_icmp .ge 32, 3), (10, .aload_n 0, 1), (11, .aload_n 0, 1), (12, .getfield 23, 3), (15, .iload_n 3, 1), (16, .iaload, 1), (17, .aload_n 0, 1), (18, .getfield 26, 3), (21, .iload_n 3, 1), (22, .iaload, 1), (23, .iload_n 1, 1), (24, .iload_n 2, 1), (25, .invokevirtual 267, 3), (28, .ifCond .eq 5, 3), (31, .iload_n 3, 1), (32, .ireturn, 1), (33, .iinc 3 1, 3), (36, .goto (-34), 3), (39, .iconst (-1), 1), (40, .ireturn, 1)]
def gx_m150 : am_M := (⟨"GrammarStreamModel", "symbolNamed", "(II)I"⟩, prog_14_method_14_code, 4, (Option.some FieldType.int), 2, gx_r150)
theorem gx_d150 : gx_r150.all (fun q => decide (decode prog_14_method_14_code q.1 = .ok q.2)) = true := by decide +kernel
def gx_r151 : List (Nat × Instr × Nat) := [(0, .iload_n 2, 1), (1, .iload_n 1, 1), (2, .isub, 1), (3, .iload 4, 2), (5, .iload_n 3, 1), (6, .isub, 1), (7, .if_icmp .ne 7, 3), (10, .iconst 1, 1), (11, .goto 4, 3), (14, .iconst 0, 1), (15, .istore 5, 2), (17, .iconst 0, 1), (18, .istore 6, 2), (20, .iload 6, 2), (22, .iload_n 2, 1), (23, .iload_n 1, 1), (24, .isub, 1), (25, .if_icmp .ge 42, 3), (28, .iload 5, 2), (30, .ifCond .eq 37, 3), (33, .aload_n 0, 1), (34, .getfield 7, 3), (37, .iload_n 1, 1), (38, .iload 6, 2), (40, .iadd, 1), (41, .iaload, 1), (42, .aload_n 0, 1), (43, .getfield 7, 3), (46, .iload_n 3, 1), (47, .iload 6, 2), (49, .iadd, 1), (50, .iaload, 1), (51, .if_icmp .ne 7, 3), (54, .iconst 1, 1), (55, .goto 4, 3), (58, .iconst 0, 1), (59, .istore 5, 2), (61, .iinc 6 1, 3), (64, .goto (-44), 3), (67, .iload 5, 2), (69, .ireturn, 1)]
def gx_m151 : am_M := (⟨"GrammarStreamModel", "sameName", "(IIII)Z"⟩, prog_14_method_12_code, 7, (Option.some FieldType.boolean), 4, gx_r151)
theorem gx_d151 : gx_r151.all (fun q => decide (decode prog_14_method_12_code q.1 = .ok q.2)) = true := by decide +kernel
def gx_r152 : List (Nat × Instr × Nat) := [(0, .aload_n 0, 1), (1, .invokevirtual 274, 3), (4, .aload_n 0, 1), (5, .invokevirtual 232, 3), (8, .iload_n 1, 1), (9, .if_icmp .eq 12, 3), (12, .aload_n 0, 1), (13, .aload_n 0, 1), (14, .getfield 229, 3), (17, .invokevirtual 255, 3), (20, .ireturn, 1), (21, .aload_n 0, 1), (22, .dup, 1), (23, .getfield 229, 3), (26, .iconst 1, 1), (27, .iadd, 1), (28, .putfield 229, 3), (31, .iconst 1, 1), (32, .ireturn, 1)]
def gx_m152 : am_M := (⟨"GrammarStreamModel", "must", "(I)Z"⟩, prog_14_method_15_code, 2, (Option.some FieldType.boolean), 1, gx_r152)
theorem gx_d152 : gx_r152.all (fun q => decide (decode prog_14_method_15_code q.1 = .ok q.2)) = true := by decide +kernel
def gx_r153 : List (Nat × Instr × Nat) := [(0, .aload_n 0, 1), (1, .getfield 240, 3), (4, .ifCond .eq 27, 3), (7, .iload_n 2, 1), (8, .aload_n 0, 1), (9, .getfield 243, 3), (12, .if_icmp .lt 19, 3), (15, .iload_n 2, 1), (16, .aload_n 0, 1), (17, .getfield 243, 3), (20, .if_icmp .ne 21, 3), (23, .iload_n 1, 1), (24, .aload_n 0, 1), (25, .getfield 240, 3), (28, .if_icmp .ge 13, 3), (31, .aload_n 0, 1), (32, .iload_n 1, 1), (33, .putfield 240, 3), (36, .aload_n 0, 1), (37, .iload_n 2, 1), (38, .putfield 243, 3), (41, .return_, 1)]
def gx_m153 : am_M := (⟨"GrammarStreamModel", "note", "(II)V"⟩, prog_14_method_10_code, 3, (Option.none : Option FieldType), 2, gx_r153)
theorem gx_d153 : gx_r153.all (fun q => decide (decode prog_14_method_10_code q.1 = .ok q.2)) = true := by decide +kernel
def gx_r154 : List (Nat × Instr × Nat) := [(0, .aload_n 0, 1), (1, .aload_n 0, 1), (2, .invokevirtual 232, 3), (5, .invokevirtual 252, 3), (8, .ifCond .ne 14, 3), (11, .aload_n 0, 1), (12, .aload_n 0, 1), (13, .invokevirtual 232, 3), (16, .invokevirtual 249, 3), (19, .ifCond .eq 95, 3), (22, .aload_n 0, 1), (23, .getfield 35, 3), (26, .aload_n 0, 1), (27, .getfield 277, 3), (30, .iconst 1, 1), (31, .isub, 1), (32, .iaload, 1), (33, .bipush 8, 2), (35, .if_icmp .ne 12, 3), (38, .aload_n 0, 1), (39, .aload_n 0, 1), (40, .getfield 229, 3), (43, .invokevirtual 255, 3), (46, .ireturn, 1), (47, .aload_n 0, 1), (48, .invokevirtual 293, 3), (51, .ifCond .ne 5, 3), (54, .iconst 0, 1), (55, .ireturn, 1), (56, .aload_n 0, 1), (57, .getfield 38, 3), (60, .aload_n 0, 1), (61, .getfield 280, 3), (64, .aload_n 0, 1), (65, .getfield 246, 3), (68, .iastore, 1), (69, .aload_n 0, 1), (70, .getfield 41, 3), (73, .aload_n 0, 1), (74, .getfield 280, 3), (77, .aload_n 0, 1), (78, .getfield 261, 3), (81, .iastore, 1), (82, .aload_n 0, 1), (83, .dup, 1), (84, .getfield 280, 3), (87, .iconst 1, 1), (88, .iadd, 1), (89, .putfield 280, 3), (92, .aload_n 0, 1), (93, .getfield 35, 3), (96, .aload_n 0, 1), (97, .getfield 277, 3), (100, .iconst 1, 1), (101, .isub, 1), (102, .dup2, 1), (103, .iaload, 1), (104, .iconst 1, 1), (105, .iadd, 1), (106, .iastore, 1), (107, .aload_n 0, 1), (108, .invokevirtual 274, 3), (111, .goto (-111), 3), (114, .aload_n 0, 1), (115, .invokevirtual 232, 3), (118, .bipush 124, 2), (120, .if_icmp .eq 23, 3), (123, .aload_n 0, 1), (124, .invokevirtual 232, 3), (127, .bipush 59, 2), (129, .if_icmp .eq 14, 3), (132, .aload_n 0, 1), (133, .aload_n 0, 1), (134, .getfield 229, 3), (137, .invokevirtual 255, 3), (140, .ifCond .eq 7, 3), (143, .iconst 1, 1), (144, .goto 4, 3), (147, .iconst 0, 1), (148, .ireturn, 1)]
def gx_m154 : am_M := (⟨"GrammarStreamModel", "readRow", "()Z"⟩, prog_14_method_19_code, 1, (Option.some FieldType.boolean), 0, gx_r154)
theorem gx_d154 : gx_r154.all (fun q => decide (decode prog_14_method_19_code q.1 = .ok q.2)) = true := by decide +kernel
def gx_r155 : List (Nat × Instr × Nat) := [(0, .aload_n 0, 1), (1, .invokevirtual 232, 3), (4, .bipush 45, 2), (6, .if_icmp .ne 7, 3), (9, .iconst 1, 1), (10, .goto 4, 3), (13, .iconst 0, 1), (14, .istore_n 1, 1), (15, .iload_n 1, 1), (16, .ifCond .eq 17, 3), (19, .aload_n 0, 1), (20, .dup, 1), (21, .getfield 229, 3), (24, .iconst 1, 1), (25, .iadd, 1), (26, .putfield 229, 3), (29, .aload_n 0, 1), (30, .invokevirtual 274, 3), (33, .aload_n 0, 1), (34, .aload_n 0, 1), (35, .invokevirtual 232, 3), (38, .invokevirtual 252, 3), (41, .ifCond .ne 12, 3), (44, .aload_n 0, 1), (45, .aload_n 0, 1), (46, .getfield 229, 3), (49, .invokevirtual 255, 3), (52, .ireturn, 1), (53, .aload_n 0, 1), (54, .invokevirtual 293, 3), (57, .ifCond .ne 5, 3), (60, .iconst 0, 1), (61, .ireturn, 1), (62, .aload_n 0, 1), (63, .aload_n 0, 1), (64, .getfield 246, 3), (67, .aload_n 0, 1), (68, .getfield 261, 3), (71, .invokevirtual 296, 3), (74, .istore_n 2, 1), (75, .iload_n 2, 1), (76, .ifCond .lt 15, 3), (79, .aload_n 0, 1), (80, .iconst 2, 1), (81, .aload_n 0, 1), (82, .getfield 246, 3), (85, .invokevirtual 300, 3), (88, .goto 68, 3), (91, .aload_n 0, 1), (92, .getfield 264, 3), (95, .bipush 24, 2), (97, .if_icmp .lt 13, 3), (100, .aload_n 0, 1), (101, .bipush 7, 2), (103, .aload_n 0, 1), (104, .getfield 246, 3), (107, .invokevirtual 300, 3), (110, .aload_n 0, 1), (111, .getfield 13, 3), (114, .aload_n 0, 1), (115, .getfield 264, 3), (118, .aload_n 0, 1), (119, .getfield 246, 3), (122, .iastore, 1), (123, .aload_n 0, 1), (124, .getfield 16, 3), (127, .aload_n 0, 1), (128, .getfield 264, 3), (131, .aload_n 0, 1), (132, .getfield 261, 3), (135, .iastore, 1), (136, .aload_n 0, 1), (137, .getfield 19, 3), (140, .aload_n 0, 1), (141, .getfield 264, 3), (144, .iload_n 1, 1), (145, .bastore, 1), (146, .aload_n 0, 1), (147, .dup, 1), (148, .getfield 264, 3), (151, .iconst 1, 1), (152, .iadd, 1), (153, .putfield 264, 3), (156, .aload_n 0, 1), (157, .bipush 61, 2), (159, .invokevirtual 304, 3), (162, .ifCond .ne 5, 3), (165, .iconst 0, 1), (166, .ireturn, 1), (167, .aload_n 0, 1), (168, .invokevirtual 274, 3), (171, .aload_n 0, 1), (172, .getfield 229, 3), (175, .istore_n 3, 1), (176, .aload_n 0, 1), (177, .iload_n 2, 1), (178, .ifCond .lt 7, 3), (181, .iload_n 2, 1), (182, .goto 9, 3), (185, .aload_n 0, 1), (186, .getfield 264, 3), (189, .iconst 1, 1), (190, .isub, 1), (191, .invokevirtual 307, 3), (194, .ifCond .ne 5, 3), (197, .iconst 0, 1), (198, .ireturn, 1), (199, .aload_n 0, 1), (200, .getfield 50, 3), (203, .iconst 0, 1), (204, .baload, 1), (205, .ifCond .eq 10, 3), (208, .aload_n 0, 1), (209, .bipush 6, 2), (211, .iload_n 3, 1), (212, .invokevirtual 300, 3), (215, .iconst 1, 1), (216, .ireturn, 1)]
def gx_m155 : am_M := (⟨"GrammarStreamModel", "readToken", "()Z"⟩, prog_14_method_17_code, 4, (Option.some FieldType.boolean), 0, gx_r155)
theorem gx_d155 : gx_r155.all (fun q => decide (decode prog_14_method_17_code q.1 = .ok q.2)) = true := by decide +kernel
def gx_r156 : List (Nat × Instr × Nat) := [(0, .iconst 0, 1), (1, .istore_n 3, 1), (2, .iload_n 3, 1), (3, .aload_n 0, 1), (4, .getfield 264, 3), (7, .if_icmp .ge 32, 3), (10, .aload_n 0, 1), (11, .aload_n 0, 1), (12, .getfield 13, 3), (15, .iload_n 3, 1), (16, .iaload, 1), (17, .aload_n 0, 1), (18, .getfield 16, 3), (21, .iload_n 3, 1), (22, .iaload, 1), (23, .iload_n 1, 1), (24, .iload_n 2, 1), (25, .invokevirtual 267, 3), (28, .ifCond .eq 5, 3), (31, .iload_n 3, 1), (32, .ireturn, 1), (33, .iinc 3 1, 3), (36, .goto (-34), 3), (39, .iconst (-1), 1), (40, .ireturn, 1)]
def gx_m156 : am_M := (⟨"GrammarStreamModel", "tokenNamed", "(II)I"⟩, prog_14_method_13_code, 4, (Option.some FieldType.int), 2, gx_r156)
theorem gx_d156 : gx_r156.all (fun q => decide (decode prog_14_method_13_code q.1 = .ok q.2)) = true := by decide +kernel
def gx_r157 : List (Nat × Instr × Nat) := [(0, .aload_n 0, 1), (1, .iconst 0, 1), (2, .putfield 316, 3), (5, .aload_n 0, 1), (6, .invokevirtual 319, 3), (9, .aload_n 0, 1), (10, .invokevirtual 274, 3), (13, .aload_n 0, 1), (14, .invokevirtual 232, 3), (17, .istore_n 2, 1), (18, .iload_n 2, 1), (19, .bipush 40, 2), (21, .if_icmp .ne 48, 3), (24, .aload_n 0, 1), (25, .getfield 316, 3), (28, .bipush 20, 2), (30, .if_icmp .ne 12, 3), (33, .aload_n 0, 1), (34, .aload_n 0, 1), (35, .getfield 229, 3), (38, .invokevirtual 255, 3), (41, .ireturn, 1), (42, .aload_n 0, 1), (43, .dup, 1), (44, .getfield 229, 3), (47, .iconst 1, 1), (48, .iadd, 1), (49, .putfield 229, 3), (52, .aload_n 0, 1), (53, .dup, 1), (54, .getfield 316, 3), (57, .iconst 1, 1), (58, .iadd, 1), (59, .putfield 316, 3), (62, .aload_n 0, 1), (63, .invokevirtual 319, 3), (66, .goto (-57), 3), (69, .iload_n 2, 1), (70, .bipush 124, 2), (72, .if_icmp .ne 41, 3), (75, .aload_n 0, 1), (76, .getfield 60, 3), (79, .aload_n 0, 1), (80, .getfield 316, 3), (83, .baload, 1), (84, .ifCond .ne 12, 3), (87, .aload_n 0, 1), (88, .aload_n 0, 1), (89, .getfield 229, 3), (92, .invokevirtual 255, 3), (95, .ireturn, 1), (96, .aload_n 0, 1), (97, .invokevirtual 322, 3), (100, .aload_n 0, 1), (101, .dup, 1), (102, .getfield 229, 3), (105, .iconst 1, 1), (106, .iadd, 1), (107, .putfield 229, 3), (110, .goto (-101), 3), (113, .iload_n 2, 1), (114, .bipush 59, 2), (116, .if_icmp .ne 48, 3), (119, .aload_n 0, 1), (120, .getfield 316, 3), (123, .ifCond .gt 12, 3), (126, .aload_n 0, 1), (127, .getfield 60, 3), (130, .iconst 0, 1), (131, .baload, 1), (132, .ifCond .ne 12, 3), (135, .aload_n 0, 1), (136, .aload_n 0, 1), (137, .getfield 229, 3), (140, .invokevirtual 255, 3), (143, .ireturn, 1), (144, .aload_n 0, 1), (145, .invokevirtual 322, 3), (148, .aload_n 0, 1), (149, .dup, 1), (150, .getfield 229, 3), (153, .iconst 1, 1), (154, .iadd, 1), (155, .putfield 229, 3), (158, .aload_n 0, 1), (159, .invokevirtual 325, 3), (162, .iconst 1, 1), (163, .ireturn, 1), (164, .iload_n 2, 1), (165, .bipush 41, 2), (167, .if_icmp .ne 125, 3), (170, .aload_n 0, 1), (171, .getfield 316, 3), (174, .ifCond .eq 15, 3), (177, .aload_n 0, 1), (178, .getfield 60, 3), (181, .aload_n 0, 1), (182, .getfield 316, 3), (185, .baload, 1), (186, .ifCond .ne 12, 3), (189, .aload_n 0, 1), (190, .aload_n 0, 1), (191, .getfield 229, 3), (194, .invokevirtual 255, 3), (197, .ireturn, 1), (198, .aload_n 0, 1), (199, .invokevirtual 322, 3), (202, .aload_n 0, 1), (203, .dup, 1), (204, .getfield 229, 3), (207, .iconst 1, 1), (208, .iadd, 1), (209, .putfield 229, 3), (212, .aload_n 0, 1), (213, .aload_n 0, 1), (214, .getfield 50, 3), (217, .aload_n 0, 1), (218, .getfield 316, 3), (221, .baload, 1), (222, .putfield 328, 3), (225, .iconst 0, 1), (226, .istore_n 3, 1), (227, .iload_n 3, 1), (228, .bipush 10, 2), (230, .if_icmp .ge 49, 3), (233, .aload_n 0, 1), (234, .getfield 72, 3), (237, .iload_n 3, 1), (238, .aload_n 0, 1), (239, .getfield 53, 3), (242, .bipush 10, 2), (244, .aload_n 0, 1), (245, .getfield 316, 3), (248, .imul, 1), (249, .iload_n 3, 1), (250, .iadd, 1), (251, .laload, 1), (252, .lastore, 1), (253, .aload_n 0, 1), (254, .getfield 75, 3), (257, .iload_n 3, 1), (258, .aload_n 0, 1), (259, .getfield 57, 3), (262, .bipush 10, 2), (264, .aload_n 0, 1), (265, .getfield 316, 3), (268, .imul, 1), (269, .iload_n 3, 1), (270, .iadd, 1), (271, .laload, 1), (272, .lastore, 1), (273, .iinc 3 1, 3), (276, .goto (-49), 3), (279, .aload_n 0, 1), (280, .dup, 1), (281, .getfield 316, 3), (284, .iconst 1, 1), (285, .isub, 1), (286, .putfield 316, 3), (289, .goto 17, 3), (292, .aload_n 0, 1), (293, .invokevirtual 332, 3), (296, .ifCond .ne 5, 3), (299, .iconst 0, 1), (300, .ireturn, 1), (301, .aload_n 0, 1), (302, .iload_n 1, 1), (303, .invokevirtual 335, 3), (306, .aload_n 0, 1), (307, .invokevirtual 339, 3), (310, .aload_n 0, 1), (311, .invokevirtual 342, 3), (314, .goto (-305), 3)]
def gx_m157 : am_M := (⟨"GrammarStreamModel", "expression", "(I)Z"⟩, prog_14_method_21_code, 4, (Option.some FieldType.boolean), 1, gx_r157)
theorem gx_d157 : gx_r157.all (fun q => decide (decode prog_14_method_21_code q.1 = .ok q.2)) = true := by decide +kernel
def gx_r158 : List (Nat × Instr × Nat) := [(0, .aload_n 0, 1), (1, .getfield 47, 3), (4, .aload_n 0, 1), (5, .getfield 316, 3), (8, .iconst 0, 1), (9, .bastore, 1), (10, .aload_n 0, 1), (11, .getfield 50, 3), (14, .aload_n 0, 1), (15, .getfield 316, 3), (18, .iconst 0, 1), (19, .bastore, 1), (20, .aload_n 0, 1), (21, .getfield 60, 3), (24, .aload_n 0, 1), (25, .getfield 316, 3), (28, .iconst 0, 1), (29, .bastore, 1), (30, .aload_n 0, 1), (31, .getfield 63, 3), (34, .aload_n 0, 1), (35, .getfield 316, 3), (38, .iconst 0, 1), (39, .bastore, 1), (40, .return_, 1)]
def gx_m158 : am_M := (⟨"GrammarStreamModel", "openLevel", "()V"⟩, prog_14_method_20_code, 1, (Option.none : Option FieldType), 0, gx_r158)
theorem gx_d158 : gx_r158.all (fun q => decide (decode prog_14_method_20_code q.1 = .ok q.2)) = true := by decide +kernel
def gx_r159 : List (Nat × Instr × Nat) := [(0, .bipush 10, 2), (2, .aload_n 0, 1), (3, .getfield 316, 3), (6, .imul, 1), (7, .istore_n 1, 1), (8, .iconst 0, 1), (9, .istore_n 2, 1), (10, .iload_n 2, 1), (11, .bipush 10, 2), (13, .if_icmp .ge 105, 3), (16, .aload_n 0, 1), (17, .getfield 53, 3), (20, .iload_n 1, 1), (21, .iload_n 2, 1), (22, .iadd, 1), (23, .aload_n 0, 1), (24, .getfield 47, 3), (27, .aload_n 0, 1), (28, .getfield 316, 3), (31, .baload, 1), (32, .ifCond .eq 23, 3), (35, .aload_n 0, 1), (36, .getfield 53, 3), (39, .iload_n 1, 1), (40, .iload_n 2, 1), (41, .iadd, 1), (42, .laload, 1), (43, .aload_n 0, 1), (44, .getfield 66, 3), (47, .iload_n 1, 1), (48, .iload_n 2, 1), (49, .iadd, 1), (50, .laload, 1), (51, .lor, 1), (52, .goto 11, 3), (55, .aload_n 0, 1), (56, .getfield 66, 3), (59, .iload_n 1, 1), (60, .iload_n 2, 1), (61, .iadd, 1), (62, .laload, 1), (63, .lastore, 1), (64, .aload_n 0, 1), (65, .getfield 57, 3), (68, .iload_n 1, 1), (69, .iload_n 2, 1), (70, .iadd, 1), (71, .aload_n 0, 1), (72, .getfield 47, 3), (75, .aload_n 0, 1), (76, .getfield 316, 3), (79, .baload, 1), (80, .ifCond .eq 23, 3), (83, .aload_n 0, 1), (84, .getfield 57, 3), (87, .iload_n 1, 1), (88, .iload_n 2, 1), (89, .iadd, 1), (90, .laload, 1), (91, .aload_n 0, 1), (92, .getfield 69, 3), (95, .iload_n 1, 1), (96, .iload_n 2, 1), (97, .iadd, 1), (98, .laload, 1), (99, .lor, 1), (100, .goto 11, 3), (103, .aload_n 0, 1), (104, .getfield 69, 3), (107, .iload_n 1, 1), (108, .iload_n 2, 1), (109, .iadd, 1), (110, .laload, 1), (111, .lastore, 1), (112, .iinc 2 1, 3), (115, .goto (-105), 3), (118, .aload_n 0, 1), (119, .getfield 50, 3), (122, .aload_n 0, 1), (123, .getfield 316, 3), (126, .dup2, 1), (127, .baload, 1), (128, .aload_n 0, 1), (129, .getfield 63, 3), (132, .aload_n 0, 1), (133, .getfield 316, 3), (136, .baload, 1), (137, .ior, 1), (138, .bastore, 1), (139, .aload_n 0, 1), (140, .getfield 47, 3), (143, .aload_n 0, 1), (144, .getfield 316, 3), (147, .iconst 1, 1), (148, .bastore, 1), (149, .aload_n 0, 1), (150, .getfield 60, 3), (153, .aload_n 0, 1), (154, .getfield 316, 3), (157, .iconst 0, 1), (158, .bastore, 1), (159, .aload_n 0, 1), (160, .getfield 63, 3), (163, .aload_n 0, 1), (164, .getfield 316, 3), (167, .iconst 0, 1), (168, .bastore, 1), (169, .return_, 1)]
def gx_m159 : am_M := (⟨"GrammarStreamModel", "endPart", "()V"⟩, prog_14_method_26_code, 3, (Option.none : Option FieldType), 0, gx_r159)
theorem gx_d159 : gx_r159.all (fun q => decide (decode prog_14_method_26_code q.1 = .ok q.2)) = true := by decide +kernel
def gx_r160 : List (Nat × Instr × Nat) := [(0, .iconst 0, 1), (1, .istore_n 1, 1), (2, .iload_n 1, 1), (3, .bipush 10, 2), (5, .if_icmp .ge 39, 3), (8, .aload_n 0, 1), (9, .getfield 90, 3), (12, .iload_n 1, 1), (13, .dup2, 1), (14, .laload, 1), (15, .aload_n 0, 1), (16, .getfield 53, 3), (19, .iload_n 1, 1), (20, .laload, 1), (21, .lor, 1), (22, .lastore, 1), (23, .aload_n 0, 1), (24, .getfield 93, 3), (27, .iload_n 1, 1), (28, .dup2, 1), (29, .laload, 1), (30, .aload_n 0, 1), (31, .getfield 57, 3), (34, .iload_n 1, 1), (35, .laload, 1), (36, .lor, 1), (37, .lastore, 1), (38, .iinc 1 1, 3), (41, .goto (-39), 3), (44, .return_, 1)]
def gx_m160 : am_M := (⟨"GrammarStreamModel", "endExpression", "()V"⟩, prog_14_method_27_code, 2, (Option.none : Option FieldType), 0, gx_r160)
theorem gx_d160 : gx_r160.all (fun q => decide (decode prog_14_method_27_code q.1 = .ok q.2)) = true := by decide +kernel
def gx_r161 : List (Nat × Instr × Nat) := [(0, .aload_n 0, 1), (1, .lconst 0, 1), (2, .putfield 348, 3), (5, .aload_n 0, 1), (6, .lconst 0, 1), (7, .putfield 352, 3), (10, .aload_n 0, 1), (11, .invokevirtual 232, 3), (14, .istore_n 1, 1), (15, .iload_n 1, 1), (16, .bipush 91, 2), (18, .if_icmp .ne 8, 3), (21, .aload_n 0, 1), (22, .invokevirtual 358, 3), (25, .ireturn, 1), (26, .iload_n 1, 1), (27, .bipush 46, 2), (29, .if_icmp .ne 35, 3), (32, .bipush 32, 2), (34, .istore_n 2, 1), (35, .iload_n 2, 1), (36, .bipush 127, 2), (38, .if_icmp .ge 14, 3), (41, .aload_n 0, 1), (42, .iload_n 2, 1), (43, .invokevirtual 360, 3), (46, .iinc 2 1, 3), (49, .goto (-14), 3), (52, .aload_n 0, 1), (53, .dup, 1), (54, .getfield 229, 3), (57, .iconst 1, 1), (58, .iadd, 1), (59, .putfield 229, 3), (62, .iconst 1, 1), (63, .ireturn, 1), (64, .iload_n 1, 1), (65, .bipush 92, 2), (67, .if_icmp .ne 22, 3), (70, .aload_n 0, 1), (71, .invokevirtual 363, 3), (74, .ifCond .ne 5, 3), (77, .iconst 0, 1), (78, .ireturn, 1), (79, .aload_n 0, 1), (80, .aload_n 0, 1), (81, .getfield 355, 3), (84, .invokevirtual 360, 3), (87, .iconst 1, 1), (88, .ireturn, 1), (89, .iload_n 1, 1), (90, .bipush 93, 2), (92, .if_icmp .eq 21, 3), (95, .iload_n 1, 1), (96, .bipush 42, 2), (98, .if_icmp .eq 15, 3), (101, .iload_n 1, 1), (102, .bipush 43, 2), (104, .if_icmp .eq 9, 3), (107, .iload_n 1, 1), (108, .bipush 63, 2), (110, .if_icmp .ne 7, 3), (113, .iconst 1, 1), (114, .goto 4, 3), (117, .iconst 0, 1), (118, .istore_n 2, 1), (119, .iload_n 1, 1), (120, .bipush 33, 2), (122, .if_icmp .lt 13, 3), (125, .iload_n 1, 1), (126, .bipush 126, 2), (128, .if_icmp .gt 7, 3), (131, .iload_n 2, 1), (132, .ifCond .eq 12, 3), (135, .aload_n 0, 1), (136, .aload_n 0, 1), (137, .getfield 229, 3), (140, .invokevirtual 255, 3), (143, .ireturn, 1), (144, .aload_n 0, 1), (145, .iload_n 1, 1), (146, .invokevirtual 360, 3), (149, .aload_n 0, 1), (150, .dup, 1), (151, .getfield 229, 3), (154, .iconst 1, 1), (155, .iadd, 1), (156, .putfield 229, 3), (159, .iconst 1, 1), (160, .ireturn, 1)]
def gx_m161 : am_M := (⟨"GrammarStreamModel", "atom", "()Z"⟩, prog_14_method_31_code, 3, (Option.some FieldType.boolean), 0, gx_r161)
theorem gx_d161 : gx_r161.all (fun q => decide (decode prog_14_method_31_code q.1 = .ok q.2)) = true := by decide +kernel
def gx_r162 : List (Nat × Instr × Nat) := [(0, .aload_n 0, 1), (1, .dup, 1), (2, .getfield 229, 3), (5, .iconst 1, 1), (6, .iadd, 1), (7, .putfield 229, 3), (10, .aload_n 0, 1), (11, .invokevirtual 274, 3), (14, .aload_n 0, 1), (15, .invokevirtual 232, 3), (18, .bipush 94, 2), (20, .if_icmp .ne 7, 3), (23, .iconst 1, 1), (24, .goto 4, 3), (27, .iconst 0, 1), (28, .istore_n 1, 1), (29, .iload_n 1, 1), (30, .ifCond .eq 13, 3), (33, .aload_n 0, 1), (34, .dup, 1), (35, .getfield 229, 3), (38, .iconst 1, 1), (39, .iadd, 1), (40, .putfield 229, 3), (43, .aload_n 0, 1), (44, .invokevirtual 274, 3), (47, .iconst 0, 1), (48, .istore_n 2, 1), (49, .iload_n 2, 1), (50, .ifCond .eq 12, 3), (53, .aload_n 0, 1), (54, .invokevirtual 232, 3), (57, .bipush 93, 2), (59, .if_icmp .eq 116, 3), (62, .aload_n 0, 1), (63, .getfield 229, 3), (66, .istore_n 3, 1), (67, .aload_n 0, 1), (68, .invokevirtual 366, 3), (71, .ifCond .ne 5, 3), (74, .iconst 0, 1), (75, .ireturn, 1), (76, .aload_n 0, 1), (77, .getfield 355, 3), (80, .istore 4, 2), (82, .aload_n 0, 1), (83, .getfield 355, 3), (86, .istore 5, 2), (88, .aload_n 0, 1), (89, .invokevirtual 274, 3), (92, .aload_n 0, 1), (93, .invokevirtual 232, 3), (96, .bipush 45, 2), (98, .if_icmp .ne 36, 3), (101, .aload_n 0, 1), (102, .dup, 1), (103, .getfield 229, 3), (106, .iconst 1, 1), (107, .iadd, 1), (108, .putfield 229, 3), (111, .aload_n 0, 1), (112, .invokevirtual 274, 3), (115, .aload_n 0, 1), (116, .invokevirtual 366, 3), (119, .ifCond .ne 5, 3), (122, .iconst 0, 1), (123, .ireturn, 1), (124, .aload_n 0, 1), (125, .getfield 355, 3), (128, .istore 5, 2), (130, .aload_n 0, 1), (131, .invokevirtual 274, 3), (134, .iload 4, 2), (136, .iload 5, 2), (138, .if_icmp .le 9, 3), (141, .aload_n 0, 1), (142, .iconst 5, 1), (143, .iload_n 3, 1), (144, .invokevirtual 300, 3), (147, .iload 4, 2), (149, .istore 6, 2), (151, .iload 6, 2), (153, .iload 5, 2), (155, .if_icmp .gt 15, 3), (158, .aload_n 0, 1), (159, .iload 6, 2), (161, .invokevirtual 360, 3), (164, .iinc 6 1, 3), (167, .goto (-16), 3), (170, .iconst 1, 1), (171, .istore_n 2, 1), (172, .goto (-123), 3), (175, .aload_n 0, 1), (176, .dup, 1), (177, .getfield 229, 3), (180, .iconst 1, 1), (181, .iadd, 1), (182, .putfield 229, 3), (185, .iload_n 1, 1), (186, .ifCond .ne 5, 3), (189, .iconst 1, 1), (190, .ireturn, 1), (191, .aload_n 0, 1), (192, .getfield 348, 3), (195, .lstore_n 3, 1), (196, .aload_n 0, 1), (197, .getfield 352, 3), (200, .lstore 5, 2), (202, .aload_n 0, 1), (203, .lconst 0, 1), (204, .putfield 348, 3), (207, .aload_n 0, 1), (208, .lconst 0, 1), (209, .putfield 352, 3), (212, .bipush 32, 2), (214, .istore 7, 2), (216, .iload 7, 2), (218, .bipush 127, 2), (220, .if_icmp .ge 44, 3), (223, .iload 7, 2), (225, .bipush 64, 2), (227, .if_icmp .ge 10, 3), (230, .lload_n 3, 1), (231, .iload 7, 2), (233, .lshr, 1), (234, .goto 11, 3), (237, .lload 5, 2), (239, .iload 7, 2), (241, .bipush 64, 2), (243, .isub, 1), (244, .lshr, 1), (245, .lconst 1, 1), (246, .land, 1), (247, .lconst 0, 1), (248, .lcmp, 1), (249, .ifCond .ne 9, 3), (252, .aload_n 0, 1), (253, .iload 7, 2), (255, .invokevirtual 360, 3), (258, .iinc 7 1, 3), (261, .goto (-45), 3), (264, .iconst 1, 1), (265, .ireturn, 1)]
def gx_m162 : am_M := (⟨"GrammarStreamModel", "items", "()Z"⟩, prog_14_method_32_code, 8, (Option.some FieldType.boolean), 0, gx_r162)
theorem gx_d162 : gx_r162.all (fun q => decide (decode prog_14_method_32_code q.1 = .ok q.2)) = true := by decide +kernel
end
section
def gx_r163 : List (Nat × Instr × Nat) := [(0, .aload_n 0, 1), (1, .invokevirtual 232, 3), (4, .istore_n 1, 1), (5, .iload_n 1, 1), (6, .bipush 92, 2), (8, .if_icmp .ne 8, 3), (11, .aload_n 0, 1), (12, .invokevirtual 363, 3), (15, .ireturn, 1), (16, .iload_n 1, 1), (17, .bipush 33, 2), (19, .if_icmp .lt 21, 3), (22, .iload_n 1, 1), (23, .bipush 126, 2), (25, .if_icmp .gt 15, 3), (28, .iload_n 1, 1), (29, .bipush 93, 2), (31, .if_icmp .eq 9, 3), (34, .iload_n 1, 1), (35, .bipush 45, 2), (37, .if_icmp .ne 12, 3), (40, .aload_n 0, 1), (41, .aload_n 0, 1), (42, .getfield 229, 3), (45, .invokevirtual 255, 3), (48, .ireturn, 1), (49, .aload_n 0, 1), (50, .iload_n 1, 1), (51, .putfield 355, 3), (54, .aload_n 0, 1), (55, .dup, 1), (56, .getfield 229, 3), (59, .iconst 1, 1), (60, .iadd, 1), (61, .putfield 229, 3), (64, .iconst 1, 1), (65, .ireturn, 1)]
def gx_m163 : am_M := (⟨"GrammarStreamModel", "ch", "()Z"⟩, prog_14_method_33_code, 2, (Option.some FieldType.boolean), 0, gx_r163)
theorem gx_d163 : gx_r163.all (fun q => decide (decode prog_14_method_33_code q.1 = .ok q.2)) = true := by decide +kernel
def gx_r164 : List (Nat × Instr × Nat) := [(0, .aload_n 0, 1), (1, .dup, 1), (2, .getfield 229, 3), (5, .iconst 1, 1), (6, .iadd, 1), (7, .putfield 229, 3), (10, .aload_n 0, 1), (11, .invokevirtual 232, 3), (14, .istore_n 1, 1), (15, .iload_n 1, 1), (16, .bipush 33, 2), (18, .if_icmp .lt 9, 3), (21, .iload_n 1, 1), (22, .bipush 126, 2), (24, .if_icmp .le 12, 3), (27, .aload_n 0, 1), (28, .aload_n 0, 1), (29, .getfield 229, 3), (32, .invokevirtual 255, 3), (35, .ireturn, 1), (36, .aload_n 0, 1), (37, .iload_n 1, 1), (38, .bipush 110, 2), (40, .if_icmp .ne 8, 3), (43, .bipush 10, 2), (45, .goto 26, 3), (48, .iload_n 1, 1), (49, .bipush 116, 2), (51, .if_icmp .ne 8, 3), (54, .bipush 9, 2), (56, .goto 15, 3), (59, .iload_n 1, 1), (60, .bipush 95, 2), (62, .if_icmp .ne 8, 3), (65, .bipush 32, 2), (67, .goto 4, 3), (70, .iload_n 1, 1), (71, .putfield 355, 3), (74, .aload_n 0, 1), (75, .dup, 1), (76, .getfield 229, 3), (79, .iconst 1, 1), (80, .iadd, 1), (81, .putfield 229, 3), (84, .iconst 1, 1), (85, .ireturn, 1)]
def gx_m164 : am_M := (⟨"GrammarStreamModel", "escaped", "()Z"⟩, prog_14_method_30_code, 2, (Option.some FieldType.boolean), 0, gx_r164)
theorem gx_d164 : gx_r164.all (fun q => decide (decode prog_14_method_30_code q.1 = .ok q.2)) = true := by decide +kernel
def gx_r165 : List (Nat × Instr × Nat) := [(0, .iload_n 1, 1), (1, .bipush 64, 2), (3, .if_icmp .ge 18, 3), (6, .aload_n 0, 1), (7, .dup, 1), (8, .getfield 348, 3), (11, .lconst 1, 1), (12, .iload_n 1, 1), (13, .lshl, 1), (14, .lor, 1), (15, .putfield 348, 3), (18, .goto 18, 3), (21, .aload_n 0, 1), (22, .dup, 1), (23, .getfield 352, 3), (26, .lconst 1, 1), (27, .iload_n 1, 1), (28, .bipush 64, 2), (30, .isub, 1), (31, .lshl, 1), (32, .lor, 1), (33, .putfield 352, 3), (36, .return_, 1)]
def gx_m165 : am_M := (⟨"GrammarStreamModel", "take", "(I)V"⟩, prog_14_method_28_code, 2, (Option.none : Option FieldType), 1, gx_r165)
theorem gx_d165 : gx_r165.all (fun q => decide (decode prog_14_method_28_code q.1 = .ok q.2)) = true := by decide +kernel
def gx_r166 : List (Nat × Instr × Nat) := [(0, .aload_n 0, 1), (1, .iconst 0, 1), (2, .putfield 328, 3), (5, .iconst 0, 1), (6, .istore_n 2, 1), (7, .iload_n 2, 1), (8, .bipush 10, 2), (10, .if_icmp .ge 23, 3), (13, .aload_n 0, 1), (14, .getfield 72, 3), (17, .iload_n 2, 1), (18, .lconst 0, 1), (19, .lastore, 1), (20, .aload_n 0, 1), (21, .getfield 75, 3), (24, .iload_n 2, 1), (25, .lconst 0, 1), (26, .lastore, 1), (27, .iinc 2 1, 3), (30, .goto (-23), 3), (33, .aload_n 0, 1), (34, .getfield 283, 3), (37, .sipush 600, 3), (40, .if_icmp .ge 85, 3), (43, .aload_n 0, 1), (44, .getfield 283, 3), (47, .istore_n 2, 1), (48, .aload_n 0, 1), (49, .getfield 72, 3), (52, .iload_n 2, 1), (53, .bipush 6, 2), (55, .ishr, 1), (56, .lconst 1, 1), (57, .iload_n 2, 1), (58, .lshl, 1), (59, .lastore, 1), (60, .aload_n 0, 1), (61, .getfield 75, 3), (64, .iload_n 2, 1), (65, .bipush 6, 2), (67, .ishr, 1), (68, .lconst 1, 1), (69, .iload_n 2, 1), (70, .lshl, 1), (71, .lastore, 1), (72, .aload_n 0, 1), (73, .getfield 78, 3), (76, .iload_n 2, 1), (77, .aload_n 0, 1), (78, .getfield 348, 3), (81, .lastore, 1), (82, .aload_n 0, 1), (83, .getfield 81, 3), (86, .iload_n 2, 1), (87, .aload_n 0, 1), (88, .getfield 352, 3), (91, .lastore, 1), (92, .aload_n 0, 1), (93, .getfield 84, 3), (96, .iload_n 2, 1), (97, .iload_n 1, 1), (98, .iastore, 1), (99, .iconst 0, 1), (100, .istore_n 3, 1), (101, .iload_n 3, 1), (102, .bipush 10, 2), (104, .if_icmp .ge 21, 3), (107, .aload_n 0, 1), (108, .getfield 87, 3), (111, .bipush 10, 2), (113, .iload_n 2, 1), (114, .imul, 1), (115, .iload_n 3, 1), (116, .iadd, 1), (117, .lconst 0, 1), (118, .lastore, 1), (119, .iinc 3 1, 3), (122, .goto (-21), 3), (125, .aload_n 0, 1), (126, .dup, 1), (127, .getfield 283, 3), (130, .iconst 1, 1), (131, .iadd, 1), (132, .putfield 283, 3), (135, .return_, 1)]
def gx_m166 : am_M := (⟨"GrammarStreamModel", "newPlace", "(I)V"⟩, prog_14_method_24_code, 4, (Option.none : Option FieldType), 1, gx_r166)
theorem gx_d166 : gx_r166.all (fun q => decide (decode prog_14_method_24_code q.1 = .ok q.2)) = true := by decide +kernel
def gx_r167 : List (Nat × Instr × Nat) := [(0, .aload_n 0, 1), (1, .getfield 229, 3), (4, .istore_n 1, 1), (5, .aload_n 0, 1), (6, .invokevirtual 274, 3), (9, .aload_n 0, 1), (10, .invokevirtual 232, 3), (13, .istore_n 2, 1), (14, .iload_n 2, 1), (15, .bipush 42, 2), (17, .if_icmp .eq 21, 3), (20, .iload_n 2, 1), (21, .bipush 43, 2), (23, .if_icmp .eq 15, 3), (26, .iload_n 2, 1), (27, .bipush 63, 2), (29, .if_icmp .eq 9, 3), (32, .aload_n 0, 1), (33, .iload_n 1, 1), (34, .putfield 229, 3), (37, .return_, 1), (38, .aload_n 0, 1), (39, .dup, 1), (40, .getfield 229, 3), (43, .iconst 1, 1), (44, .iadd, 1), (45, .putfield 229, 3), (48, .iload_n 2, 1), (49, .bipush 63, 2), (51, .if_icmp .eq 7, 3), (54, .aload_n 0, 1), (55, .invokevirtual 345, 3), (58, .aload_n 0, 1), (59, .dup, 1), (60, .getfield 328, 3), (63, .iload_n 2, 1), (64, .bipush 43, 2), (66, .if_icmp .eq 7, 3), (69, .iconst 1, 1), (70, .goto 4, 3), (73, .iconst 0, 1), (74, .ior, 1), (75, .putfield 328, 3), (78, .return_, 1)]
def gx_m167 : am_M := (⟨"GrammarStreamModel", "postfix", "()V"⟩, prog_14_method_22_code, 3, (Option.none : Option FieldType), 0, gx_r167)
theorem gx_d167 : gx_r167.all (fun q => decide (decode prog_14_method_22_code q.1 = .ok q.2)) = true := by decide +kernel
def gx_r168 : List (Nat × Instr × Nat) := [(0, .iconst 0, 1), (1, .istore_n 1, 1), (2, .iload_n 1, 1), (3, .sipush 600, 3), (6, .if_icmp .ge 64, 3), (9, .aload_n 0, 1), (10, .getfield 75, 3), (13, .iload_n 1, 1), (14, .bipush 6, 2), (16, .ishr, 1), (17, .laload, 1), (18, .iload_n 1, 1), (19, .lshr, 1), (20, .lconst 1, 1), (21, .land, 1), (22, .lconst 0, 1), (23, .lcmp, 1), (24, .ifCond .ne 6, 3), (27, .goto 37, 3), (30, .iconst 0, 1), (31, .istore_n 2, 1), (32, .iload_n 2, 1), (33, .bipush 10, 2), (35, .if_icmp .ge 29, 3), (38, .aload_n 0, 1), (39, .getfield 87, 3), (42, .bipush 10, 2), (44, .iload_n 1, 1), (45, .imul, 1), (46, .iload_n 2, 1), (47, .iadd, 1), (48, .dup2, 1), (49, .laload, 1), (50, .aload_n 0, 1), (51, .getfield 72, 3), (54, .iload_n 2, 1), (55, .laload, 1), (56, .lor, 1), (57, .lastore, 1), (58, .iinc 2 1, 3), (61, .goto (-29), 3), (64, .iinc 1 1, 3), (67, .goto (-65), 3), (70, .return_, 1)]
def gx_m168 : am_M := (⟨"GrammarStreamModel", "goesOn", "()V"⟩, prog_14_method_23_code, 3, (Option.none : Option FieldType), 0, gx_r168)
theorem gx_d168 : gx_r168.all (fun q => decide (decode prog_14_method_23_code q.1 = .ok q.2)) = true := by decide +kernel
def gx_r169 : List (Nat × Instr × Nat) := [(0, .bipush 10, 2), (2, .aload_n 0, 1), (3, .getfield 316, 3), (6, .imul, 1), (7, .istore_n 1, 1), (8, .aload_n 0, 1), (9, .getfield 60, 3), (12, .aload_n 0, 1), (13, .getfield 316, 3), (16, .baload, 1), (17, .ifCond .ne 69, 3), (20, .aload_n 0, 1), (21, .getfield 60, 3), (24, .aload_n 0, 1), (25, .getfield 316, 3), (28, .iconst 1, 1), (29, .bastore, 1), (30, .aload_n 0, 1), (31, .getfield 63, 3), (34, .aload_n 0, 1), (35, .getfield 316, 3), (38, .aload_n 0, 1), (39, .getfield 328, 3), (42, .bastore, 1), (43, .iconst 0, 1), (44, .istore_n 2, 1), (45, .iload_n 2, 1), (46, .bipush 10, 2), (48, .if_icmp .ge 37, 3), (51, .aload_n 0, 1), (52, .getfield 66, 3), (55, .iload_n 1, 1), (56, .iload_n 2, 1), (57, .iadd, 1), (58, .aload_n 0, 1), (59, .getfield 72, 3), (62, .iload_n 2, 1), (63, .laload, 1), (64, .lastore, 1), (65, .aload_n 0, 1), (66, .getfield 69, 3), (69, .iload_n 1, 1), (70, .iload_n 2, 1), (71, .iadd, 1), (72, .aload_n 0, 1), (73, .getfield 75, 3), (76, .iload_n 2, 1), (77, .laload, 1), (78, .lastore, 1), (79, .iinc 2 1, 3), (82, .goto (-37), 3), (85, .return_, 1), (86, .iconst 0, 1), (87, .istore_n 2, 1), (88, .iload_n 2, 1), (89, .sipush 600, 3), (92, .if_icmp .ge 66, 3), (95, .aload_n 0, 1), (96, .getfield 69, 3), (99, .iload_n 1, 1), (100, .iload_n 2, 1), (101, .bipush 6, 2), (103, .ishr, 1), (104, .iadd, 1), (105, .laload, 1), (106, .iload_n 2, 1), (107, .lshr, 1), (108, .lconst 1, 1), (109, .land, 1), (110, .lconst 0, 1), (111, .lcmp, 1), (112, .ifCond .ne 6, 3), (115, .goto 37, 3), (118, .iconst 0, 1), (119, .istore_n 3, 1), (120, .iload_n 3, 1), (121, .bipush 10, 2), (123, .if_icmp .ge 29, 3), (126, .aload_n 0, 1), (127, .getfield 87, 3), (130, .bipush 10, 2), (132, .iload_n 2, 1), (133, .imul, 1), (134, .iload_n 3, 1), (135, .iadd, 1), (136, .dup2, 1), (137, .laload, 1), (138, .aload_n 0, 1), (139, .getfield 72, 3), (142, .iload_n 3, 1), (143, .laload, 1), (144, .lor, 1), (145, .lastore, 1), (146, .iinc 3 1, 3), (149, .goto (-29), 3), (152, .iinc 2 1, 3), (155, .goto (-67), 3), (158, .iconst 0, 1), (159, .istore_n 2, 1), (160, .iload_n 2, 1), (161, .bipush 10, 2), (163, .if_icmp .ge 77, 3), (166, .aload_n 0, 1), (167, .getfield 63, 3), (170, .aload_n 0, 1), (171, .getfield 316, 3), (174, .baload, 1), (175, .ifCond .eq 20, 3), (178, .aload_n 0, 1), (179, .getfield 66, 3), (182, .iload_n 1, 1), (183, .iload_n 2, 1), (184, .iadd, 1), (185, .dup2, 1), (186, .laload, 1), (187, .aload_n 0, 1), (188, .getfield 72, 3), (191, .iload_n 2, 1), (192, .laload, 1), (193, .lor, 1), (194, .lastore, 1), (195, .aload_n 0, 1), (196, .getfield 69, 3), (199, .iload_n 1, 1), (200, .iload_n 2, 1), (201, .iadd, 1), (202, .aload_n 0, 1), (203, .getfield 328, 3), (206, .ifCond .eq 21, 3), (209, .aload_n 0, 1), (210, .getfield 69, 3), (213, .iload_n 1, 1), (214, .iload_n 2, 1), (215, .iadd, 1), (216, .laload, 1), (217, .aload_n 0, 1), (218, .getfield 75, 3), (221, .iload_n 2, 1), (222, .laload, 1), (223, .lor, 1), (224, .goto 9, 3), (227, .aload_n 0, 1), (228, .getfield 75, 3), (231, .iload_n 2, 1), (232, .laload, 1), (233, .lastore, 1), (234, .iinc 2 1, 3), (237, .goto (-77), 3), (240, .aload_n 0, 1), (241, .getfield 63, 3), (244, .aload_n 0, 1), (245, .getfield 316, 3), (248, .dup2, 1), (249, .baload, 1), (250, .aload_n 0, 1), (251, .getfield 328, 3), (254, .iand, 1), (255, .bastore, 1), (256, .return_, 1)]
def gx_m169 : am_M := (⟨"GrammarStreamModel", "addOne", "()V"⟩, prog_14_method_25_code, 4, (Option.none : Option FieldType), 0, gx_r169)
theorem gx_d169 : gx_r169.all (fun q => decide (decode prog_14_method_25_code q.1 = .ok q.2)) = true := by decide +kernel
def gx_r170 : List (Nat × Instr × Nat) := [(0, .iconst 0, 1), (1, .istore_n 1, 1), (2, .iload_n 1, 1), (3, .aload_n 0, 1), (4, .getfield 277, 3), (7, .if_icmp .ge 161, 3), (10, .aload_n 0, 1), (11, .getfield 32, 3), (14, .iload_n 1, 1), (15, .iaload, 1), (16, .istore_n 2, 1), (17, .iload_n 2, 1), (18, .aload_n 0, 1), (19, .getfield 32, 3), (22, .iload_n 1, 1), (23, .iaload, 1), (24, .aload_n 0, 1), (25, .getfield 35, 3), (28, .iload_n 1, 1), (29, .iaload, 1), (30, .iadd, 1), (31, .if_icmp .ge 131, 3), (34, .aload_n 0, 1), (35, .aload_n 0, 1), (36, .getfield 7, 3), (39, .aload_n 0, 1), (40, .getfield 38, 3), (43, .iload_n 2, 1), (44, .iaload, 1), (45, .iaload, 1), (46, .invokevirtual 249, 3), (49, .istore_n 3, 1), (50, .iload_n 3, 1), (51, .ifCond .eq 22, 3), (54, .aload_n 0, 1), (55, .aload_n 0, 1), (56, .getfield 38, 3), (59, .iload_n 2, 1), (60, .iaload, 1), (61, .aload_n 0, 1), (62, .getfield 41, 3), (65, .iload_n 2, 1), (66, .iaload, 1), (67, .invokevirtual 310, 3), (70, .goto 19, 3), (73, .aload_n 0, 1), (74, .aload_n 0, 1), (75, .getfield 38, 3), (78, .iload_n 2, 1), (79, .iaload, 1), (80, .aload_n 0, 1), (81, .getfield 41, 3), (84, .iload_n 2, 1), (85, .iaload, 1), (86, .invokevirtual 296, 3), (89, .istore 4, 2), (91, .iload 4, 2), (93, .ifCond .ge 17, 3), (96, .aload_n 0, 1), (97, .iconst 3, 1), (98, .aload_n 0, 1), (99, .getfield 38, 3), (102, .iload_n 2, 1), (103, .iaload, 1), (104, .invokevirtual 300, 3), (107, .goto 28, 3), (110, .iload_n 3, 1), (111, .ifCond .ne 24, 3), (114, .aload_n 0, 1), (115, .getfield 19, 3), (118, .iload 4, 2), (120, .baload, 1), (121, .ifCond .eq 14, 3), (124, .aload_n 0, 1), (125, .iconst 4, 1), (126, .aload_n 0, 1), (127, .getfield 38, 3), (130, .iload_n 2, 1), (131, .iaload, 1), (132, .invokevirtual 300, 3), (135, .aload_n 0, 1), (136, .getfield 44, 3), (139, .iload_n 2, 1), (140, .iload_n 3, 1), (141, .ifCond .eq 12, 3), (144, .sipush (-1000), 3), (147, .iload 4, 2), (149, .isub, 1), (150, .goto 5, 3), (153, .iload 4, 2), (155, .iastore, 1), (156, .iinc 2 1, 3), (159, .goto (-142), 3), (162, .iinc 1 1, 3), (165, .goto (-163), 3), (168, .return_, 1)]
def gx_m170 : am_M := (⟨"GrammarStreamModel", "lookAtRows", "()V"⟩, prog_14_method_34_code, 5, (Option.none : Option FieldType), 0, gx_r170)
theorem gx_d170 : gx_r170.all (fun q => decide (decode prog_14_method_34_code q.1 = .ok q.2)) = true := by decide +kernel
def gx_r171 : List (Nat × Instr × Nat) := [(0, .iconst 0, 1), (1, .istore_n 1, 1), (2, .iload_n 1, 1), (3, .aload_n 0, 1), (4, .getfield 271, 3), (7, .if_icmp .ge 16, 3), (10, .aload_n 0, 1), (11, .getfield 96, 3), (14, .iload_n 1, 1), (15, .iconst 0, 1), (16, .bastore, 1), (17, .iinc 1 1, 3), (20, .goto (-18), 3), (23, .iconst 1, 1), (24, .istore_n 1, 1), (25, .iload_n 1, 1), (26, .ifCond .eq 136, 3), (29, .iconst 0, 1), (30, .istore_n 1, 1), (31, .iconst 0, 1), (32, .istore_n 2, 1), (33, .iload_n 2, 1), (34, .aload_n 0, 1), (35, .getfield 277, 3), (38, .if_icmp .ge 121, 3), (41, .aload_n 0, 1), (42, .getfield 96, 3), (45, .aload_n 0, 1), (46, .getfield 29, 3), (49, .iload_n 2, 1), (50, .iaload, 1), (51, .baload, 1), (52, .ifCond .ne 7, 3), (55, .iconst 1, 1), (56, .goto 4, 3), (59, .iconst 0, 1), (60, .istore_n 3, 1), (61, .aload_n 0, 1), (62, .getfield 32, 3), (65, .iload_n 2, 1), (66, .iaload, 1), (67, .istore 4, 2), (69, .iload 4, 2), (71, .aload_n 0, 1), (72, .getfield 32, 3), (75, .iload_n 2, 1), (76, .iaload, 1), (77, .aload_n 0, 1), (78, .getfield 35, 3), (81, .iload_n 2, 1), (82, .iaload, 1), (83, .iadd, 1), (84, .if_icmp .ge 48, 3), (87, .iload_n 3, 1), (88, .ifCond .eq 44, 3), (91, .aload_n 0, 1), (92, .getfield 44, 3), (95, .iload 4, 2), (97, .iaload, 1), (98, .ifCond .ge 22, 3), (101, .aload_n 0, 1), (102, .getfield 96, 3), (105, .sipush (-1000), 3), (108, .aload_n 0, 1), (109, .getfield 44, 3), (112, .iload 4, 2), (114, .iaload, 1), (115, .isub, 1), (116, .baload, 1), (117, .ifCond .eq 7, 3), (120, .iconst 1, 1), (121, .goto 4, 3), (124, .iconst 0, 1), (125, .istore_n 3, 1), (126, .iinc 4 1, 3), (129, .goto (-60), 3), (132, .iload_n 3, 1), (133, .ifCond .ne 6, 3), (136, .goto 17, 3), (139, .aload_n 0, 1), (140, .getfield 96, 3), (143, .aload_n 0, 1), (144, .getfield 29, 3), (147, .iload_n 2, 1), (148, .iaload, 1), (149, .iconst 1, 1), (150, .bastore, 1), (151, .iconst 1, 1), (152, .istore_n 1, 1), (153, .iinc 2 1, 3), (156, .goto (-123), 3), (159, .goto (-134), 3), (162, .aload_n 0, 1), (163, .getfield 271, 3), (166, .iconst 1, 1), (167, .isub, 1), (168, .istore_n 2, 1), (169, .iload_n 2, 1), (170, .ifCond .lt 34, 3), (173, .aload_n 0, 1), (174, .getfield 96, 3), (177, .iload_n 2, 1), (178, .baload, 1), (179, .ifCond .ne 19, 3), (182, .aload_n 0, 1), (183, .bipush 9, 2), (185, .putfield 240, 3), (188, .aload_n 0, 1), (189, .aload_n 0, 1), (190, .getfield 23, 3), (193, .iload_n 2, 1), (194, .iaload, 1), (195, .putfield 243, 3), (198, .iinc 2 (-1), 3), (201, .goto (-32), 3), (204, .return_, 1)]
def gx_m171 : am_M := (⟨"GrammarStreamModel", "lookAtSymbols", "()V"⟩, prog_14_method_35_code, 5, (Option.none : Option FieldType), 0, gx_r171)
theorem gx_d171 : gx_r171.all (fun q => decide (decode prog_14_method_35_code q.1 = .ok q.2)) = true := by decide +kernel
def gx_r172 : List (Nat × Instr × Nat) := [(0, .aload_n 0, 1), (1, .iconst 1, 1), (2, .putfield 369, 3), (5, .aload_n 0, 1), (6, .getfield 106, 3), (9, .iconst 0, 1), (10, .iconst (-1), 1), (11, .iastore, 1), (12, .iconst 0, 1), (13, .istore_n 1, 1), (14, .iload_n 1, 1), (15, .bipush 10, 2), (17, .if_icmp .ge 16, 3), (20, .aload_n 0, 1), (21, .getfield 99, 3), (24, .iload_n 1, 1), (25, .lconst 0, 1), (26, .lastore, 1), (27, .iinc 1 1, 3), (30, .goto (-16), 3), (33, .iconst 0, 1), (34, .istore_n 1, 1), (35, .iload_n 1, 1), (36, .aload_n 0, 1), (37, .getfield 369, 3), (40, .if_icmp .ge 168, 3), (43, .aload_n 0, 1), (44, .iload_n 1, 1), (45, .invokevirtual 372, 3), (48, .iconst 0, 1), (49, .istore_n 2, 1), (50, .iload_n 2, 1), (51, .sipush 128, 3), (54, .if_icmp .ge 148, 3), (57, .iconst 0, 1), (58, .istore_n 3, 1), (59, .iconst 0, 1), (60, .istore 4, 2), (62, .iload 4, 2), (64, .bipush 10, 2), (66, .if_icmp .ge 17, 3), (69, .aload_n 0, 1), (70, .getfield 118, 3), (73, .iload 4, 2), (75, .lconst 0, 1), (76, .lastore, 1), (77, .iinc 4 1, 3), (80, .goto (-18), 3), (83, .iconst 0, 1), (84, .istore 4, 2), (86, .iload 4, 2), (88, .aload_n 0, 1), (89, .getfield 283, 3), (92, .if_icmp .ge 61, 3), (95, .aload_n 0, 1), (96, .getfield 115, 3), (99, .iload 4, 2), (101, .bipush 6, 2), (103, .ishr, 1), (104, .laload, 1), (105, .iload 4, 2), (107, .lshr, 1), (108, .lconst 1, 1), (109, .land, 1), (110, .lconst 0, 1), (111, .lcmp, 1), (112, .ifCond .eq 35, 3), (115, .aload_n 0, 1), (116, .iload 4, 2), (118, .iload_n 2, 1), (119, .invokevirtual 375, 3), (122, .ifCond .ne 6, 3), (125, .goto 22, 3), (128, .aload_n 0, 1), (129, .getfield 118, 3), (132, .iload 4, 2), (134, .bipush 6, 2), (136, .ishr, 1), (137, .dup2, 1), (138, .laload, 1), (139, .lconst 1, 1), (140, .iload 4, 2), (142, .lshl, 1), (143, .lor, 1), (144, .lastore, 1), (145, .iconst 1, 1), (146, .istore_n 3, 1), (147, .iinc 4 1, 3), (150, .goto (-64), 3), (153, .aload_n 0, 1), (154, .getfield 103, 3), (157, .sipush 128, 3), (160, .iload_n 1, 1), (161, .imul, 1), (162, .iload_n 2, 1), (163, .iadd, 1), (164, .iload_n 3, 1), (165, .ifCond .eq 10, 3), (168, .aload_n 0, 1), (169, .invokevirtual 379, 3), (172, .goto 4, 3), (175, .iconst (-1), 1), (176, .iastore, 1), (177, .aload_n 0, 1), (178, .getfield 103, 3), (181, .sipush 128, 3), (184, .iload_n 1, 1), (185, .imul, 1), (186, .iload_n 2, 1), (187, .iadd, 1), (188, .iaload, 1), (189, .bipush (-2), 2), (191, .if_icmp .ne 5, 3), (194, .iconst 0, 1), (195, .ireturn, 1), (196, .iinc 2 1, 3), (199, .goto (-149), 3), (202, .iinc 1 1, 3), (205, .goto (-170), 3), (208, .aload_n 0, 1), (209, .invokevirtual 382, 3), (212, .iconst 1, 1), (213, .ireturn, 1)]
def gx_m172 : am_M := (⟨"GrammarStreamModel", "layMachine", "()Z"⟩, prog_14_method_39_code, 5, (Option.some FieldType.boolean), 0, gx_r172)
theorem gx_d172 : gx_r172.all (fun q => decide (decode prog_14_method_39_code q.1 = .ok q.2)) = true := by decide +kernel
def gx_r173 : List (Nat × Instr × Nat) := [(0, .iconst 0, 1), (1, .istore_n 2, 1), (2, .iload_n 2, 1), (3, .bipush 10, 2), (5, .if_icmp .ge 29, 3), (8, .aload_n 0, 1), (9, .getfield 115, 3), (12, .iload_n 2, 1), (13, .iload_n 1, 1), (14, .ifCond .ne 12, 3), (17, .aload_n 0, 1), (18, .getfield 90, 3), (21, .iload_n 2, 1), (22, .laload, 1), (23, .goto 4, 3), (26, .lconst 0, 1), (27, .lastore, 1), (28, .iinc 2 1, 3), (31, .goto (-29), 3), (34, .iconst 0, 1), (35, .istore_n 2, 1), (36, .iload_n 2, 1), (37, .aload_n 0, 1), (38, .getfield 283, 3), (41, .if_icmp .ge 73, 3), (44, .iload_n 1, 1), (45, .ifCond .le 69, 3), (48, .aload_n 0, 1), (49, .getfield 99, 3), (52, .bipush 10, 2), (54, .iload_n 1, 1), (55, .imul, 1), (56, .iload_n 2, 1), (57, .bipush 6, 2), (59, .ishr, 1), (60, .iadd, 1), (61, .laload, 1), (62, .iload_n 2, 1), (63, .lshr, 1), (64, .lconst 1, 1), (65, .land, 1), (66, .lconst 0, 1), (67, .lcmp, 1), (68, .ifCond .ne 6, 3), (71, .goto 37, 3), (74, .iconst 0, 1), (75, .istore_n 3, 1), (76, .iload_n 3, 1), (77, .bipush 10, 2), (79, .if_icmp .ge 29, 3), (82, .aload_n 0, 1), (83, .getfield 115, 3), (86, .iload_n 3, 1), (87, .dup2, 1), (88, .laload, 1), (89, .aload_n 0, 1), (90, .getfield 87, 3), (93, .bipush 10, 2), (95, .iload_n 2, 1), (96, .imul, 1), (97, .iload_n 3, 1), (98, .iadd, 1), (99, .laload, 1), (100, .lor, 1), (101, .lastore, 1), (102, .iinc 3 1, 3), (105, .goto (-29), 3), (108, .iinc 2 1, 3), (111, .goto (-75), 3), (114, .return_, 1)]
def gx_m173 : am_M := (⟨"GrammarStreamModel", "findNext", "(I)V"⟩, prog_14_method_37_code, 4, (Option.none : Option FieldType), 1, gx_r173)
theorem gx_d173 : gx_r173.all (fun q => decide (decode prog_14_method_37_code q.1 = .ok q.2)) = true := by decide +kernel
def gx_r174 : List (Nat × Instr × Nat) := [(0, .iload_n 2, 1), (1, .bipush 64, 2), (3, .if_icmp .ge 14, 3), (6, .aload_n 0, 1), (7, .getfield 78, 3), (10, .iload_n 1, 1), (11, .laload, 1), (12, .iload_n 2, 1), (13, .lshr, 1), (14, .goto 14, 3), (17, .aload_n 0, 1), (18, .getfield 81, 3), (21, .iload_n 1, 1), (22, .laload, 1), (23, .iload_n 2, 1), (24, .bipush 64, 2), (26, .isub, 1), (27, .lshr, 1), (28, .lconst 1, 1), (29, .land, 1), (30, .lconst 1, 1), (31, .lcmp, 1), (32, .ifCond .ne 7, 3), (35, .iconst 1, 1), (36, .goto 4, 3), (39, .iconst 0, 1), (40, .ireturn, 1)]
def gx_m174 : am_M := (⟨"GrammarStreamModel", "takes", "(II)Z"⟩, prog_14_method_36_code, 3, (Option.some FieldType.boolean), 2, gx_r174)
theorem gx_d174 : gx_r174.all (fun q => decide (decode prog_14_method_36_code q.1 = .ok q.2)) = true := by decide +kernel
def gx_r175 : List (Nat × Instr × Nat) := [(0, .iconst 1, 1), (1, .istore_n 1, 1), (2, .iload_n 1, 1), (3, .aload_n 0, 1), (4, .getfield 369, 3), (7, .if_icmp .ge 62, 3), (10, .iconst 1, 1), (11, .istore_n 2, 1), (12, .iconst 0, 1), (13, .istore_n 3, 1), (14, .iload_n 3, 1), (15, .bipush 10, 2), (17, .if_icmp .ge 40, 3), (20, .iload_n 2, 1), (21, .ifCond .eq 36, 3), (24, .aload_n 0, 1), (25, .getfield 99, 3), (28, .bipush 10, 2), (30, .iload_n 1, 1), (31, .imul, 1), (32, .iload_n 3, 1), (33, .iadd, 1), (34, .laload, 1), (35, .aload_n 0, 1), (36, .getfield 118, 3), (39, .iload_n 3, 1), (40, .laload, 1), (41, .lcmp, 1), (42, .ifCond .ne 7, 3), (45, .iconst 1, 1), (46, .goto 4, 3), (49, .iconst 0, 1), (50, .istore_n 2, 1), (51, .iinc 3 1, 3), (54, .goto (-40), 3), (57, .iload_n 2, 1), (58, .ifCond .eq 5, 3), (61, .iload_n 1, 1), (62, .ireturn, 1), (63, .iinc 1 1, 3), (66, .goto (-64), 3), (69, .aload_n 0, 1), (70, .getfield 369, 3), (73, .sipush 400, 3), (76, .if_icmp .ne 6, 3), (79, .bipush (-2), 2), (81, .ireturn, 1), (82, .aload_n 0, 1), (83, .getfield 369, 3), (86, .istore_n 1, 1), (87, .aload_n 0, 1), (88, .dup, 1), (89, .getfield 369, 3), (92, .iconst 1, 1), (93, .iadd, 1), (94, .putfield 369, 3), (97, .aload_n 0, 1), (98, .getfield 106, 3), (101, .iload_n 1, 1), (102, .iconst (-1), 1), (103, .iastore, 1), (104, .iconst 0, 1), (105, .istore_n 2, 1), (106, .iload_n 2, 1), (107, .bipush 10, 2), (109, .if_icmp .ge 26, 3), (112, .aload_n 0, 1), (113, .getfield 99, 3), (116, .bipush 10, 2), (118, .iload_n 1, 1), (119, .imul, 1), (120, .iload_n 2, 1), (121, .iadd, 1), (122, .aload_n 0, 1), (123, .getfield 118, 3), (126, .iload_n 2, 1), (127, .laload, 1), (128, .lastore, 1), (129, .iinc 2 1, 3), (132, .goto (-26), 3), (135, .iconst 0, 1), (136, .istore_n 2, 1), (137, .iload_n 2, 1), (138, .aload_n 0, 1), (139, .getfield 283, 3), (142, .if_icmp .ge 84, 3), (145, .aload_n 0, 1), (146, .getfield 118, 3), (149, .iload_n 2, 1), (150, .bipush 6, 2), (152, .ishr, 1), (153, .laload, 1), (154, .aload_n 0, 1), (155, .getfield 93, 3), (158, .iload_n 2, 1), (159, .bipush 6, 2), (161, .ishr, 1), (162, .laload, 1), (163, .land, 1), (164, .lconst 1, 1), (165, .iload_n 2, 1), (166, .lshl, 1), (167, .land, 1), (168, .lconst 0, 1), (169, .lcmp, 1), (170, .ifCond .eq 7, 3), (173, .iconst 1, 1), (174, .goto 4, 3), (177, .iconst 0, 1), (178, .istore_n 3, 1), (179, .iload_n 3, 1), (180, .ifCond .eq 40, 3), (183, .aload_n 0, 1), (184, .getfield 106, 3), (187, .iload_n 1, 1), (188, .iaload, 1), (189, .iconst (-1), 1), (190, .if_icmp .eq 18, 3), (193, .aload_n 0, 1), (194, .getfield 84, 3), (197, .iload_n 2, 1), (198, .iaload, 1), (199, .aload_n 0, 1), (200, .getfield 106, 3), (203, .iload_n 1, 1), (204, .iaload, 1), (205, .if_icmp .ge 15, 3), (208, .aload_n 0, 1), (209, .getfield 106, 3), (212, .iload_n 1, 1), (213, .aload_n 0, 1), (214, .getfield 84, 3), (217, .iload_n 2, 1), (218, .iaload, 1), (219, .iastore, 1), (220, .iinc 2 1, 3), (223, .goto (-86), 3), (226, .iload_n 1, 1), (227, .ireturn, 1)]
def gx_m175 : am_M := (⟨"GrammarStreamModel", "stateMade", "()I"⟩, prog_14_method_38_code, 4, (Option.some FieldType.int), 0, gx_r175)
theorem gx_d175 : gx_r175.all (fun q => decide (decode prog_14_method_38_code q.1 = .ok q.2)) = true := by decide +kernel
end
section
def gx_r176 : List (Nat × Instr × Nat) := [(0, .iconst 0, 1), (1, .istore_n 1, 1), (2, .iload_n 1, 1), (3, .aload_n 0, 1), (4, .getfield 369, 3), (7, .if_icmp .ge 44, 3), (10, .aload_n 0, 1), (11, .getfield 109, 3), (14, .iload_n 1, 1), (15, .aload_n 0, 1), (16, .getfield 106, 3), (19, .iload_n 1, 1), (20, .iaload, 1), (21, .ifCond .lt 7, 3), (24, .iconst 1, 1), (25, .goto 4, 3), (28, .iconst 0, 1), (29, .bastore, 1), (30, .aload_n 0, 1), (31, .getfield 121, 3), (34, .iload_n 1, 1), (35, .iload_n 1, 1), (36, .ifCond .ne 7, 3), (39, .iconst 0, 1), (40, .goto 4, 3), (43, .iconst (-1), 1), (44, .iastore, 1), (45, .iinc 1 1, 3), (48, .goto (-46), 3), (51, .iconst 1, 1), (52, .istore_n 1, 1), (53, .iload_n 1, 1), (54, .ifCond .eq 136, 3), (57, .iconst 0, 1), (58, .istore_n 1, 1), (59, .iconst 0, 1), (60, .istore_n 2, 1), (61, .iload_n 2, 1), (62, .sipush 128, 3), (65, .aload_n 0, 1), (66, .getfield 369, 3), (69, .imul, 1), (70, .if_icmp .ge 117, 3), (73, .aload_n 0, 1), (74, .getfield 103, 3), (77, .iload_n 2, 1), (78, .iaload, 1), (79, .ifCond .ge 6, 3), (82, .goto 99, 3), (85, .iload_n 2, 1), (86, .sipush 128, 3), (89, .idiv, 1), (90, .istore_n 3, 1), (91, .aload_n 0, 1), (92, .getfield 103, 3), (95, .iload_n 2, 1), (96, .iaload, 1), (97, .istore 4, 2), (99, .aload_n 0, 1), (100, .getfield 109, 3), (103, .iload 4, 2), (105, .baload, 1), (106, .ifCond .eq 21, 3), (109, .aload_n 0, 1), (110, .getfield 109, 3), (113, .iload_n 3, 1), (114, .baload, 1), (115, .ifCond .ne 12, 3), (118, .aload_n 0, 1), (119, .getfield 109, 3), (122, .iload_n 3, 1), (123, .iconst 1, 1), (124, .bastore, 1), (125, .iconst 1, 1), (126, .istore_n 1, 1), (127, .aload_n 0, 1), (128, .getfield 121, 3), (131, .iload_n 3, 1), (132, .iaload, 1), (133, .ifCond .lt 48, 3), (136, .aload_n 0, 1), (137, .getfield 121, 3), (140, .iload 4, 2), (142, .iaload, 1), (143, .ifCond .lt 21, 3), (146, .aload_n 0, 1), (147, .getfield 121, 3), (150, .iload 4, 2), (152, .iaload, 1), (153, .aload_n 0, 1), (154, .getfield 121, 3), (157, .iload_n 3, 1), (158, .iaload, 1), (159, .iconst 1, 1), (160, .iadd, 1), (161, .if_icmp .le 20, 3), (164, .aload_n 0, 1), (165, .getfield 121, 3), (168, .iload 4, 2), (170, .aload_n 0, 1), (171, .getfield 121, 3), (174, .iload_n 3, 1), (175, .iaload, 1), (176, .iconst 1, 1), (177, .iadd, 1), (178, .iastore, 1), (179, .iconst 1, 1), (180, .istore_n 1, 1), (181, .iinc 2 1, 3), (184, .goto (-123), 3), (187, .goto (-134), 3), (190, .iconst 0, 1), (191, .istore_n 2, 1), (192, .iload_n 2, 1), (193, .bipush 24, 2), (195, .if_icmp .ge 16, 3), (198, .aload_n 0, 1), (199, .getfield 112, 3), (202, .iload_n 2, 1), (203, .iconst 0, 1), (204, .iastore, 1), (205, .iinc 2 1, 3), (208, .goto (-16), 3), (211, .iconst 0, 1), (212, .istore_n 2, 1), (213, .iload_n 2, 1), (214, .aload_n 0, 1), (215, .getfield 369, 3), (218, .if_icmp .ge 56, 3), (221, .aload_n 0, 1), (222, .getfield 106, 3), (225, .iload_n 2, 1), (226, .iaload, 1), (227, .istore_n 3, 1), (228, .iload_n 3, 1), (229, .ifCond .lt 39, 3), (232, .aload_n 0, 1), (233, .getfield 112, 3), (236, .iload_n 3, 1), (237, .iaload, 1), (238, .ifCond .eq 18, 3), (241, .aload_n 0, 1), (242, .getfield 121, 3), (245, .iload_n 2, 1), (246, .iaload, 1), (247, .aload_n 0, 1), (248, .getfield 112, 3), (251, .iload_n 3, 1), (252, .iaload, 1), (253, .if_icmp .ge 15, 3), (256, .aload_n 0, 1), (257, .getfield 112, 3), (260, .iload_n 3, 1), (261, .aload_n 0, 1), (262, .getfield 121, 3), (265, .iload_n 2, 1), (266, .iaload, 1), (267, .iastore, 1), (268, .iinc 2 1, 3), (271, .goto (-58), 3), (274, .return_, 1)]
def gx_m176 : am_M := (⟨"GrammarStreamModel", "lookAtStates", "()V"⟩, prog_14_method_40_code, 5, (Option.none : Option FieldType), 0, gx_r176)
theorem gx_d176 : gx_r176.all (fun q => decide (decode prog_14_method_40_code q.1 = .ok q.2)) = true := by decide +kernel
def gx_r177 : List (Nat × Instr × Nat) := [(0, .iconst 0, 1), (1, .istore_n 1, 1), (2, .iload_n 1, 1), (3, .aload_n 0, 1), (4, .getfield 271, 3), (7, .if_icmp .ge 58, 3), (10, .aload_n 0, 1), (11, .getfield 124, 3), (14, .iload_n 1, 1), (15, .iconst 0, 1), (16, .bastore, 1), (17, .aload_n 0, 1), (18, .getfield 127, 3), (21, .iload_n 1, 1), (22, .iconst 0, 1), (23, .iastore, 1), (24, .aload_n 0, 1), (25, .getfield 130, 3), (28, .iload_n 1, 1), (29, .iload_n 1, 1), (30, .ifCond .ne 12, 3), (33, .iconst 1, 1), (34, .aload_n 0, 1), (35, .getfield 264, 3), (38, .ishl, 1), (39, .goto 4, 3), (42, .iconst 0, 1), (43, .iastore, 1), (44, .aload_n 0, 1), (45, .getfield 133, 3), (48, .iload_n 1, 1), (49, .iload_n 1, 1), (50, .ifCond .ne 7, 3), (53, .iconst 1, 1), (54, .goto 4, 3), (57, .iconst 0, 1), (58, .bastore, 1), (59, .iinc 1 1, 3), (62, .goto (-60), 3), (65, .iconst 1, 1), (66, .istore_n 1, 1), (67, .iload_n 1, 1), (68, .ifCond .eq 106, 3), (71, .iconst 0, 1), (72, .istore_n 1, 1), (73, .iconst 0, 1), (74, .istore_n 2, 1), (75, .iload_n 2, 1), (76, .aload_n 0, 1), (77, .getfield 277, 3), (80, .if_icmp .ge 91, 3), (83, .aload_n 0, 1), (84, .getfield 29, 3), (87, .iload_n 2, 1), (88, .iaload, 1), (89, .istore_n 3, 1), (90, .aload_n 0, 1), (91, .iload_n 2, 1), (92, .iconst 0, 1), (93, .invokevirtual 385, 3), (96, .istore 4, 2), (98, .aload_n 0, 1), (99, .getfield 127, 3), (102, .iload_n 3, 1), (103, .iaload, 1), (104, .aload_n 0, 1), (105, .iload_n 2, 1), (106, .iconst 0, 1), (107, .invokevirtual 388, 3), (110, .ior, 1), (111, .istore 5, 2), (113, .iload_n 1, 1), (114, .iload 4, 2), (116, .ifCond .eq 12, 3), (119, .aload_n 0, 1), (120, .getfield 124, 3), (123, .iload_n 3, 1), (124, .baload, 1), (125, .ifCond .eq 14, 3), (128, .iload 5, 2), (130, .aload_n 0, 1), (131, .getfield 127, 3), (134, .iload_n 3, 1), (135, .iaload, 1), (136, .if_icmp .eq 7, 3), (139, .iconst 1, 1), (140, .goto 4, 3), (143, .iconst 0, 1), (144, .ior, 1), (145, .istore_n 1, 1), (146, .aload_n 0, 1), (147, .getfield 124, 3), (150, .iload_n 3, 1), (151, .dup2, 1), (152, .baload, 1), (153, .iload 4, 2), (155, .ior, 1), (156, .bastore, 1), (157, .aload_n 0, 1), (158, .getfield 127, 3), (161, .iload_n 3, 1), (162, .iload 5, 2), (164, .iastore, 1), (165, .iinc 2 1, 3), (168, .goto (-93), 3), (171, .goto (-104), 3), (174, .iconst 1, 1), (175, .istore_n 1, 1), (176, .iload_n 1, 1), (177, .ifCond .eq 46, 3), (180, .iconst 0, 1), (181, .istore_n 1, 1), (182, .iconst 0, 1), (183, .istore_n 2, 1), (184, .iload_n 2, 1), (185, .aload_n 0, 1), (186, .getfield 277, 3), (189, .if_icmp .ge 31, 3), (192, .aload_n 0, 1), (193, .getfield 133, 3), (196, .aload_n 0, 1), (197, .getfield 29, 3), (200, .iload_n 2, 1), (201, .iaload, 1), (202, .baload, 1), (203, .ifCond .eq 11, 3), (206, .iload_n 1, 1), (207, .aload_n 0, 1), (208, .iload_n 2, 1), (209, .invokevirtual 391, 3), (212, .ior, 1), (213, .istore_n 1, 1), (214, .iinc 2 1, 3), (217, .goto (-33), 3), (220, .goto (-44), 3), (223, .aload_n 0, 1), (224, .invokevirtual 394, 3), (227, .return_, 1)]
def gx_m177 : am_M := (⟨"GrammarStreamModel", "layParser", "()V"⟩, prog_14_method_43_code, 6, (Option.none : Option FieldType), 0, gx_r177)
theorem gx_d177 : gx_r177.all (fun q => decide (decode prog_14_method_43_code q.1 = .ok q.2)) = true := by decide +kernel
def gx_r178 : List (Nat × Instr × Nat) := [(0, .iconst 1, 1), (1, .istore_n 3, 1), (2, .aload_n 0, 1), (3, .getfield 32, 3), (6, .iload_n 1, 1), (7, .iaload, 1), (8, .iload_n 2, 1), (9, .iadd, 1), (10, .istore 4, 2), (12, .iload 4, 2), (14, .aload_n 0, 1), (15, .getfield 32, 3), (18, .iload_n 1, 1), (19, .iaload, 1), (20, .aload_n 0, 1), (21, .getfield 35, 3), (24, .iload_n 1, 1), (25, .iaload, 1), (26, .iadd, 1), (27, .if_icmp .ge 48, 3), (30, .iload_n 3, 1), (31, .ifCond .eq 44, 3), (34, .aload_n 0, 1), (35, .getfield 44, 3), (38, .iload 4, 2), (40, .iaload, 1), (41, .ifCond .ge 26, 3), (44, .aload_n 0, 1), (45, .getfield 124, 3), (48, .sipush (-1000), 3), (51, .aload_n 0, 1), (52, .getfield 44, 3), (55, .iload 4, 2), (57, .iaload, 1), (58, .isub, 1), (59, .baload, 1), (60, .ifCond .eq 7, 3), (63, .iconst 1, 1), (64, .goto 4, 3), (67, .iconst 0, 1), (68, .istore_n 3, 1), (69, .iinc 4 1, 3), (72, .goto (-60), 3), (75, .iload_n 3, 1), (76, .ireturn, 1)]
def gx_m178 : am_M := (⟨"GrammarStreamModel", "isEmptyFrom", "(II)Z"⟩, prog_14_method_41_code, 5, (Option.some FieldType.boolean), 2, gx_r178)
theorem gx_d178 : gx_r178.all (fun q => decide (decode prog_14_method_41_code q.1 = .ok q.2)) = true := by decide +kernel
def gx_r179 : List (Nat × Instr × Nat) := [(0, .iconst 0, 1), (1, .istore_n 3, 1), (2, .iconst 1, 1), (3, .istore 4, 2), (5, .aload_n 0, 1), (6, .getfield 32, 3), (9, .iload_n 1, 1), (10, .iaload, 1), (11, .iload_n 2, 1), (12, .iadd, 1), (13, .istore 5, 2), (15, .iload 5, 2), (17, .aload_n 0, 1), (18, .getfield 32, 3), (21, .iload_n 1, 1), (22, .iaload, 1), (23, .aload_n 0, 1), (24, .getfield 35, 3), (27, .iload_n 1, 1), (28, .iaload, 1), (29, .iadd, 1), (30, .if_icmp .ge 91, 3), (33, .iload 4, 2), (35, .ifCond .eq 86, 3), (38, .iload_n 3, 1), (39, .aload_n 0, 1), (40, .getfield 44, 3), (43, .iload 5, 2), (45, .iaload, 1), (46, .ifCond .lt 15, 3), (49, .iconst 1, 1), (50, .aload_n 0, 1), (51, .getfield 44, 3), (54, .iload 5, 2), (56, .iaload, 1), (57, .ishl, 1), (58, .goto 19, 3), (61, .aload_n 0, 1), (62, .getfield 127, 3), (65, .sipush (-1000), 3), (68, .aload_n 0, 1), (69, .getfield 44, 3), (72, .iload 5, 2), (74, .iaload, 1), (75, .isub, 1), (76, .iaload, 1), (77, .ior, 1), (78, .istore_n 3, 1), (79, .aload_n 0, 1), (80, .getfield 44, 3), (83, .iload 5, 2), (85, .iaload, 1), (86, .ifCond .ge 26, 3), (89, .aload_n 0, 1), (90, .getfield 124, 3), (93, .sipush (-1000), 3), (96, .aload_n 0, 1), (97, .getfield 44, 3), (100, .iload 5, 2), (102, .iaload, 1), (103, .isub, 1), (104, .baload, 1), (105, .ifCond .eq 7, 3), (108, .iconst 1, 1), (109, .goto 4, 3), (112, .iconst 0, 1), (113, .istore 4, 2), (115, .iinc 5 1, 3), (118, .goto (-103), 3), (121, .iload_n 3, 1), (122, .ireturn, 1)]
def gx_m179 : am_M := (⟨"GrammarStreamModel", "firstFrom", "(II)I"⟩, prog_14_method_42_code, 6, (Option.some FieldType.int), 2, gx_r179)
theorem gx_d179 : gx_r179.all (fun q => decide (decode prog_14_method_42_code q.1 = .ok q.2)) = true := by decide +kernel
def gx_r180 : List (Nat × Instr × Nat) := [(0, .iconst 0, 1), (1, .istore_n 2, 1), (2, .iconst 0, 1), (3, .istore_n 3, 1), (4, .iload_n 3, 1), (5, .aload_n 0, 1), (6, .getfield 35, 3), (9, .iload_n 1, 1), (10, .iaload, 1), (11, .if_icmp .ge 132, 3), (14, .aload_n 0, 1), (15, .getfield 44, 3), (18, .aload_n 0, 1), (19, .getfield 32, 3), (22, .iload_n 1, 1), (23, .iaload, 1), (24, .iload_n 3, 1), (25, .iadd, 1), (26, .iaload, 1), (27, .istore 4, 2), (29, .iload 4, 2), (31, .ifCond .lt 6, 3), (34, .goto 103, 3), (37, .sipush (-1000), 3), (40, .iload 4, 2), (42, .isub, 1), (43, .istore 5, 2), (45, .aload_n 0, 1), (46, .getfield 130, 3), (49, .iload 5, 2), (51, .iaload, 1), (52, .aload_n 0, 1), (53, .iload_n 1, 1), (54, .iload_n 3, 1), (55, .iconst 1, 1), (56, .iadd, 1), (57, .invokevirtual 388, 3), (60, .ior, 1), (61, .istore 6, 2), (63, .aload_n 0, 1), (64, .iload_n 1, 1), (65, .iload_n 3, 1), (66, .iconst 1, 1), (67, .iadd, 1), (68, .invokevirtual 385, 3), (71, .ifCond .eq 19, 3), (74, .iload 6, 2), (76, .aload_n 0, 1), (77, .getfield 130, 3), (80, .aload_n 0, 1), (81, .getfield 29, 3), (84, .iload_n 1, 1), (85, .iaload, 1), (86, .iaload, 1), (87, .ior, 1), (88, .istore 6, 2), (90, .iload_n 2, 1), (91, .aload_n 0, 1), (92, .getfield 133, 3), (95, .iload 5, 2), (97, .baload, 1), (98, .ifCond .eq 15, 3), (101, .iload 6, 2), (103, .aload_n 0, 1), (104, .getfield 130, 3), (107, .iload 5, 2), (109, .iaload, 1), (110, .if_icmp .eq 7, 3), (113, .iconst 1, 1), (114, .goto 4, 3), (117, .iconst 0, 1), (118, .ior, 1), (119, .istore_n 2, 1), (120, .aload_n 0, 1), (121, .getfield 133, 3), (124, .iload 5, 2), (126, .iconst 1, 1), (127, .bastore, 1), (128, .aload_n 0, 1), (129, .getfield 130, 3), (132, .iload 5, 2), (134, .iload 6, 2), (136, .iastore, 1), (137, .iinc 3 1, 3), (140, .goto (-136), 3), (143, .iload_n 2, 1), (144, .ireturn, 1)]
def gx_m180 : am_M := (⟨"GrammarStreamModel", "goOn", "(I)Z"⟩, prog_14_method_44_code, 7, (Option.some FieldType.boolean), 1, gx_r180)
theorem gx_d180 : gx_r180.all (fun q => decide (decode prog_14_method_44_code q.1 = .ok q.2)) = true := by decide +kernel
def gx_r181 : List (Nat × Instr × Nat) := [(0, .aload_n 0, 1), (1, .iconst 0, 1), (2, .putfield 397, 3), (5, .iconst 0, 1), (6, .istore_n 1, 1), (7, .iload_n 1, 1), (8, .aload_n 0, 1), (9, .getfield 271, 3), (12, .if_icmp .ge 199, 3), (15, .iconst 0, 1), (16, .istore_n 2, 1), (17, .iload_n 2, 1), (18, .aload_n 0, 1), (19, .getfield 264, 3), (22, .if_icmp .gt 183, 3), (25, .iconst (-1), 1), (26, .istore_n 3, 1), (27, .iconst (-1), 1), (28, .istore 4, 2), (30, .iconst 0, 1), (31, .istore 5, 2), (33, .iload 5, 2), (35, .aload_n 0, 1), (36, .getfield 277, 3), (39, .if_icmp .ge 98, 3), (42, .aload_n 0, 1), (43, .getfield 29, 3), (46, .iload 5, 2), (48, .iaload, 1), (49, .iload_n 1, 1), (50, .if_icmp .eq 6, 3), (53, .goto 78, 3), (56, .aload_n 0, 1), (57, .iload 5, 2), (59, .iconst 0, 1), (60, .invokevirtual 388, 3), (63, .iload_n 2, 1), (64, .ishr, 1), (65, .iconst 1, 1), (66, .iand, 1), (67, .iconst 1, 1), (68, .if_icmp .eq 27, 3), (71, .aload_n 0, 1), (72, .getfield 130, 3), (75, .iload_n 1, 1), (76, .iaload, 1), (77, .iload_n 2, 1), (78, .ishr, 1), (79, .iconst 1, 1), (80, .iand, 1), (81, .iconst 1, 1), (82, .if_icmp .ne 17, 3), (85, .aload_n 0, 1), (86, .iload 5, 2), (88, .iconst 0, 1), (89, .invokevirtual 385, 3), (92, .ifCond .eq 7, 3), (95, .iconst 1, 1), (96, .goto 4, 3), (99, .iconst 0, 1), (100, .istore 6, 2), (102, .iload 6, 2), (104, .ifCond .ne 6, 3), (107, .goto 24, 3), (110, .iload_n 3, 1), (111, .iconst (-1), 1), (112, .if_icmp .ne 9, 3), (115, .iload 5, 2), (117, .istore_n 3, 1), (118, .goto 13, 3), (121, .iload 4, 2), (123, .iconst (-1), 1), (124, .if_icmp .ne 7, 3), (127, .iload 5, 2), (129, .istore 4, 2), (131, .iinc 5 1, 3), (134, .goto (-101), 3), (137, .aload_n 0, 1), (138, .getfield 136, 3), (141, .bipush 25, 2), (143, .iload_n 1, 1), (144, .imul, 1), (145, .iload_n 2, 1), (146, .iadd, 1), (147, .iload_n 3, 1), (148, .iastore, 1), (149, .iload 4, 2), (151, .iconst (-1), 1), (152, .if_icmp .eq 47, 3), (155, .aload_n 0, 1), (156, .getfield 397, 3), (159, .ifCond .eq 6, 3), (162, .goto 37, 3), (165, .aload_n 0, 1), (166, .iconst 1, 1), (167, .putfield 397, 3), (170, .aload_n 0, 1), (171, .getfield 139, 3), (174, .iconst 0, 1), (175, .iload_n 1, 1), (176, .iastore, 1), (177, .aload_n 0, 1), (178, .getfield 139, 3), (181, .iconst 1, 1), (182, .iload_n 2, 1), (183, .iastore, 1), (184, .aload_n 0, 1), (185, .getfield 139, 3), (188, .iconst 2, 1), (189, .iload_n 3, 1), (190, .iastore, 1), (191, .aload_n 0, 1), (192, .getfield 139, 3), (195, .iconst 3, 1), (196, .iload 4, 2), (198, .iastore, 1), (199, .iinc 2 1, 3), (202, .goto (-185), 3), (205, .iinc 1 1, 3), (208, .goto (-201), 3), (211, .return_, 1)]
def gx_m181 : am_M := (⟨"GrammarStreamModel", "layCells", "()V"⟩, prog_14_method_45_code, 7, (Option.none : Option FieldType), 0, gx_r181)
theorem gx_d181 : gx_r181.all (fun q => decide (decode prog_14_method_45_code q.1 = .ok q.2)) = true := by decide +kernel
def gx_r182 : List (Nat × Instr × Nat) := [(0, .aload_n 0, 1), (1, .iconst 1, 1), (2, .putfield 430, 3), (5, .aload_n 0, 1), (6, .aload_n 0, 1), (7, .getfield 264, 3), (10, .putfield 433, 3), (13, .aload_n 0, 1), (14, .aload_n 0, 1), (15, .getfield 271, 3), (18, .putfield 436, 3), (21, .aload_n 0, 1), (22, .aload_n 0, 1), (23, .getfield 277, 3), (26, .putfield 439, 3), (29, .aload_n 0, 1), (30, .aload_n 0, 1), (31, .getfield 283, 3), (34, .putfield 442, 3), (37, .aload_n 0, 1), (38, .aload_n 0, 1), (39, .getfield 369, 3), (42, .putfield 445, 3), (45, .aload_n 0, 1), (46, .iconst 0, 1), (47, .putfield 448, 3), (50, .iconst 0, 1), (51, .istore_n 1, 1), (52, .iload_n 1, 1), (53, .aload_n 0, 1), (54, .getfield 264, 3), (57, .if_icmp .ge 33, 3), (60, .aload_n 0, 1), (61, .getfield 142, 3), (64, .iload_n 1, 1), (65, .aload_n 0, 1), (66, .getfield 19, 3), (69, .iload_n 1, 1), (70, .baload, 1), (71, .bastore, 1), (72, .aload_n 0, 1), (73, .getfield 145, 3), (76, .iload_n 1, 1), (77, .aload_n 0, 1), (78, .getfield 112, 3), (81, .iload_n 1, 1), (82, .iaload, 1), (83, .iastore, 1), (84, .iinc 1 1, 3), (87, .goto (-35), 3), (90, .iconst 0, 1), (91, .istore_n 1, 1), (92, .iload_n 1, 1), (93, .aload_n 0, 1), (94, .getfield 277, 3), (97, .if_icmp .ge 75, 3), (100, .aload_n 0, 1), (101, .getfield 148, 3), (104, .iload_n 1, 1), (105, .aload_n 0, 1), (106, .getfield 29, 3), (109, .iload_n 1, 1), (110, .iaload, 1), (111, .iastore, 1), (112, .aload_n 0, 1), (113, .getfield 151, 3), (116, .iload_n 1, 1), (117, .aload_n 0, 1), (118, .getfield 35, 3), (121, .iload_n 1, 1), (122, .iaload, 1), (123, .iastore, 1), (124, .iconst 0, 1), (125, .istore_n 2, 1), (126, .iload_n 2, 1), (127, .aload_n 0, 1), (128, .getfield 35, 3), (131, .iload_n 1, 1), (132, .iaload, 1), (133, .if_icmp .ge 33, 3), (136, .aload_n 0, 1), (137, .getfield 154, 3), (140, .bipush 8, 2), (142, .iload_n 1, 1), (143, .imul, 1), (144, .iload_n 2, 1), (145, .iadd, 1), (146, .aload_n 0, 1), (147, .getfield 44, 3), (150, .aload_n 0, 1), (151, .getfield 32, 3), (154, .iload_n 1, 1), (155, .iaload, 1), (156, .iload_n 2, 1), (157, .iadd, 1), (158, .iaload, 1), (159, .iastore, 1), (160, .iinc 2 1, 3), (163, .goto (-37), 3), (166, .iinc 1 1, 3), (169, .goto (-77), 3), (172, .iconst 0, 1), (173, .istore_n 1, 1), (174, .iload_n 1, 1), (175, .aload_n 0, 1), (176, .getfield 369, 3), (179, .if_icmp .ge 83, 3), (182, .aload_n 0, 1), (183, .getfield 160, 3), (186, .iload_n 1, 1), (187, .aload_n 0, 1), (188, .getfield 106, 3), (191, .iload_n 1, 1), (192, .iaload, 1), (193, .iastore, 1), (194, .aload_n 0, 1), (195, .dup, 1), (196, .getfield 448, 3), (199, .aload_n 0, 1), (200, .getfield 109, 3), (203, .iload_n 1, 1), (204, .baload, 1), (205, .ifCond .eq 7, 3), (208, .iconst 1, 1), (209, .goto 4, 3), (212, .iconst 0, 1), (213, .iadd, 1), (214, .putfield 448, 3), (217, .iconst 0, 1), (218, .istore_n 2, 1), (219, .iload_n 2, 1), (220, .sipush 128, 3), (223, .if_icmp .ge 33, 3), (226, .aload_n 0, 1), (227, .getfield 157, 3), (230, .sipush 128, 3), (233, .iload_n 1, 1), (234, .imul, 1), (235, .iload_n 2, 1), (236, .iadd, 1), (237, .aload_n 0, 1), (238, .getfield 103, 3), (241, .sipush 128, 3), (244, .iload_n 1, 1), (245, .imul, 1), (246, .iload_n 2, 1), (247, .iadd, 1), (248, .iaload, 1), (249, .iastore, 1), (250, .iinc 2 1, 3), (253, .goto (-34), 3), (256, .iinc 1 1, 3), (259, .goto (-85), 3), (262, .iconst 0, 1), (263, .istore_n 1, 1), (264, .iload_n 1, 1), (265, .aload_n 0, 1), (266, .getfield 271, 3), (269, .if_icmp .ge 95, 3), (272, .aload_n 0, 1), (273, .getfield 163, 3), (276, .iload_n 1, 1), (277, .aload_n 0, 1), (278, .getfield 124, 3), (281, .iload_n 1, 1), (282, .baload, 1), (283, .bastore, 1), (284, .aload_n 0, 1), (285, .getfield 166, 3), (288, .iload_n 1, 1), (289, .aload_n 0, 1), (290, .getfield 133, 3), (293, .iload_n 1, 1), (294, .baload, 1), (295, .bastore, 1), (296, .aload_n 0, 1), (297, .getfield 169, 3), (300, .iload_n 1, 1), (301, .aload_n 0, 1), (302, .getfield 127, 3), (305, .iload_n 1, 1), (306, .iaload, 1), (307, .iastore, 1), (308, .aload_n 0, 1), (309, .getfield 172, 3), (312, .iload_n 1, 1), (313, .aload_n 0, 1), (314, .getfield 130, 3), (317, .iload_n 1, 1), (318, .iaload, 1), (319, .iastore, 1), (320, .iconst 0, 1), (321, .istore_n 2, 1), (322, .iload_n 2, 1), (323, .aload_n 0, 1), (324, .getfield 264, 3), (327, .if_icmp .gt 31, 3), (330, .aload_n 0, 1), (331, .getfield 175, 3), (334, .bipush 25, 2), (336, .iload_n 1, 1), (337, .imul, 1), (338, .iload_n 2, 1), (339, .iadd, 1), (340, .aload_n 0, 1), (341, .getfield 136, 3), (344, .bipush 25, 2), (346, .iload_n 1, 1), (347, .imul, 1), (348, .iload_n 2, 1), (349, .iadd, 1), (350, .iaload, 1), (351, .iastore, 1), (352, .iinc 2 1, 3), (355, .goto (-33), 3), (358, .iinc 1 1, 3), (361, .goto (-97), 3), (364, .aload_n 0, 1), (365, .iconst 0, 1), (366, .putfield 451, 3), (369, .aload_n 0, 1), (370, .invokevirtual 454, 3), (373, .return_, 1)]
def gx_m182 : am_M := (⟨"GrammarStreamModel", "keep", "()V"⟩, prog_14_method_48_code, 3, (Option.none : Option FieldType), 0, gx_r182)
theorem gx_d182 : gx_r182.all (fun q => decide (decode prog_14_method_48_code q.1 = .ok q.2)) = true := by decide +kernel
def gx_r183 : List (Nat × Instr × Nat) := [(0, .aload_n 0, 1), (1, .iconst 0, 1), (2, .putfield 475, 3), (5, .aload_n 0, 1), (6, .iconst 0, 1), (7, .putfield 478, 3), (10, .aload_n 0, 1), (11, .iconst (-1), 1), (12, .putfield 481, 3), (15, .aload_n 0, 1), (16, .iconst 0, 1), (17, .putfield 484, 3), (20, .aload_n 0, 1), (21, .iconst 0, 1), (22, .putfield 487, 3), (25, .aload_n 0, 1), (26, .iconst 0, 1), (27, .putfield 490, 3), (30, .aload_n 0, 1), (31, .iconst 0, 1), (32, .putfield 493, 3), (35, .aload_n 0, 1), (36, .iconst (-1), 1), (37, .putfield 496, 3), (40, .aload_n 0, 1), (41, .iconst 0, 1), (42, .putfield 499, 3), (45, .aload_n 0, 1), (46, .iconst 0, 1), (47, .putfield 502, 3), (50, .aload_n 0, 1), (51, .iconst 0, 1), (52, .putfield 505, 3), (55, .aload_n 0, 1), (56, .iconst 1, 1), (57, .putfield 508, 3), (60, .aload_n 0, 1), (61, .getfield 211, 3), (64, .iconst 0, 1), (65, .sipush (-1000), 3), (68, .iastore, 1), (69, .aload_n 0, 1), (70, .getfield 214, 3), (73, .iconst 0, 1), (74, .iconst (-1), 1), (75, .iastore, 1), (76, .aload_n 0, 1), (77, .getfield 217, 3), (80, .iconst 0, 1), (81, .iconst 0, 1), (82, .iastore, 1), (83, .return_, 1)]
def gx_m183 : am_M := (⟨"GrammarStreamModel", "clear", "()V"⟩, prog_14_method_64_code, 1, (Option.none : Option FieldType), 0, gx_r183)
theorem gx_d183 : gx_r183.all (fun q => decide (decode prog_14_method_64_code q.1 = .ok q.2)) = true := by decide +kernel
def gx_r184 : List (Nat × Instr × Nat) := [(0, .iload_n 1, 1), (1, .ifCond .ne 10, 3), (4, .aload_n 0, 1), (5, .getfield 403, 3), (8, .goto 16, 3), (11, .iload_n 1, 1), (12, .iconst 1, 1), (13, .if_icmp .ne 10, 3), (16, .aload_n 0, 1), (17, .getfield 406, 3), (20, .goto 4, 3), (23, .iconst (-1), 1), (24, .ireturn, 1)]
def gx_m184 : am_M := (⟨"GrammarStreamModel", "fault", "(I)I"⟩, prog_14_method_49_code, 2, (Option.some FieldType.int), 1, gx_r184)
theorem gx_d184 : gx_r184.all (fun q => decide (decode prog_14_method_49_code q.1 = .ok q.2)) = true := by decide +kernel
end
section
def gx_r185 : List (Nat × Instr × Nat) := [(0, .aload_n 0, 1), (1, .getfield 409, 3), (4, .ifCond .eq 21, 3), (7, .iload_n 1, 1), (8, .ifCond .lt 17, 3), (11, .iload_n 1, 1), (12, .iconst 4, 1), (13, .if_icmp .ge 12, 3), (16, .aload_n 0, 1), (17, .getfield 139, 3), (20, .iload_n 1, 1), (21, .iaload, 1), (22, .goto 4, 3), (25, .iconst (-1), 1), (26, .ireturn, 1)]
def gx_m185 : am_M := (⟨"GrammarStreamModel", "conflict", "(I)I"⟩, prog_14_method_50_code, 2, (Option.some FieldType.int), 1, gx_r185)
theorem gx_d185 : gx_r185.all (fun q => decide (decode prog_14_method_50_code q.1 = .ok q.2)) = true := by decide +kernel
def gx_r186 : List (Nat × Instr × Nat) := [(0, .aload_n 0, 1), (1, .iload_n 1, 1), (2, .invokevirtual 457, 3), (5, .ifCond .eq 29, 3), (8, .aload_n 0, 1), (9, .iload_n 2, 1), (10, .invokevirtual 460, 3), (13, .ifCond .eq 21, 3), (16, .aload_n 0, 1), (17, .getfield 169, 3), (20, .iload_n 1, 1), (21, .iaload, 1), (22, .iload_n 2, 1), (23, .ishr, 1), (24, .iconst 1, 1), (25, .iand, 1), (26, .iconst 1, 1), (27, .if_icmp .ne 7, 3), (30, .iconst 1, 1), (31, .goto 4, 3), (34, .iconst 0, 1), (35, .ireturn, 1)]
def gx_m186 : am_M := (⟨"GrammarStreamModel", "first", "(II)Z"⟩, prog_14_method_54_code, 3, (Option.some FieldType.boolean), 2, gx_r186)
theorem gx_d186 : gx_r186.all (fun q => decide (decode prog_14_method_54_code q.1 = .ok q.2)) = true := by decide +kernel
def gx_r187 : List (Nat × Instr × Nat) := [(0, .aload_n 0, 1), (1, .getfield 430, 3), (4, .ifCond .eq 19, 3), (7, .iload_n 1, 1), (8, .ifCond .lt 15, 3), (11, .iload_n 1, 1), (12, .aload_n 0, 1), (13, .getfield 436, 3), (16, .if_icmp .ge 7, 3), (19, .iconst 1, 1), (20, .goto 4, 3), (23, .iconst 0, 1), (24, .ireturn, 1)]
def gx_m187 : am_M := (⟨"GrammarStreamModel", "isSymbol", "(I)Z"⟩, prog_14_method_51_code, 2, (Option.some FieldType.boolean), 1, gx_r187)
theorem gx_d187 : gx_r187.all (fun q => decide (decode prog_14_method_51_code q.1 = .ok q.2)) = true := by decide +kernel
def gx_r188 : List (Nat × Instr × Nat) := [(0, .aload_n 0, 1), (1, .getfield 430, 3), (4, .ifCond .eq 19, 3), (7, .iload_n 1, 1), (8, .ifCond .lt 15, 3), (11, .iload_n 1, 1), (12, .aload_n 0, 1), (13, .getfield 433, 3), (16, .if_icmp .ge 7, 3), (19, .iconst 1, 1), (20, .goto 4, 3), (23, .iconst 0, 1), (24, .ireturn, 1)]
def gx_m188 : am_M := (⟨"GrammarStreamModel", "isToken", "(I)Z"⟩, prog_14_method_52_code, 2, (Option.some FieldType.boolean), 1, gx_r188)
theorem gx_d188 : gx_r188.all (fun q => decide (decode prog_14_method_52_code q.1 = .ok q.2)) = true := by decide +kernel
def gx_r189 : List (Nat × Instr × Nat) := [(0, .aload_n 0, 1), (1, .iload_n 1, 1), (2, .invokevirtual 457, 3), (5, .ifCond .eq 29, 3), (8, .aload_n 0, 1), (9, .iload_n 2, 1), (10, .invokevirtual 463, 3), (13, .ifCond .eq 21, 3), (16, .aload_n 0, 1), (17, .getfield 172, 3), (20, .iload_n 1, 1), (21, .iaload, 1), (22, .iload_n 2, 1), (23, .ishr, 1), (24, .iconst 1, 1), (25, .iand, 1), (26, .iconst 1, 1), (27, .if_icmp .ne 7, 3), (30, .iconst 1, 1), (31, .goto 4, 3), (34, .iconst 0, 1), (35, .ireturn, 1)]
def gx_m189 : am_M := (⟨"GrammarStreamModel", "follow", "(II)Z"⟩, prog_14_method_55_code, 3, (Option.some FieldType.boolean), 2, gx_r189)
theorem gx_d189 : gx_r189.all (fun q => decide (decode prog_14_method_55_code q.1 = .ok q.2)) = true := by decide +kernel
def gx_r190 : List (Nat × Instr × Nat) := [(0, .aload_n 0, 1), (1, .getfield 430, 3), (4, .ifCond .eq 19, 3), (7, .iload_n 1, 1), (8, .ifCond .lt 15, 3), (11, .iload_n 1, 1), (12, .aload_n 0, 1), (13, .getfield 433, 3), (16, .if_icmp .gt 7, 3), (19, .iconst 1, 1), (20, .goto 4, 3), (23, .iconst 0, 1), (24, .ireturn, 1)]
def gx_m190 : am_M := (⟨"GrammarStreamModel", "isTokenOrEnd", "(I)Z"⟩, prog_14_method_53_code, 2, (Option.some FieldType.boolean), 1, gx_r190)
theorem gx_d190 : gx_r190.all (fun q => decide (decode prog_14_method_53_code q.1 = .ok q.2)) = true := by decide +kernel
def gx_r191 : List (Nat × Instr × Nat) := [(0, .aload_n 0, 1), (1, .iload_n 1, 1), (2, .invokevirtual 457, 3), (5, .ifCond .eq 16, 3), (8, .aload_n 0, 1), (9, .getfield 163, 3), (12, .iload_n 1, 1), (13, .baload, 1), (14, .ifCond .eq 7, 3), (17, .iconst 1, 1), (18, .goto 4, 3), (21, .iconst 0, 1), (22, .ireturn, 1)]
def gx_m191 : am_M := (⟨"GrammarStreamModel", "empty", "(I)Z"⟩, prog_14_method_56_code, 2, (Option.some FieldType.boolean), 1, gx_r191)
theorem gx_d191 : gx_r191.all (fun q => decide (decode prog_14_method_56_code q.1 = .ok q.2)) = true := by decide +kernel
def gx_r192 : List (Nat × Instr × Nat) := [(0, .aload_n 0, 1), (1, .iload_n 1, 1), (2, .invokevirtual 457, 3), (5, .ifCond .eq 25, 3), (8, .aload_n 0, 1), (9, .iload_n 2, 1), (10, .invokevirtual 463, 3), (13, .ifCond .eq 17, 3), (16, .aload_n 0, 1), (17, .getfield 175, 3), (20, .bipush 25, 2), (22, .iload_n 1, 1), (23, .imul, 1), (24, .iload_n 2, 1), (25, .iadd, 1), (26, .iaload, 1), (27, .goto 4, 3), (30, .iconst (-1), 1), (31, .ireturn, 1)]
def gx_m192 : am_M := (⟨"GrammarStreamModel", "cell", "(II)I"⟩, prog_14_method_57_code, 3, (Option.some FieldType.int), 2, gx_r192)
theorem gx_d192 : gx_r192.all (fun q => decide (decode prog_14_method_57_code q.1 = .ok q.2)) = true := by decide +kernel
def gx_r193 : List (Nat × Instr × Nat) := [(0, .iload_n 1, 1), (1, .tableswitch 78 0 6 #[43, 48, 53, 58, 63, 68, 73], 43), (44, .aload_n 0, 1), (45, .getfield 433, 3), (48, .ireturn, 1), (49, .aload_n 0, 1), (50, .getfield 436, 3), (53, .ireturn, 1), (54, .aload_n 0, 1), (55, .getfield 439, 3), (58, .ireturn, 1), (59, .aload_n 0, 1), (60, .getfield 442, 3), (63, .ireturn, 1), (64, .aload_n 0, 1), (65, .getfield 445, 3), (68, .ireturn, 1), (69, .aload_n 0, 1), (70, .getfield 448, 3), (73, .ireturn, 1), (74, .aload_n 0, 1), (75, .getfield 223, 3), (78, .ireturn, 1), (79, .iconst (-1), 1), (80, .ireturn, 1)]
def gx_m193 : am_M := (⟨"GrammarStreamModel", "many", "(I)I"⟩, prog_14_method_58_code, 2, (Option.some FieldType.int), 1, gx_r193)
theorem gx_d193 : gx_r193.all (fun q => decide (decode prog_14_method_58_code q.1 = .ok q.2)) = true := by decide +kernel
def gx_r194 : List (Nat × Instr × Nat) := [(0, .iload_n 1, 1), (1, .ifCond .lt 32, 3), (4, .iload_n 1, 1), (5, .aload_n 0, 1), (6, .getfield 439, 3), (9, .if_icmp .ge 24, 3), (12, .iload_n 2, 1), (13, .ifCond .lt 20, 3), (16, .iload_n 2, 1), (17, .iconst 1, 1), (18, .if_icmp .le 17, 3), (21, .iload_n 2, 1), (22, .iconst 2, 1), (23, .isub, 1), (24, .aload_n 0, 1), (25, .getfield 151, 3), (28, .iload_n 1, 1), (29, .iaload, 1), (30, .if_icmp .lt 5, 3), (33, .iconst (-1), 1), (34, .ireturn, 1), (35, .iload_n 2, 1), (36, .ifCond .ne 12, 3), (39, .aload_n 0, 1), (40, .getfield 148, 3), (43, .iload_n 1, 1), (44, .iaload, 1), (45, .goto 30, 3), (48, .iload_n 2, 1), (49, .iconst 1, 1), (50, .if_icmp .ne 12, 3), (53, .aload_n 0, 1), (54, .getfield 151, 3), (57, .iload_n 1, 1), (58, .iaload, 1), (59, .goto 16, 3), (62, .aload_n 0, 1), (63, .getfield 154, 3), (66, .bipush 8, 2), (68, .iload_n 1, 1), (69, .imul, 1), (70, .iload_n 2, 1), (71, .iadd, 1), (72, .iconst 2, 1), (73, .isub, 1), (74, .iaload, 1), (75, .ireturn, 1)]
def gx_m194 : am_M := (⟨"GrammarStreamModel", "rule", "(II)I"⟩, prog_14_method_59_code, 3, (Option.some FieldType.int), 2, gx_r194)
theorem gx_d194 : gx_r194.all (fun q => decide (decode prog_14_method_59_code q.1 = .ok q.2)) = true := by decide +kernel
def gx_r195 : List (Nat × Instr × Nat) := [(0, .aload_n 0, 1), (1, .iload_n 1, 1), (2, .invokevirtual 460, 3), (5, .ifCond .eq 12, 3), (8, .iload_n 2, 1), (9, .ifCond .lt 8, 3), (12, .iload_n 2, 1), (13, .iconst 1, 1), (14, .if_icmp .le 5, 3), (17, .iconst (-1), 1), (18, .ireturn, 1), (19, .iload_n 2, 1), (20, .iconst 1, 1), (21, .if_icmp .ne 12, 3), (24, .aload_n 0, 1), (25, .getfield 145, 3), (28, .iload_n 1, 1), (29, .iaload, 1), (30, .goto 17, 3), (33, .aload_n 0, 1), (34, .getfield 142, 3), (37, .iload_n 1, 1), (38, .baload, 1), (39, .ifCond .eq 7, 3), (42, .iconst 1, 1), (43, .goto 4, 3), (46, .iconst 0, 1), (47, .ireturn, 1)]
def gx_m195 : am_M := (⟨"GrammarStreamModel", "token", "(II)I"⟩, prog_14_method_60_code, 3, (Option.some FieldType.int), 2, gx_r195)
theorem gx_d195 : gx_r195.all (fun q => decide (decode prog_14_method_60_code q.1 = .ok q.2)) = true := by decide +kernel
def gx_r196 : List (Nat × Instr × Nat) := [(0, .aload_n 0, 1), (1, .getfield 430, 3), (4, .ifCond .eq 13, 3), (7, .iload_n 1, 1), (8, .ifCond .lt 9, 3), (11, .iload_n 1, 1), (12, .bipush 40, 2), (14, .if_icmp .le 7, 3), (17, .ldc2_w 470, 3), (20, .lreturn, 1), (21, .aload_n 0, 1), (22, .getfield 451, 3), (25, .ifCond .ne 7, 3), (28, .aload_n 0, 1), (29, .invokevirtual 472, 3), (32, .aload_n 0, 1), (33, .getfield 178, 3), (36, .iload_n 1, 1), (37, .laload, 1), (38, .lreturn, 1)]
def gx_m196 : am_M := (⟨"GrammarStreamModel", "count", "(I)J"⟩, prog_14_method_63_code, 2, (Option.some FieldType.long), 1, gx_r196)
theorem gx_d196 : gx_r196.all (fun q => decide (decode prog_14_method_63_code q.1 = .ok q.2)) = true := by decide +kernel
def gx_r197 : List (Nat × Instr × Nat) := [(0, .aload_n 0, 1), (1, .iconst 1, 1), (2, .putfield 451, 3), (5, .iconst 0, 1), (6, .istore_n 1, 1), (7, .iload_n 1, 1), (8, .sipush 1230, 3), (11, .if_icmp .ge 16, 3), (14, .aload_n 0, 1), (15, .getfield 178, 3), (18, .iload_n 1, 1), (19, .lconst 0, 1), (20, .lastore, 1), (21, .iinc 1 1, 3), (24, .goto (-17), 3), (27, .iconst 0, 1), (28, .istore_n 1, 1), (29, .iload_n 1, 1), (30, .bipush 40, 2), (32, .if_icmp .gt 130, 3), (35, .iconst 1, 1), (36, .istore_n 2, 1), (37, .iload_n 2, 1), (38, .ifCond .eq 118, 3), (41, .iconst 0, 1), (42, .istore_n 2, 1), (43, .iconst 0, 1), (44, .istore_n 3, 1), (45, .iload_n 3, 1), (46, .aload_n 0, 1), (47, .getfield 436, 3), (50, .if_icmp .ge 103, 3), (53, .aload_n 0, 1), (54, .getfield 166, 3), (57, .iload_n 3, 1), (58, .baload, 1), (59, .ifCond .ne 6, 3), (62, .goto 85, 3), (65, .lconst 0, 1), (66, .lstore 4, 2), (68, .iconst 0, 1), (69, .istore 6, 2), (71, .iload 6, 2), (73, .aload_n 0, 1), (74, .getfield 439, 3), (77, .if_icmp .ge 32, 3), (80, .aload_n 0, 1), (81, .getfield 148, 3), (84, .iload 6, 2), (86, .iaload, 1), (87, .iload_n 3, 1), (88, .if_icmp .ne 15, 3), (91, .lload 4, 2), (93, .aload_n 0, 1), (94, .iload 6, 2), (96, .iload_n 1, 1), (97, .invokevirtual 466, 3), (100, .ladd, 1), (101, .lstore 4, 2), (103, .iinc 6 1, 3), (106, .goto (-35), 3), (109, .iload_n 2, 1), (110, .lload 4, 2), (112, .aload_n 0, 1), (113, .getfield 178, 3), (116, .bipush 41, 2), (118, .iload_n 3, 1), (119, .imul, 1), (120, .iload_n 1, 1), (121, .iadd, 1), (122, .laload, 1), (123, .lcmp, 1), (124, .ifCond .eq 7, 3), (127, .iconst 1, 1), (128, .goto 4, 3), (131, .iconst 0, 1), (132, .ior, 1), (133, .istore_n 2, 1), (134, .aload_n 0, 1), (135, .getfield 178, 3), (138, .bipush 41, 2), (140, .iload_n 3, 1), (141, .imul, 1), (142, .iload_n 1, 1), (143, .iadd, 1), (144, .lload 4, 2), (146, .lastore, 1), (147, .iinc 3 1, 3), (150, .goto (-105), 3), (153, .goto (-116), 3), (156, .iinc 1 1, 3), (159, .goto (-130), 3), (162, .return_, 1)]
def gx_m197 : am_M := (⟨"GrammarStreamModel", "countAll", "()V"⟩, prog_14_method_62_code, 7, (Option.none : Option FieldType), 0, gx_r197)
theorem gx_d197 : gx_r197.all (fun q => decide (decode prog_14_method_62_code q.1 = .ok q.2)) = true := by decide +kernel
def gx_r198 : List (Nat × Instr × Nat) := [(0, .iconst 0, 1), (1, .istore_n 3, 1), (2, .iload_n 3, 1), (3, .iload_n 2, 1), (4, .if_icmp .gt 24, 3), (7, .aload_n 0, 1), (8, .getfield 181, 3), (11, .iload_n 3, 1), (12, .iload_n 3, 1), (13, .ifCond .ne 7, 3), (16, .lconst 1, 1), (17, .goto 4, 3), (20, .lconst 0, 1), (21, .lastore, 1), (22, .iinc 3 1, 3), (25, .goto (-23), 3), (28, .iconst 0, 1), (29, .istore_n 3, 1), (30, .iload_n 3, 1), (31, .aload_n 0, 1), (32, .getfield 151, 3), (35, .iload_n 1, 1), (36, .iaload, 1), (37, .if_icmp .ge 155, 3), (40, .aload_n 0, 1), (41, .getfield 154, 3), (44, .bipush 8, 2), (46, .iload_n 1, 1), (47, .imul, 1), (48, .iload_n 3, 1), (49, .iadd, 1), (50, .iaload, 1), (51, .istore 4, 2), (53, .iconst 0, 1), (54, .istore 5, 2), (56, .iload 5, 2), (58, .iload_n 2, 1), (59, .if_icmp .gt 98, 3), (62, .aload_n 0, 1), (63, .getfield 184, 3), (66, .iload 5, 2), (68, .iload 4, 2), (70, .ifCond .lt 20, 3), (73, .iload 5, 2), (75, .ifCond .le 15, 3), (78, .aload_n 0, 1), (79, .getfield 181, 3), (82, .iload 5, 2), (84, .iconst 1, 1), (85, .isub, 1), (86, .laload, 1), (87, .goto 4, 3), (90, .lconst 0, 1), (91, .lastore, 1), (92, .iconst 0, 1), (93, .istore 6, 2), (95, .iload 6, 2), (97, .iload 5, 2), (99, .if_icmp .gt 52, 3), (102, .iload 4, 2), (104, .ifCond .ge 47, 3), (107, .aload_n 0, 1), (108, .getfield 184, 3), (111, .iload 5, 2), (113, .dup2, 1), (114, .laload, 1), (115, .aload_n 0, 1), (116, .getfield 181, 3), (119, .iload 5, 2), (121, .iload 6, 2), (123, .isub, 1), (124, .laload, 1), (125, .aload_n 0, 1), (126, .getfield 178, 3), (129, .bipush 41, 2), (131, .sipush (-1000), 3), (134, .iload 4, 2), (136, .isub, 1), (137, .imul, 1), (138, .iload 6, 2), (140, .iadd, 1), (141, .laload, 1), (142, .lmul, 1), (143, .ladd, 1), (144, .lastore, 1), (145, .iinc 6 1, 3), (148, .goto (-53), 3), (151, .iinc 5 1, 3), (154, .goto (-98), 3), (157, .iconst 0, 1), (158, .istore 5, 2), (160, .iload 5, 2), (162, .iload_n 2, 1), (163, .if_icmp .gt 23, 3), (166, .aload_n 0, 1), (167, .getfield 181, 3), (170, .iload 5, 2), (172, .aload_n 0, 1), (173, .getfield 184, 3), (176, .iload 5, 2), (178, .laload, 1), (179, .lastore, 1), (180, .iinc 5 1, 3), (183, .goto (-23), 3), (186, .iinc 3 1, 3), (189, .goto (-159), 3), (192, .aload_n 0, 1), (193, .getfield 181, 3), (196, .iload_n 2, 1), (197, .laload, 1), (198, .lreturn, 1)]
def gx_m198 : am_M := (⟨"GrammarStreamModel", "waysOf", "(II)J"⟩, prog_14_method_61_code, 7, (Option.some FieldType.long), 2, gx_r198)
theorem gx_d198 : gx_r198.all (fun q => decide (decode prog_14_method_61_code q.1 = .ok q.2)) = true := by decide +kernel
def gx_r199 : List (Nat × Instr × Nat) := [(0, .iload_n 3, 1), (1, .iconst 1, 1), (2, .if_icmp .lt 23, 3), (5, .iload_n 3, 1), (6, .bipush 8, 2), (8, .if_icmp .gt 17, 3), (11, .aload_n 0, 1), (12, .getfield 430, 3), (15, .ifCond .eq 10, 3), (18, .aload_n 0, 1), (19, .getfield 484, 3), (22, .ifCond .eq 5, 3), (25, .iconst (-1), 1), (26, .ireturn, 1), (27, .aload_n 0, 1), (28, .getfield 475, 3), (31, .iload_n 3, 1), (32, .iadd, 1), (33, .sipush 4000, 3), (36, .if_icmp .le 6, 3), (39, .bipush (-2), 2), (41, .ireturn, 1), (42, .iload_n 3, 1), (43, .iconst 1, 1), (44, .isub, 1), (45, .istore 4, 2), (47, .iload 4, 2), (49, .ifCond .lt 40, 3), (52, .aload_n 0, 1), (53, .getfield 187, 3), (56, .aload_n 0, 1), (57, .getfield 475, 3), (60, .lload_n 1, 1), (61, .bipush 8, 2), (63, .iload 4, 2), (65, .imul, 1), (66, .lshr, 1), (67, .ldc2_w 227, 3), (70, .land, 1), (71, .l2i, 1), (72, .iastore, 1), (73, .aload_n 0, 1), (74, .dup, 1), (75, .getfield 475, 3), (78, .iconst 1, 1), (79, .iadd, 1), (80, .putfield 475, 3), (83, .iinc 4 (-1), 3), (86, .goto (-39), 3), (89, .aload_n 0, 1), (90, .iconst 0, 1), (91, .invokevirtual 520, 3), (94, .aload_n 0, 1), (95, .getfield 478, 3), (98, .ireturn, 1)]
def gx_m199 : am_M := (⟨"GrammarStreamModel", "feed", "(JI)I"⟩, prog_14_method_68_code, 5, (Option.some FieldType.int), 2, gx_r199)
theorem gx_d199 : gx_r199.all (fun q => decide (decode prog_14_method_68_code q.1 = .ok q.2)) = true := by decide +kernel
def gx_r200 : List (Nat × Instr × Nat) := [(0, .aload_n 0, 1), (1, .getfield 478, 3), (4, .ifCond .ne 255, 3), (7, .iconst (-1), 1), (8, .istore_n 2, 1), (9, .aload_n 0, 1), (10, .getfield 490, 3), (13, .aload_n 0, 1), (14, .getfield 475, 3), (17, .if_icmp .ge 49, 3), (20, .aload_n 0, 1), (21, .getfield 187, 3), (24, .aload_n 0, 1), (25, .getfield 490, 3), (28, .iaload, 1), (29, .sipush 128, 3), (32, .if_icmp .ge 29, 3), (35, .aload_n 0, 1), (36, .getfield 157, 3), (39, .sipush 128, 3), (42, .aload_n 0, 1), (43, .getfield 493, 3), (46, .imul, 1), (47, .aload_n 0, 1), (48, .getfield 187, 3), (51, .aload_n 0, 1), (52, .getfield 490, 3), (55, .iaload, 1), (56, .iadd, 1), (57, .iaload, 1), (58, .goto 4, 3), (61, .iconst (-1), 1), (62, .istore_n 2, 1), (63, .goto 19, 3), (66, .iload_n 1, 1), (67, .ifCond .eq 14, 3), (70, .aload_n 0, 1), (71, .getfield 487, 3), (74, .aload_n 0, 1), (75, .getfield 475, 3), (78, .if_icmp .ne 4, 3), (81, .return_, 1), (82, .iload_n 2, 1), (83, .ifCond .lt 54, 3), (86, .aload_n 0, 1), (87, .iload_n 2, 1), (88, .putfield 493, 3), (91, .aload_n 0, 1), (92, .dup, 1), (93, .getfield 490, 3), (96, .iconst 1, 1), (97, .iadd, 1), (98, .putfield 490, 3), (101, .aload_n 0, 1), (102, .getfield 160, 3), (105, .aload_n 0, 1), (106, .getfield 493, 3), (109, .iaload, 1), (110, .ifCond .lt (-110), 3), (113, .aload_n 0, 1), (114, .aload_n 0, 1), (115, .getfield 490, 3), (118, .putfield 496, 3), (121, .aload_n 0, 1), (122, .aload_n 0, 1), (123, .getfield 160, 3), (126, .aload_n 0, 1), (127, .getfield 493, 3), (130, .iaload, 1), (131, .putfield 511, 3), (134, .goto (-134), 3), (137, .aload_n 0, 1), (138, .getfield 496, 3), (141, .iconst (-1), 1), (142, .if_icmp .ne 13, 3), (145, .aload_n 0, 1), (146, .iconst 1, 1), (147, .aload_n 0, 1), (148, .getfield 487, 3), (151, .invokevirtual 514, 3), (154, .return_, 1), (155, .aload_n 0, 1), (156, .getfield 487, 3), (159, .istore_n 3, 1), (160, .aload_n 0, 1), (161, .aload_n 0, 1), (162, .getfield 496, 3), (165, .putfield 487, 3), (168, .aload_n 0, 1), (169, .aload_n 0, 1), (170, .getfield 487, 3), (173, .putfield 490, 3), (176, .aload_n 0, 1), (177, .iconst 0, 1), (178, .putfield 493, 3), (181, .aload_n 0, 1), (182, .iconst (-1), 1), (183, .putfield 496, 3), (186, .aload_n 0, 1), (187, .getfield 142, 3), (190, .aload_n 0, 1), (191, .getfield 511, 3), (194, .baload, 1), (195, .ifCond .eq 6, 3), (198, .goto (-198), 3), (201, .aload_n 0, 1), (202, .getfield 190, 3), (205, .aload_n 0, 1), (206, .getfield 499, 3), (209, .aload_n 0, 1), (210, .getfield 511, 3), (213, .iastore, 1), (214, .aload_n 0, 1), (215, .getfield 193, 3), (218, .aload_n 0, 1), (219, .getfield 499, 3), (222, .iload_n 3, 1), (223, .iastore, 1), (224, .aload_n 0, 1), (225, .getfield 196, 3), (228, .aload_n 0, 1), (229, .getfield 499, 3), (232, .aload_n 0, 1), (233, .getfield 487, 3), (236, .iastore, 1), (237, .aload_n 0, 1), (238, .dup, 1), (239, .getfield 499, 3), (242, .iconst 1, 1), (243, .iadd, 1), (244, .putfield 499, 3), (247, .aload_n 0, 1), (248, .aload_n 0, 1), (249, .getfield 511, 3), (252, .iload_n 3, 1), (253, .invokevirtual 517, 3), (256, .goto (-256), 3), (259, .return_, 1)]
def gx_m200 : am_M := (⟨"GrammarStreamModel", "look", "(Z)V"⟩, prog_14_method_66_code, 4, (Option.none : Option FieldType), 1, gx_r200)
theorem gx_d200 : gx_r200.all (fun q => decide (decode prog_14_method_66_code q.1 = .ok q.2)) = true := by decide +kernel
def gx_r201 : List (Nat × Instr × Nat) := [(0, .aload_n 0, 1), (1, .iload_n 1, 1), (2, .putfield 478, 3), (5, .aload_n 0, 1), (6, .iload_n 2, 1), (7, .putfield 481, 3), (10, .return_, 1)]
def gx_m201 : am_M := (⟨"GrammarStreamModel", "fail", "(II)V"⟩, prog_14_method_65_code, 3, (Option.none : Option FieldType), 2, gx_r201)
theorem gx_d201 : gx_r201.all (fun q => decide (decode prog_14_method_65_code q.1 = .ok q.2)) = true := by decide +kernel
def gx_r202 : List (Nat × Instr × Nat) := [(0, .aload_n 0, 1), (1, .getfield 508, 3), (4, .ifCond .le 248, 3), (7, .aload_n 0, 1), (8, .getfield 211, 3), (11, .aload_n 0, 1), (12, .getfield 508, 3), (15, .iconst 1, 1), (16, .isub, 1), (17, .iaload, 1), (18, .ifCond .ge 234, 3), (21, .aload_n 0, 1), (22, .getfield 175, 3), (25, .bipush 25, 2), (27, .sipush (-1000), 3), (30, .aload_n 0, 1), (31, .getfield 211, 3), (34, .aload_n 0, 1), (35, .getfield 508, 3), (38, .iconst 1, 1), (39, .isub, 1), (40, .iaload, 1), (41, .isub, 1), (42, .imul, 1), (43, .iload_n 1, 1), (44, .iadd, 1), (45, .iaload, 1), (46, .istore_n 3, 1), (47, .iload_n 3, 1), (48, .ifCond .ge 10, 3), (51, .aload_n 0, 1), (52, .iconst 2, 1), (53, .iload_n 2, 1), (54, .invokevirtual 514, 3), (57, .return_, 1), (58, .aload_n 0, 1), (59, .getfield 502, 3), (62, .sipush 20000, 3), (65, .if_icmp .eq 22, 3), (68, .aload_n 0, 1), (69, .getfield 508, 3), (72, .iconst 1, 1), (73, .isub, 1), (74, .aload_n 0, 1), (75, .getfield 151, 3), (78, .iload_n 3, 1), (79, .iaload, 1), (80, .iadd, 1), (81, .sipush 6000, 3), (84, .if_icmp .le 10, 3), (87, .aload_n 0, 1), (88, .iconst 3, 1), (89, .iload_n 2, 1), (90, .invokevirtual 514, 3), (93, .return_, 1), (94, .aload_n 0, 1), (95, .dup, 1), (96, .getfield 508, 3), (99, .iconst 1, 1), (100, .isub, 1), (101, .putfield 508, 3), (104, .aload_n 0, 1), (105, .getfield 199, 3), (108, .aload_n 0, 1), (109, .getfield 502, 3), (112, .iload_n 3, 1), (113, .iastore, 1), (114, .aload_n 0, 1), (115, .getfield 202, 3), (118, .aload_n 0, 1), (119, .getfield 502, 3), (122, .aload_n 0, 1), (123, .getfield 214, 3), (126, .aload_n 0, 1), (127, .getfield 508, 3), (130, .iaload, 1), (131, .iastore, 1), (132, .aload_n 0, 1), (133, .getfield 205, 3), (136, .aload_n 0, 1), (137, .getfield 502, 3), (140, .aload_n 0, 1), (141, .getfield 217, 3), (144, .aload_n 0, 1), (145, .getfield 508, 3), (148, .iaload, 1), (149, .iastore, 1), (150, .aload_n 0, 1), (151, .getfield 208, 3), (154, .aload_n 0, 1), (155, .getfield 502, 3), (158, .aload_n 0, 1), (159, .getfield 505, 3), (162, .iastore, 1), (163, .aload_n 0, 1), (164, .getfield 151, 3), (167, .iload_n 3, 1), (168, .iaload, 1), (169, .iconst 1, 1), (170, .isub, 1), (171, .istore 4, 2), (173, .iload 4, 2), (175, .ifCond .lt 64, 3), (178, .aload_n 0, 1), (179, .getfield 211, 3), (182, .aload_n 0, 1), (183, .getfield 508, 3), (186, .aload_n 0, 1), (187, .getfield 154, 3), (190, .bipush 8, 2), (192, .iload_n 3, 1), (193, .imul, 1), (194, .iload 4, 2), (196, .iadd, 1), (197, .iaload, 1), (198, .iastore, 1), (199, .aload_n 0, 1), (200, .getfield 214, 3), (203, .aload_n 0, 1), (204, .getfield 508, 3), (207, .aload_n 0, 1), (208, .getfield 502, 3), (211, .iastore, 1), (212, .aload_n 0, 1), (213, .getfield 217, 3), (216, .aload_n 0, 1), (217, .getfield 508, 3), (220, .iload 4, 2), (222, .iastore, 1), (223, .aload_n 0, 1), (224, .dup, 1), (225, .getfield 508, 3), (228, .iconst 1, 1), (229, .iadd, 1), (230, .putfield 508, 3), (233, .iinc 4 (-1), 3), (236, .goto (-63), 3), (239, .aload_n 0, 1), (240, .dup, 1), (241, .getfield 502, 3), (244, .iconst 1, 1), (245, .iadd, 1), (246, .putfield 502, 3), (249, .goto (-249), 3), (252, .iload_n 1, 1), (253, .aload_n 0, 1), (254, .getfield 433, 3), (257, .if_icmp .ne 17, 3), (260, .aload_n 0, 1), (261, .getfield 508, 3), (264, .ifCond .le 9, 3), (267, .aload_n 0, 1), (268, .iconst 2, 1), (269, .iload_n 2, 1), (270, .invokevirtual 514, 3), (273, .return_, 1), (274, .aload_n 0, 1), (275, .getfield 508, 3), (278, .ifCond .eq 18, 3), (281, .aload_n 0, 1), (282, .getfield 211, 3), (285, .aload_n 0, 1), (286, .getfield 508, 3), (289, .iconst 1, 1), (290, .isub, 1), (291, .iaload, 1), (292, .iload_n 1, 1), (293, .if_icmp .eq 10, 3), (296, .aload_n 0, 1), (297, .iconst 2, 1), (298, .iload_n 2, 1), (299, .invokevirtual 514, 3), (302, .return_, 1), (303, .aload_n 0, 1), (304, .dup, 1), (305, .getfield 508, 3), (308, .iconst 1, 1), (309, .isub, 1), (310, .putfield 508, 3), (313, .aload_n 0, 1), (314, .dup, 1), (315, .getfield 505, 3), (318, .iconst 1, 1), (319, .iadd, 1), (320, .putfield 505, 3), (323, .return_, 1)]
def gx_m202 : am_M := (⟨"GrammarStreamModel", "parse", "(II)V"⟩, prog_14_method_67_code, 5, (Option.none : Option FieldType), 2, gx_r202)
theorem gx_d202 : gx_r202.all (fun q => decide (decode prog_14_method_67_code q.1 = .ok q.2)) = true := by decide +kernel
def gx_r203 : List (Nat × Instr × Nat) := [(0, .aload_n 0, 1), (1, .getfield 430, 3), (4, .ifCond .ne 5, 3), (7, .iconst (-1), 1), (8, .ireturn, 1), (9, .aload_n 0, 1), (10, .getfield 484, 3), (13, .ifCond .ne 32, 3), (16, .aload_n 0, 1), (17, .iconst 1, 1), (18, .putfield 484, 3), (21, .aload_n 0, 1), (22, .iconst 1, 1), (23, .invokevirtual 520, 3), (26, .aload_n 0, 1), (27, .getfield 478, 3), (30, .ifCond .ne 15, 3), (33, .aload_n 0, 1), (34, .aload_n 0, 1), (35, .getfield 433, 3), (38, .aload_n 0, 1), (39, .getfield 475, 3), (42, .invokevirtual 517, 3), (45, .aload_n 0, 1), (46, .getfield 478, 3), (49, .ireturn, 1)]
def gx_m203 : am_M := (⟨"GrammarStreamModel", "finish", "()I"⟩, prog_14_method_69_code, 1, (Option.some FieldType.int), 0, gx_r203)
theorem gx_d203 : gx_r203.all (fun q => decide (decode prog_14_method_69_code q.1 = .ok q.2)) = true := by decide +kernel
def gx_r204 : List (Nat × Instr × Nat) := [(0, .aload_n 0, 1), (1, .getfield 430, 3), (4, .ifCond .ne 5, 3), (7, .iconst (-1), 1), (8, .ireturn, 1), (9, .aload_n 0, 1), (10, .getfield 475, 3), (13, .istore_n 1, 1), (14, .aload_n 0, 1), (15, .invokevirtual 454, 3), (18, .iload_n 1, 1), (19, .ireturn, 1)]
def gx_m204 : am_M := (⟨"GrammarStreamModel", "reset", "()I"⟩, prog_14_method_70_code, 2, (Option.some FieldType.int), 0, gx_r204)
theorem gx_d204 : gx_r204.all (fun q => decide (decode prog_14_method_70_code q.1 = .ok q.2)) = true := by decide +kernel
def gx_r205 : List (Nat × Instr × Nat) := [(0, .iload_n 1, 1), (1, .tableswitch 97 0 6 #[43, 48, 53, 69, 82, 87, 92], 43), (44, .aload_n 0, 1), (45, .getfield 475, 3), (48, .ireturn, 1), (49, .aload_n 0, 1), (50, .getfield 478, 3), (53, .ireturn, 1), (54, .aload_n 0, 1), (55, .getfield 478, 3), (58, .ifCond .ne 7, 3), (61, .iconst (-1), 1), (62, .goto 7, 3), (65, .aload_n 0, 1), (66, .getfield 481, 3), (69, .ireturn, 1), (70, .aload_n 0, 1), (71, .getfield 484, 3), (74, .ifCond .eq 7, 3), (77, .iconst 1, 1), (78, .goto 4, 3), (81, .iconst 0, 1), (82, .ireturn, 1), (83, .aload_n 0, 1), (84, .getfield 499, 3), (87, .ireturn, 1), (88, .aload_n 0, 1), (89, .getfield 502, 3), (92, .ireturn, 1), (93, .aload_n 0, 1), (94, .getfield 508, 3), (97, .ireturn, 1), (98, .iconst (-1), 1), (99, .ireturn, 1)]
def gx_m205 : am_M := (⟨"GrammarStreamModel", "stream", "(I)I"⟩, prog_14_method_71_code, 2, (Option.some FieldType.int), 1, gx_r205)
theorem gx_d205 : gx_r205.all (fun q => decide (decode prog_14_method_71_code q.1 = .ok q.2)) = true := by decide +kernel
end
section
def gx_r206 : List (Nat × Instr × Nat) := [(0, .iload_n 1, 1), (1, .ifCond .lt 11, 3), (4, .iload_n 1, 1), (5, .aload_n 0, 1), (6, .getfield 499, 3), (9, .if_icmp .lt 5, 3), (12, .iconst (-1), 1), (13, .ireturn, 1), (14, .iload_n 2, 1), (15, .tableswitch 46 0 2 #[25, 32, 39], 25), (40, .aload_n 0, 1), (41, .getfield 190, 3), (44, .iload_n 1, 1), (45, .iaload, 1), (46, .ireturn, 1), (47, .aload_n 0, 1), (48, .getfield 193, 3), (51, .iload_n 1, 1), (52, .iaload, 1), (53, .ireturn, 1), (54, .aload_n 0, 1), (55, .getfield 196, 3), (58, .iload_n 1, 1), (59, .iaload, 1), (60, .ireturn, 1), (61, .iconst (-1), 1), (62, .ireturn, 1)]
def gx_m206 : am_M := (⟨"GrammarStreamModel", "found", "(II)I"⟩, prog_14_method_72_code, 3, (Option.some FieldType.int), 2, gx_r206)
theorem gx_d206 : gx_r206.all (fun q => decide (decode prog_14_method_72_code q.1 = .ok q.2)) = true := by decide +kernel
def gx_r207 : List (Nat × Instr × Nat) := [(0, .iload_n 1, 1), (1, .ifCond .lt 11, 3), (4, .iload_n 1, 1), (5, .aload_n 0, 1), (6, .getfield 502, 3), (9, .if_icmp .lt 5, 3), (12, .iconst (-1), 1), (13, .ireturn, 1), (14, .iload_n 2, 1), (15, .tableswitch 57 0 3 #[29, 36, 43, 50], 29), (44, .aload_n 0, 1), (45, .getfield 199, 3), (48, .iload_n 1, 1), (49, .iaload, 1), (50, .ireturn, 1), (51, .aload_n 0, 1), (52, .getfield 202, 3), (55, .iload_n 1, 1), (56, .iaload, 1), (57, .ireturn, 1), (58, .aload_n 0, 1), (59, .getfield 205, 3), (62, .iload_n 1, 1), (63, .iaload, 1), (64, .ireturn, 1), (65, .aload_n 0, 1), (66, .getfield 208, 3), (69, .iload_n 1, 1), (70, .iaload, 1), (71, .ireturn, 1), (72, .iconst (-1), 1), (73, .ireturn, 1)]
def gx_m207 : am_M := (⟨"GrammarStreamModel", "noted", "(II)I"⟩, prog_14_method_73_code, 3, (Option.some FieldType.int), 2, gx_r207)
theorem gx_d207 : gx_r207.all (fun q => decide (decode prog_14_method_73_code q.1 = .ok q.2)) = true := by decide +kernel
def gx_r208 : List (Nat × Instr × Nat) := [(0, .aload_n 0, 1), (1, .iload_n 1, 1), (2, .invokevirtual 463, 3), (5, .ifCond .eq 17, 3), (8, .aload_n 0, 1), (9, .getfield 478, 3), (12, .ifCond .gt 10, 3), (15, .aload_n 0, 1), (16, .getfield 484, 3), (19, .ifCond .eq 5, 3), (22, .iconst 0, 1), (23, .ireturn, 1), (24, .aload_n 0, 1), (25, .getfield 508, 3), (28, .istore_n 2, 1), (29, .aload_n 0, 1), (30, .getfield 502, 3), (33, .istore_n 3, 1), (34, .iconst 0, 1), (35, .istore 4, 2), (37, .iload 4, 2), (39, .iload_n 2, 1), (40, .if_icmp .ge 23, 3), (43, .aload_n 0, 1), (44, .getfield 220, 3), (47, .iload 4, 2), (49, .aload_n 0, 1), (50, .getfield 211, 3), (53, .iload 4, 2), (55, .iaload, 1), (56, .iastore, 1), (57, .iinc 4 1, 3), (60, .goto (-23), 3), (63, .iload_n 2, 1), (64, .ifCond .le 122, 3), (67, .aload_n 0, 1), (68, .getfield 220, 3), (71, .iload_n 2, 1), (72, .iconst 1, 1), (73, .isub, 1), (74, .iaload, 1), (75, .ifCond .ge 111, 3), (78, .aload_n 0, 1), (79, .getfield 175, 3), (82, .bipush 25, 2), (84, .sipush (-1000), 3), (87, .aload_n 0, 1), (88, .getfield 220, 3), (91, .iload_n 2, 1), (92, .iconst 1, 1), (93, .isub, 1), (94, .iaload, 1), (95, .isub, 1), (96, .imul, 1), (97, .iload_n 1, 1), (98, .iadd, 1), (99, .iaload, 1), (100, .istore 4, 2), (102, .iload 4, 2), (104, .ifCond .lt 27, 3), (107, .iload_n 3, 1), (108, .sipush 20000, 3), (111, .if_icmp .eq 20, 3), (114, .iload_n 2, 1), (115, .iconst 1, 1), (116, .isub, 1), (117, .aload_n 0, 1), (118, .getfield 151, 3), (121, .iload 4, 2), (123, .iaload, 1), (124, .iadd, 1), (125, .sipush 6000, 3), (128, .if_icmp .le 5, 3), (131, .iconst 0, 1), (132, .ireturn, 1), (133, .iinc 2 (-1), 3), (136, .aload_n 0, 1), (137, .getfield 151, 3), (140, .iload 4, 2), (142, .iaload, 1), (143, .iconst 1, 1), (144, .isub, 1), (145, .istore 5, 2), (147, .iload 5, 2), (149, .ifCond .lt 31, 3), (152, .aload_n 0, 1), (153, .getfield 220, 3), (156, .iload_n 2, 1), (157, .aload_n 0, 1), (158, .getfield 154, 3), (161, .bipush 8, 2), (163, .iload 4, 2), (165, .imul, 1), (166, .iload 5, 2), (168, .iadd, 1), (169, .iaload, 1), (170, .iastore, 1), (171, .iinc 2 1, 3), (174, .iinc 5 (-1), 3), (177, .goto (-30), 3), (180, .iinc 3 1, 3), (183, .goto (-120), 3), (186, .iload_n 1, 1), (187, .aload_n 0, 1), (188, .getfield 433, 3), (191, .if_icmp .ne 15, 3), (194, .iload_n 2, 1), (195, .ifCond .ne 7, 3), (198, .iconst 1, 1), (199, .goto 28, 3), (202, .iconst 0, 1), (203, .goto 24, 3), (206, .iload_n 2, 1), (207, .ifCond .le 19, 3), (210, .aload_n 0, 1), (211, .getfield 220, 3), (214, .iload_n 2, 1), (215, .iconst 1, 1), (216, .isub, 1), (217, .iaload, 1), (218, .iload_n 1, 1), (219, .if_icmp .ne 7, 3), (222, .iconst 1, 1), (223, .goto 4, 3), (226, .iconst 0, 1), (227, .ireturn, 1)]
def gx_m208 : am_M := (⟨"GrammarStreamModel", "expected", "(I)Z"⟩, prog_14_method_74_code, 6, (Option.some FieldType.boolean), 1, gx_r208)
theorem gx_d208 : gx_r208.all (fun q => decide (decode prog_14_method_74_code q.1 = .ok q.2)) = true := by decide +kernel
end
section
def am_ld (lv : am_L) (i : Nat) : Option Value := (lv.find? (fun q => q.1 == i)).map (fun q => q.2)
def am_s1 (lv : am_L) (i : Nat) (v : Value) : am_L := (i, v) :: lv.filter (fun q => !(q.1 == i) && !(q.1 + 1 == i && q.2.category == 2))
def am_s2 (lv : am_L) (i : Nat) (v : Value) : am_L := (i, v) :: lv.filter (fun q => !(q.1 == i) && (!(q.1 == i + 1) && !(q.1 + 1 == i && q.2.category == 2)))
/-- from places to addresses; an address that is none of the world's (the law's script) stands as it is, as .retAddr -/
def am_v (ad : Nat → Nat) : Value → Value
  | .ref i => .ref (ad i)
  | .retAddr a => .ref a
  | v => v
def am_q (ad : Nat → Nat) (q : Nat × Value) : Nat × Value := (q.1, am_v ad q.2)
def am_a (ad : Nat → Nat) (a : vp_A) : vp_A := match a with
  | (n, .inr (.inr (.inr (.inr f)))) => (n, .inr (.inr (.inr (.inr (fun j => (f j).map ad)))))
  | x => x
def am_c (ad : Nat → Nat) (ca : FieldType → ClassId) : am_C → va_E
  | .inl (ty, a) => .inl (ca ty, am_a ad a)
  | .inr (ci, fs) => .inr (ci, fs.map (am_v ad))
def am_w (ad : Nat → Nat) (ca : FieldType → ClassId) (H : am_H) : va_W := H.mapIdx (fun i c => (ad i, am_c ad ca c))
/-! stack and locals -/
def am_ps (lv : am_L) (n m : Nat) (v : Value) (st : List Value) : Option (am_L × List Value) := if n = m then some (lv, v :: st) else none
def am_gi (lv : am_L) (n m k : Nat) (st : List Value) : Option (am_L × List Value) := match am_ld lv k with
  | some (.int x) => am_ps lv n m (.int x) st
  | _ => none
def am_gl (lv : am_L) (n m k : Nat) (st : List Value) : Option (am_L × List Value) := match am_ld lv k with
  | some (.long x) => am_ps lv n m (.long x) st
  | _ => none
def am_ga (lv : am_L) (n m k : Nat) (st : List Value) : Option (am_L × List Value) := match am_ld lv k with
  | some (.ref x) => am_ps lv n m (.ref x) st
  | some .null => am_ps lv n m .null st
  | some (.retAddr x) => am_ps lv n m (.retAddr x) st
  | _ => none
def am_pi (lv : am_L) (nL n m k : Nat) (st : List Value) : Option (am_L × List Value) := match st with
  | .int x :: r => if n = m ∧ k < nL then some (am_s1 lv k (.int x), r) else none
  | _ => none
def am_pl (lv : am_L) (nL n m k : Nat) (st : List Value) : Option (am_L × List Value) := match st with
  | .long x :: r => if n = m ∧ k + 1 < nL then some (am_s2 lv k (.long x), r) else none
  | _ => none
def am_pa (lv : am_L) (nL n m k : Nat) (st : List Value) : Option (am_L × List Value) := match st with
  | .ref x :: r => if n = m ∧ k < nL then some (am_s1 lv k (.ref x), r) else none
  | .null :: r => if n = m ∧ k < nL then some (am_s1 lv k .null, r) else none
  | _ => none
def am_inc (lv : am_L) (nL n k : Nat) (d : Int) (st : List Value) : Option (am_L × List Value) := match am_ld lv k with
  | some (.int x) => if n = 3 ∧ k < nL then some (am_s1 lv k (.int (x + Int32.ofInt d)), st) else none
  | _ => none
def am_i2 (lv : am_L) (n : Nat) (f : Int32 → Int32 → Option Int32) (st : List Value) : Option (am_L × List Value) := match st with
  | .int y :: .int x :: r => match f x y with
    | some z => if n = 1 then some (lv, .int z :: r) else none
    | none => none
  | _ => none
def am_l2 (lv : am_L) (n : Nat) (f : Int64 → Int64 → Int64) (st : List Value) : Option (am_L × List Value) := match st with
  | .long y :: .long x :: r => if n = 1 then some (lv, .long (f x y) :: r) else none
  | _ => none
def am_il (lv : am_L) (n : Nat) (f : Int64 → Int32 → Int64) (st : List Value) : Option (am_L × List Value) := match st with
  | .int y :: .long x :: r => if n = 1 then some (lv, .long (f x y) :: r) else none
  | _ => none
def am_u (lv : am_L) (n : Nat) (f : Value → Option Value) (st : List Value) : Option (am_L × List Value) := match st with
  | v :: r => match f v with
    | some w => if n = 1 then some (lv, w :: r) else none
    | none => none
  | _ => none
def am_dup (lv : am_L) (n : Nat) (st : List Value) : Option (am_L × List Value) := match st with
  | v :: r => if n = 1 ∧ v.category = 1 then some (lv, v :: v :: r) else none
  | _ => none
def am_pop (lv : am_L) (n : Nat) (st : List Value) : Option (am_L × List Value) := match st with
  | v :: r => if n = 1 ∧ v.category = 1 then some (lv, r) else none
  | _ => none
def am_pop2 (lv : am_L) (n : Nat) (st : List Value) : Option (am_L × List Value) := match st with
  | v :: r => if n = 1 ∧ v.category = 2 then some (lv, r) else none
  | _ => none
def am_dup2 (lv : am_L) (n : Nat) (st : List Value) : Option (am_L × List Value) := match st with
  | v :: w :: r => if n = 1 ∧ v.category = 1 ∧ w.category = 1 then some (lv, v :: w :: v :: w :: r) else none
  | _ => none
/-- one instruction on locals and stack alone -/
def am_stA (nL : Nat) (i : Instr) (n : Nat) (lv : am_L) (st : List Value) : Option (am_L × List Value) := match i with
  | .iconst v => am_ps lv n 1 (.int (Int32.ofInt v)) st
  | .bipush v => am_ps lv n 2 (.int (Int8.ofInt v).toInt32) st
  | .sipush v => am_ps lv n 3 (.int (Int16.ofInt v).toInt32) st
  | .lconst v => am_ps lv n 1 (.long (Int64.ofNat (v : Nat))) st
  | .aconst_null => am_ps lv n 1 .null st
  | .iload_n k => am_gi lv n 1 k st
  | .iload k => am_gi lv n 2 k st
  | .lload_n k => am_gl lv n 1 k st
  | .lload k => am_gl lv n 2 k st
  | .aload_n k => am_ga lv n 1 k st
  | .aload k => am_ga lv n 2 k st
  | .istore_n k => am_pi lv nL n 1 k st
  | .istore k => am_pi lv nL n 2 k st
  | .lstore_n k => am_pl lv nL n 1 k st
  | .lstore k => am_pl lv nL n 2 k st
  | .astore_n k => am_pa lv nL n 1 k st
  | .astore k => am_pa lv nL n 2 k st
  | .iinc k d => am_inc lv nL n k d st
  | .iadd => am_i2 lv n (fun x y => some (x + y)) st
  | .isub => am_i2 lv n (fun x y => some (x - y)) st
  | .imul => am_i2 lv n (fun x y => some (x * y)) st
  | .iand => am_i2 lv n (fun x y => some (x &&& y)) st
  | .ior => am_i2 lv n (fun x y => some (x ||| y)) st
  | .ixor => am_i2 lv n (fun x y => some (x ^^^ y)) st
  | .idiv => am_i2 lv n (fun x y => if y = 0 then none else some (x / y)) st
  | .irem => am_i2 lv n (fun x y => if y = 0 then none else some (x - x / y * y)) st
  | .ishl => am_i2 lv n (fun x y => some (x <<< (y &&& 31))) st
  | .ishr => am_i2 lv n (fun x y => some (x >>> (y &&& 31))) st
  | .iushr => am_i2 lv n (fun x y => some (x.toUInt32 >>> (y.toUInt32 &&& Int32.toUInt32 31)).toInt32) st
  | .ladd => am_l2 lv n (fun x y => x + y) st
  | .lsub => am_l2 lv n (fun x y => x - y) st
  | .lmul => am_l2 lv n (fun x y => x * y) st
  | .land => am_l2 lv n (fun x y => x &&& y) st
  | .lor => am_l2 lv n (fun x y => x ||| y) st
  | .lxor => am_l2 lv n (fun x y => x ^^^ y) st
  | .lshl => am_il lv n (fun x y => x <<< (y.toInt64 &&& 63)) st
  | .lshr => am_il lv n (fun x y => x >>> (y.toInt64 &&& 63)) st
  | .lushr => am_il lv n (fun x y => (x.toUInt64 >>> (y.toInt64.toUInt64 &&& Int64.toUInt64 63)).toInt64) st
  | .ineg => am_u lv n (fun v => match v with | .int x => some (.int (-x)) | _ => none) st
  | .i2l => am_u lv n (fun v => match v with | .int x => some (.long x.toInt64) | _ => none) st
  | .l2i => am_u lv n (fun v => match v with | .long x => some (.int x.toInt32) | _ => none) st
  | .lcmp => match st with
    | .long y :: .long x :: r => if n = 1 then some (lv, .int (lg_cmp x y) :: r) else none
    | _ => none
  | .dup => am_dup lv n st
  | .pop => am_pop lv n st
  | .pop2 => am_pop2 lv n st
  | .dup2 => am_dup2 lv n st
  | _ => none
/-! what the helpers say -/
theorem am_ps_inv {lv lv' : am_L} {n m : Nat} {v : Value} {st st' : List Value} (h : am_ps lv n m v st = some (lv', st')) : n = m ∧ lv' = lv ∧ st' = v :: st := by
  unfold am_ps at h
  split at h
  · cases h; exact ⟨by assumption, rfl, rfl⟩
  · cases h
theorem am_ld_mem {lv : am_L} {k : Nat} {v : Value} (h : am_ld lv k = some v) : (k, v) ∈ lv := by
  unfold am_ld at h
  cases hf : lv.find? (fun q => q.1 == k) with
  | none => rw [hf] at h; cases h
  | some q =>
    rw [hf] at h
    cases h
    have h1 := List.mem_of_find?_eq_some hf
    have h2 := List.find?_some hf
    have h3 : q.1 = k := by simpa using h2
    rw [← h3]
    exact h1
theorem am_ld_at {lv : am_L} {k : Nat} {v : Value} {ad : Nat → Nat} {ls : Array Slot} {nL : Nat} (h : am_ld lv k = some v) (hl : lv_has ls nL (lv.map (am_q ad))) : ls[k]? = some (.val (am_v ad v)) :=
  hl.2.2 (k, am_v ad v) (List.mem_map.mpr ⟨(k, v), am_ld_mem h, rfl⟩)
theorem am_v_cat (ad : Nat → Nat) (v : Value) : (am_v ad v).category = v.category := by cases v <;> rfl
theorem am_s1_map (ad : Nat → Nat) (lv : am_L) (i : Nat) (v : Value) : (i, am_v ad v) :: (lv.map (am_q ad)).filter (fun q => !(q.1 == i) && !(q.1 + 1 == i && q.2.category == 2)) = (am_s1 lv i v).map (am_q ad) := by
  unfold am_s1
  rw [List.map_cons, List.filter_map]
  congr 2
  apply List.filter_congr
  intro q _
  simp [am_q, am_v_cat]
theorem am_s2_map (ad : Nat → Nat) (lv : am_L) (i : Nat) (v : Value) : (i, am_v ad v) :: (lv.map (am_q ad)).filter (fun q => !(q.1 == i) && (!(q.1 == i + 1) && !(q.1 + 1 == i && q.2.category == 2))) = (am_s2 lv i v).map (am_q ad) := by
  unfold am_s2
  rw [List.map_cons, List.filter_map]
  congr 2
  apply List.filter_congr
  intro q _
  simp [am_q, am_v_cat]
theorem am_gi_inv {lv lv' : am_L} {n m k : Nat} {st st' : List Value} (h : am_gi lv n m k st = some (lv', st')) : ∃ x : Int32, am_ld lv k = some (.int x) ∧ n = m ∧ lv' = lv ∧ st' = .int x :: st := by
  unfold am_gi at h
  split at h
  · exact ⟨_, by assumption, am_ps_inv h⟩
  · cases h
theorem am_gl_inv {lv lv' : am_L} {n m k : Nat} {st st' : List Value} (h : am_gl lv n m k st = some (lv', st')) : ∃ x : Int64, am_ld lv k = some (.long x) ∧ n = m ∧ lv' = lv ∧ st' = .long x :: st := by
  unfold am_gl at h
  split at h
  · exact ⟨_, by assumption, am_ps_inv h⟩
  · cases h
theorem am_ga_inv {lv lv' : am_L} {n m k : Nat} {st st' : List Value} (h : am_ga lv n m k st = some (lv', st')) : (∃ x : Nat, am_ld lv k = some (.ref x) ∧ n = m ∧ lv' = lv ∧ st' = .ref x :: st) ∨ (am_ld lv k = some .null ∧ n = m ∧ lv' = lv ∧ st' = .null :: st) ∨ (∃ x : Nat, am_ld lv k = some (.retAddr x) ∧ n = m ∧ lv' = lv ∧ st' = .retAddr x :: st) := by
  unfold am_ga at h
  split at h
  · exact Or.inl ⟨_, by assumption, am_ps_inv h⟩
  · exact Or.inr (Or.inl ⟨by assumption, am_ps_inv h⟩)
  · exact Or.inr (Or.inr ⟨_, by assumption, am_ps_inv h⟩)
  · cases h
theorem am_pi_inv {lv lv' : am_L} {nL n m k : Nat} {st st' : List Value} (h : am_pi lv nL n m k st = some (lv', st')) : ∃ x : Int32, st = .int x :: st' ∧ n = m ∧ k < nL ∧ lv' = am_s1 lv k (.int x) := by
  unfold am_pi at h
  split at h
  · split at h
    · rename_i hc
      cases h; exact ⟨_, rfl, hc.1, hc.2, rfl⟩
    · cases h
  · cases h
theorem am_pl_inv {lv lv' : am_L} {nL n m k : Nat} {st st' : List Value} (h : am_pl lv nL n m k st = some (lv', st')) : ∃ x : Int64, st = .long x :: st' ∧ n = m ∧ k + 1 < nL ∧ lv' = am_s2 lv k (.long x) := by
  unfold am_pl at h
  split at h
  · split at h
    · rename_i hc
      cases h; exact ⟨_, rfl, hc.1, hc.2, rfl⟩
    · cases h
  · cases h
theorem am_pa_inv {lv lv' : am_L} {nL n m k : Nat} {st st' : List Value} (h : am_pa lv nL n m k st = some (lv', st')) : (∃ x : Nat, st = .ref x :: st' ∧ n = m ∧ k < nL ∧ lv' = am_s1 lv k (.ref x)) ∨ (st = .null :: st' ∧ n = m ∧ k < nL ∧ lv' = am_s1 lv k .null) := by
  unfold am_pa at h
  split at h
  · split at h
    · rename_i hc
      cases h; exact Or.inl ⟨_, rfl, hc.1, hc.2, rfl⟩
    · cases h
  · split at h
    · rename_i hc
      cases h; exact Or.inr ⟨rfl, hc.1, hc.2, rfl⟩
    · cases h
  · cases h
theorem am_inc_inv {lv lv' : am_L} {nL n k : Nat} {d : Int} {st st' : List Value} (h : am_inc lv nL n k d st = some (lv', st')) : ∃ x : Int32, am_ld lv k = some (.int x) ∧ n = 3 ∧ k < nL ∧ lv' = am_s1 lv k (.int (x + Int32.ofInt d)) ∧ st' = st := by
  unfold am_inc at h
  split at h
  · split at h
    · rename_i hc
      cases h; exact ⟨_, by assumption, hc.1, hc.2, rfl, rfl⟩
    · cases h
  · cases h
theorem am_i2_inv {lv lv' : am_L} {n : Nat} {f : Int32 → Int32 → Option Int32} {st st' : List Value} (h : am_i2 lv n f st = some (lv', st')) : ∃ (x y z : Int32) (r : List Value), f x y = some z ∧ st = .int y :: .int x :: r ∧ n = 1 ∧ lv' = lv ∧ st' = .int z :: r := by
  unfold am_i2 at h
  split at h
  · split at h
    · split at h
      · cases h; exact ⟨_, _, _, _, by assumption, rfl, by assumption, rfl, rfl⟩
      · cases h
    · cases h
  · cases h
theorem am_l2_inv {lv lv' : am_L} {n : Nat} {f : Int64 → Int64 → Int64} {st st' : List Value} (h : am_l2 lv n f st = some (lv', st')) : ∃ (x y : Int64) (r : List Value), st = .long y :: .long x :: r ∧ n = 1 ∧ lv' = lv ∧ st' = .long (f x y) :: r := by
  unfold am_l2 at h
  split at h
  · split at h
    · cases h; exact ⟨_, _, _, rfl, by assumption, rfl, rfl⟩
    · cases h
  · cases h
theorem am_il_inv {lv lv' : am_L} {n : Nat} {f : Int64 → Int32 → Int64} {st st' : List Value} (h : am_il lv n f st = some (lv', st')) : ∃ (x : Int64) (y : Int32) (r : List Value), st = .int y :: .long x :: r ∧ n = 1 ∧ lv' = lv ∧ st' = .long (f x y) :: r := by
  unfold am_il at h
  split at h
  · split at h
    · cases h; exact ⟨_, _, _, rfl, by assumption, rfl, rfl⟩
    · cases h
  · cases h
theorem am_u_inv {lv lv' : am_L} {n : Nat} {f : Value → Option Value} {st st' : List Value} (h : am_u lv n f st = some (lv', st')) : ∃ (v w : Value) (r : List Value), f v = some w ∧ st = v :: r ∧ n = 1 ∧ lv' = lv ∧ st' = w :: r := by
  unfold am_u at h
  split at h
  · split at h
    · split at h
      · cases h; exact ⟨_, _, _, by assumption, rfl, by assumption, rfl, rfl⟩
      · cases h
    · cases h
  · cases h
theorem am_dup_inv {lv lv' : am_L} {n : Nat} {st st' : List Value} (h : am_dup lv n st = some (lv', st')) : ∃ (v : Value) (r : List Value), v.category = 1 ∧ st = v :: r ∧ n = 1 ∧ lv' = lv ∧ st' = v :: v :: r := by
  unfold am_dup at h
  split at h
  · split at h
    · rename_i hc
      cases h; exact ⟨_, _, hc.2, rfl, hc.1, rfl, rfl⟩
    · cases h
  · cases h
theorem am_pop_inv {lv lv' : am_L} {n : Nat} {st st' : List Value} (h : am_pop lv n st = some (lv', st')) : ∃ (v : Value), v.category = 1 ∧ st = v :: st' ∧ n = 1 ∧ lv' = lv := by
  unfold am_pop at h
  split at h
  · split at h
    · rename_i hc
      cases h; exact ⟨_, hc.2, rfl, hc.1, rfl⟩
    · cases h
  · cases h
theorem am_pop2_inv {lv lv' : am_L} {n : Nat} {st st' : List Value} (h : am_pop2 lv n st = some (lv', st')) : ∃ (v : Value), v.category = 2 ∧ st = v :: st' ∧ n = 1 ∧ lv' = lv := by
  unfold am_pop2 at h
  split at h
  · split at h
    · rename_i hc
      cases h; exact ⟨_, hc.2, rfl, hc.1, rfl⟩
    · cases h
  · cases h
theorem am_dup2_inv {lv lv' : am_L} {n : Nat} {st st' : List Value} (h : am_dup2 lv n st = some (lv', st')) : ∃ (v w : Value) (r : List Value), v.category = 1 ∧ w.category = 1 ∧ st = v :: w :: r ∧ n = 1 ∧ lv' = lv ∧ st' = v :: w :: v :: w :: r := by
  unfold am_dup2 at h
  split at h
  · split at h
    · rename_i hc
      cases h; exact ⟨_, _, _, hc.2.1, hc.2.2, rfl, hc.1, rfl, rfl⟩
    · cases h
  · cases h
section AMA
variable {p : Program} {l : Launch} {e : Env} {R : Room} {s : State} {m : MethodId} {args : Array Value} {below : List Frame} {meth : Method} {c : Code} {H : Heap} {locs : List Loc} {cells slots : Nat} {Q : State → Prop}
variable {cc : ByteArray} {pc : Nat} {ls : Array Slot} {ad : Nat → Nat}
set_option maxHeartbeats 4000000 in
/-- the machine follows: instructions on locals and stack alone -/
theorem am_sA {nL n : Nat} {i : Instr} {lv lv' : am_L} {st st' : List Value} (h : am_stA nL i n lv st = some (lv', st')) (hx : p.tables.exec = Jvm.exec) (hb : c.code = cc) (hdg : decode cc pc = .ok (i, n)) (hl : lv_has ls nL (lv.map (am_q ad)))
    (kk : ∀ ls' : Array Slot, lv_has ls' nL (lv'.map (am_q ad)) → W p l e R s m args below meth c H locs cells slots Q (F0 m (pc + n) ls' (st'.map (am_v ad)))) : W p l e R s m args below meth c H locs cells slots Q (F0 m pc ls (st.map (am_v ad))) := by
  cases i with
  | iconst v => obtain ⟨rfl, rfl, rfl⟩ := am_ps_inv h; exact lv_iconst hx hb hdg rfl (kk ls hl)
  | bipush v => obtain ⟨rfl, rfl, rfl⟩ := am_ps_inv h; exact lv_bipush hx hb hdg rfl (kk ls hl)
  | sipush v => obtain ⟨rfl, rfl, rfl⟩ := am_ps_inv h; exact lv_sipush hx hb hdg rfl (kk ls hl)
  | lconst v => obtain ⟨rfl, rfl, rfl⟩ := am_ps_inv h; exact lv_lconst hx hb hdg rfl (kk ls hl)
  | aconst_null => obtain ⟨rfl, rfl, rfl⟩ := am_ps_inv h; exact lv_null hx hb hdg (kk ls hl)
  | iload_n k => obtain ⟨x, h1, rfl, rfl, rfl⟩ := am_gi_inv h; exact lv_iload_n hx hb hdg rfl (am_ld_at h1 hl) (kk ls hl)
  | iload k => obtain ⟨x, h1, rfl, rfl, rfl⟩ := am_gi_inv h; exact lv_iload hx hb hdg (am_ld_at h1 hl) (kk ls hl)
  | lload_n k => obtain ⟨x, h1, rfl, rfl, rfl⟩ := am_gl_inv h; exact lv_lload_n hx hb hdg rfl (am_ld_at h1 hl) (kk ls hl)
  | lload k => obtain ⟨x, h1, rfl, rfl, rfl⟩ := am_gl_inv h; exact lv_lload hx hb hdg (am_ld_at h1 hl) (kk ls hl)
  | aload_n k =>
    rcases am_ga_inv h with ⟨x, h1, rfl, rfl, rfl⟩ | ⟨h1, rfl, rfl, rfl⟩ | ⟨x, h1, rfl, rfl, rfl⟩
    · exact lv_aload_n hx hb hdg rfl (am_ld_at h1 hl) (kk ls hl)
    · exact lv_aload_nN hx hb hdg rfl (am_ld_at h1 hl) (kk ls hl)
    · exact lv_aload_n hx hb hdg rfl (am_ld_at h1 hl) (kk ls hl)
  | aload k =>
    rcases am_ga_inv h with ⟨x, h1, rfl, rfl, rfl⟩ | ⟨h1, rfl, rfl, rfl⟩ | ⟨x, h1, rfl, rfl, rfl⟩
    · exact lv_aload hx hb hdg (am_ld_at h1 hl) (kk ls hl)
    · exact lv_aloadN hx hb hdg (am_ld_at h1 hl) (kk ls hl)
    · exact lv_aload hx hb hdg (am_ld_at h1 hl) (kk ls hl)
  | istore_n k => obtain ⟨x, rfl, rfl, hk, rfl⟩ := am_pi_inv h; exact lv_istore_n hx hb hdg rfl hl hk (am_s1_map ad lv k (.int x)) kk
  | istore k => obtain ⟨x, rfl, rfl, hk, rfl⟩ := am_pi_inv h; exact lv_istore hx hb hdg hl hk (am_s1_map ad lv k (.int x)) kk
  | lstore_n k => obtain ⟨x, rfl, rfl, hk, rfl⟩ := am_pl_inv h; exact lv_lstore_n hx hb hdg rfl hl hk (am_s2_map ad lv k (.long x)) kk
  | lstore k => obtain ⟨x, rfl, rfl, hk, rfl⟩ := am_pl_inv h; exact lv_lstore hx hb hdg hl hk (am_s2_map ad lv k (.long x)) kk
  | astore_n k =>
    rcases am_pa_inv h with ⟨x, rfl, rfl, hk, rfl⟩ | ⟨rfl, rfl, hk, rfl⟩
    · exact lv_astore_n hx hb hdg rfl hl hk (am_s1_map ad lv k (.ref x)) kk
    · exact lv_astore_nN hx hb hdg rfl hl hk (am_s1_map ad lv k .null) kk
  | astore k =>
    rcases am_pa_inv h with ⟨x, rfl, rfl, hk, rfl⟩ | ⟨rfl, rfl, hk, rfl⟩
    · exact lv_astore hx hb hdg hl hk (am_s1_map ad lv k (.ref x)) kk
    · exact lv_astoreN hx hb hdg hl hk (am_s1_map ad lv k .null) kk
  | iinc k d =>
    obtain ⟨x, h1, rfl, hk, rfl, rfl⟩ := am_inc_inv h
    obtain ⟨j, hj⟩ := List.getElem?_of_mem (List.mem_map.mpr ⟨(k, Value.int x), am_ld_mem h1, rfl⟩ : am_q ad (k, Value.int x) ∈ lv.map (am_q ad))
    exact lv_iinc hx hb hdg hl hj rfl hk (am_s1_map ad lv k (.int (x + Int32.ofInt d))) kk
  | iadd => obtain ⟨x, y, z, r, hz, rfl, rfl, rfl, rfl⟩ := am_i2_inv (show am_i2 lv n (fun x y => some (x + y)) st = some (lv', st') from h); cases hz; exact lv_iadd hx hb hdg (kk ls hl)
  | isub => obtain ⟨x, y, z, r, hz, rfl, rfl, rfl, rfl⟩ := am_i2_inv (show am_i2 lv n (fun x y => some (x - y)) st = some (lv', st') from h); cases hz; exact lv_isub hx hb hdg (kk ls hl)
  | imul => obtain ⟨x, y, z, r, hz, rfl, rfl, rfl, rfl⟩ := am_i2_inv (show am_i2 lv n (fun x y => some (x * y)) st = some (lv', st') from h); cases hz; exact lv_imul hx hb hdg (kk ls hl)
  | iand => obtain ⟨x, y, z, r, hz, rfl, rfl, rfl, rfl⟩ := am_i2_inv (show am_i2 lv n (fun x y => some (x &&& y)) st = some (lv', st') from h); cases hz; exact lv_iand hx hb hdg (kk ls hl)
  | ior => obtain ⟨x, y, z, r, hz, rfl, rfl, rfl, rfl⟩ := am_i2_inv (show am_i2 lv n (fun x y => some (x ||| y)) st = some (lv', st') from h); cases hz; exact lv_ior hx hb hdg (kk ls hl)
  | ixor => obtain ⟨x, y, z, r, hz, rfl, rfl, rfl, rfl⟩ := am_i2_inv (show am_i2 lv n (fun x y => some (x ^^^ y)) st = some (lv', st') from h); cases hz; exact lv_ixor hx hb hdg (kk ls hl)
  | idiv =>
    obtain ⟨x, y, z, r, hz, rfl, rfl, rfl, rfl⟩ := am_i2_inv h
    by_cases h0 : y = 0
    · rw [if_pos h0] at hz; cases hz
    · rw [if_neg h0] at hz; cases hz; exact lv_idiv hx hb hdg h0 (kk ls hl)
  | irem =>
    obtain ⟨x, y, z, r, hz, rfl, rfl, rfl, rfl⟩ := am_i2_inv h
    by_cases h0 : y = 0
    · rw [if_pos h0] at hz; cases hz
    · rw [if_neg h0] at hz; cases hz; exact lv_irem hx hb hdg h0 (kk ls hl)
  | ishl => obtain ⟨x, y, z, r, hz, rfl, rfl, rfl, rfl⟩ := am_i2_inv (show am_i2 lv n (fun x y => some (x <<< (y &&& 31))) st = some (lv', st') from h); cases hz; exact lv_ishl hx hb hdg (kk ls hl)
  | ishr => obtain ⟨x, y, z, r, hz, rfl, rfl, rfl, rfl⟩ := am_i2_inv (show am_i2 lv n (fun x y => some (x >>> (y &&& 31))) st = some (lv', st') from h); cases hz; exact lv_ishr hx hb hdg (kk ls hl)
  | iushr => obtain ⟨x, y, z, r, hz, rfl, rfl, rfl, rfl⟩ := am_i2_inv (show am_i2 lv n (fun x y => some (x.toUInt32 >>> (y.toUInt32 &&& Int32.toUInt32 31)).toInt32) st = some (lv', st') from h); cases hz; exact lv_iushr hx hb hdg rfl (kk ls hl)
  | ladd => obtain ⟨x, y, r, rfl, rfl, rfl, rfl⟩ := am_l2_inv (show am_l2 lv n (fun x y => x + y) st = some (lv', st') from h); exact lv_ladd hx hb hdg (kk ls hl)
  | lsub => obtain ⟨x, y, r, rfl, rfl, rfl, rfl⟩ := am_l2_inv (show am_l2 lv n (fun x y => x - y) st = some (lv', st') from h); exact lv_lsub hx hb hdg (kk ls hl)
  | lmul => obtain ⟨x, y, r, rfl, rfl, rfl, rfl⟩ := am_l2_inv (show am_l2 lv n (fun x y => x * y) st = some (lv', st') from h); exact lv_lmul hx hb hdg (kk ls hl)
  | land => obtain ⟨x, y, r, rfl, rfl, rfl, rfl⟩ := am_l2_inv (show am_l2 lv n (fun x y => x &&& y) st = some (lv', st') from h); exact lv_land hx hb hdg (kk ls hl)
  | lor => obtain ⟨x, y, r, rfl, rfl, rfl, rfl⟩ := am_l2_inv (show am_l2 lv n (fun x y => x ||| y) st = some (lv', st') from h); exact lv_lor hx hb hdg (kk ls hl)
  | lxor => obtain ⟨x, y, r, rfl, rfl, rfl, rfl⟩ := am_l2_inv (show am_l2 lv n (fun x y => x ^^^ y) st = some (lv', st') from h); exact lv_lxor hx hb hdg (kk ls hl)
  | lshl => obtain ⟨x, y, r, rfl, rfl, rfl, rfl⟩ := am_il_inv h; exact lv_lshl hx hb hdg rfl (kk ls hl)
  | lshr => obtain ⟨x, y, r, rfl, rfl, rfl, rfl⟩ := am_il_inv h; exact lv_lshr hx hb hdg rfl (kk ls hl)
  | lushr => obtain ⟨x, y, r, rfl, rfl, rfl, rfl⟩ := am_il_inv h; exact lv_lushr hx hb hdg rfl (kk ls hl)
  | ineg =>
    obtain ⟨v, w, r, hw, rfl, rfl, rfl, rfl⟩ := am_u_inv h
    cases v <;> cases hw
    exact lv_ineg hx hb hdg (kk ls hl)
  | i2l =>
    obtain ⟨v, w, r, hw, rfl, rfl, rfl, rfl⟩ := am_u_inv h
    cases v <;> cases hw
    exact lv_i2l hx hb hdg rfl (kk ls hl)
  | l2i =>
    obtain ⟨v, w, r, hw, rfl, rfl, rfl, rfl⟩ := am_u_inv h
    cases v <;> cases hw
    exact lv_l2i hx hb hdg rfl (kk ls hl)
  | lcmp =>
    dsimp only [am_stA] at h
    split at h
    · split at h
      · rename_i h1
        subst h1
        cases h
        exact W.lcmp hx hb hdg (kk ls hl)
      · cases h
    · cases h
  | dup => obtain ⟨v, r, hc, rfl, rfl, rfl, rfl⟩ := am_dup_inv h; exact lv_dup hx hb hdg (by rw [am_v_cat]; exact hc) (kk ls hl)
  | pop => obtain ⟨v, hc, rfl, rfl, rfl⟩ := am_pop_inv h; exact lv_pop hx hb hdg (by rw [am_v_cat]; exact hc) (kk ls hl)
  | pop2 => obtain ⟨v, hc, rfl, rfl, rfl⟩ := am_pop2_inv h; exact lv_pop2_2 hx hb hdg (by rw [am_v_cat]; exact hc) (kk ls hl)
  | dup2 => obtain ⟨v, w, r, h1, h2, rfl, rfl, rfl, rfl⟩ := am_dup2_inv h; exact lv_dup2_11 hx hb hdg (by rw [am_v_cat]; exact h1) (by rw [am_v_cat]; exact h2) (kk ls hl)
  | _ => cases h
end AMA
end
section
/-! branches -/
def am_jp (pc : Nat) (off : Int) : Option Nat := if 0 ≤ (pc : Int) + off then some ((pc : Int) + off).toNat else none
def am_br (n pc : Nat) (off : Int) (b : Bool) (st : List Value) : Option (Nat × List Value) := match am_jp pc off with
  | some t => if n = 3 then some (if b = true then t else pc + 3, st) else none
  | none => none
def am_if1 (k : ClassFile.Cond) (x : Int32) : Bool := match k with
  | .eq => decide (x = 0)
  | .ne => decide (¬ x = 0)
  | .lt => decide (x < 0)
  | .ge => decide (0 ≤ x)
  | .gt => decide (0 < x)
  | .le => decide (x ≤ 0)
def am_if2 (k : ClassFile.Cond) (x y : Int32) : Bool := match k with
  | .eq => decide (x = y)
  | .ne => decide (¬ x = y)
  | .lt => decide (x < y)
  | .ge => decide (y ≤ x)
  | .gt => decide (y < x)
  | .le => decide (x ≤ y)
def am_jmp (pc : Nat) (off : Int) (st : List Value) : Option (Nat × List Value) := match am_jp pc off with
  | some t => some (t, st)
  | none => none
def am_stB (i : Instr) (n pc : Nat) (st : List Value) : Option (Nat × List Value) := match i with
  | .ifCond k off => match st with
    | .int x :: r => am_br n pc off (am_if1 k x) r
    | _ => none
  | .if_icmp k off => match st with
    | .int y :: .int x :: r => am_br n pc off (am_if2 k x y) r
    | _ => none
  | .ifnull off => match st with
    | .null :: r => am_br n pc off true r
    | .ref _ :: r => am_br n pc off false r
    | _ => none
  | .ifnonnull off => match st with
    | .null :: r => am_br n pc off false r
    | .ref _ :: r => am_br n pc off true r
    | _ => none
  | .goto off => am_br n pc off true st
  | .tableswitch dflt lo hi offs => match st with
    | .int x :: r => if x.toInt < lo ∨ hi < x.toInt then am_jmp pc dflt r else match offs[(x.toInt - lo).toNat]? with
      | some off => am_jmp pc off r
      | none => none
    | _ => none
  | .lookupswitch dflt ps => match st with
    | .int x :: r => if (ps.toList.zip (ps.toList.drop 1)).all (fun (a, next) => a.1 < next.1) = true then am_jmp pc (Op.lookupswitch.offset ps.toList dflt x.toInt) r else none
    | _ => none
  | _ => none
theorem am_jp_inv {pc t : Nat} {off : Int} (h : am_jp pc off = some t) : (pc : Int) + off = (t : Int) := by
  unfold am_jp at h
  split at h
  · cases h; omega
  · cases h
theorem am_br_inv {n pc pc' : Nat} {off : Int} {b : Bool} {st st' : List Value} (h : am_br n pc off b st = some (pc', st')) : n = 3 ∧ st' = st ∧ ∃ t : Nat, (pc : Int) + off = (t : Int) ∧ pc' = (if b = true then t else pc + 3) := by
  unfold am_br at h
  split at h
  · split at h
    · cases h; exact ⟨by assumption, rfl, _, am_jp_inv (by assumption), rfl⟩
    · cases h
  · cases h
theorem am_jmp_inv {pc pc' : Nat} {off : Int} {st st' : List Value} (h : am_jmp pc off st = some (pc', st')) : st' = st ∧ (pc : Int) + off = (pc' : Int) := by
  unfold am_jmp at h
  split at h
  · cases h; exact ⟨rfl, am_jp_inv (by assumption)⟩
  · cases h
section AMB
variable {p : Program} {l : Launch} {e : Env} {R : Room} {s : State} {m : MethodId} {args : Array Value} {below : List Frame} {meth : Method} {c : Code} {H : Heap} {locs : List Loc} {cells slots : Nat} {Q : State → Prop}
variable {cc : ByteArray} {pc : Nat} {ls : Array Slot} {ad : Nat → Nat}
theorem am_t {P : Prop} {hP : Decidable P} {t u : Nat} {rest : List Value} (h : P) (kk : W p l e R s m args below meth c H locs cells slots Q (F0 m (if decide P = true then t else u) ls rest)) : W p l e R s m args below meth c H locs cells slots Q (F0 m t ls rest) := by
  rw [if_pos (by simpa using h)] at kk; exact kk
theorem am_f {P : Prop} {hP : Decidable P} {t u : Nat} {rest : List Value} (h : ¬ P) (kk : W p l e R s m args below meth c H locs cells slots Q (F0 m (if decide P = true then t else u) ls rest)) : W p l e R s m args below meth c H locs cells slots Q (F0 m u ls rest) := by
  rw [if_neg (by simpa using h)] at kk; exact kk
set_option maxHeartbeats 4000000 in
theorem am_sB {n pc' : Nat} {i : Instr} {st st' : List Value} (h : am_stB i n pc st = some (pc', st')) (hx : p.tables.exec = Jvm.exec) (hb : c.code = cc) (hdg : decode cc pc = .ok (i, n))
    (kk : W p l e R s m args below meth c H locs cells slots Q (F0 m pc' ls (st'.map (am_v ad)))) : W p l e R s m args below meth c H locs cells slots Q (F0 m pc ls (st.map (am_v ad))) := by
  cases i with
  | ifCond k off =>
    dsimp only [am_stB] at h
    split at h
    · obtain ⟨rfl, rfl, t, ht, rfl⟩ := am_br_inv h
      cases k
      · exact lv_if_eq hx hb hdg ht (fun hc => am_t hc kk) (fun hc => am_f hc kk)
      · exact lv_if_ne hx hb hdg ht (fun hc => am_t hc kk) (fun hc => am_f (fun q => q hc) kk)
      · exact lv_if_lt hx hb hdg ht (fun hc => am_t hc kk) (fun hc => am_f hc kk)
      · exact lv_if_ge hx hb hdg ht (fun hc => am_t hc kk) (fun hc => am_f hc kk)
      · exact lv_if_gt hx hb hdg ht (fun hc => am_t hc kk) (fun hc => am_f hc kk)
      · exact lv_if_le hx hb hdg ht (fun hc => am_t hc kk) (fun hc => am_f hc kk)
    · cases h
  | if_icmp k off =>
    dsimp only [am_stB] at h
    split at h
    · obtain ⟨rfl, rfl, t, ht, rfl⟩ := am_br_inv h
      cases k
      · exact lv_icmp_eq hx hb hdg ht (fun hc => am_t hc kk) (fun hc => am_f hc kk)
      · exact lv_icmp_ne hx hb hdg ht (fun hc => am_t hc kk) (fun hc => am_f (fun q => q hc) kk)
      · exact lv_icmp_lt hx hb hdg ht (fun hc => am_t hc kk) (fun hc => am_f hc kk)
      · exact lv_icmp_ge hx hb hdg ht (fun hc => am_t hc kk) (fun hc => am_f hc kk)
      · exact lv_icmp_gt hx hb hdg ht (fun hc => am_t hc kk) (fun hc => am_f hc kk)
      · exact lv_icmp_le hx hb hdg ht (fun hc => am_t hc kk) (fun hc => am_f hc kk)
    · cases h
  | ifnull off =>
    dsimp only [am_stB] at h
    split at h
    · obtain ⟨rfl, rfl, t, ht, rfl⟩ := am_br_inv h
      exact lv_ifnullN hx hb hdg ht kk
    · obtain ⟨rfl, rfl, t, ht, rfl⟩ := am_br_inv h
      exact lv_ifnull hx hb hdg kk
    · cases h
  | ifnonnull off =>
    dsimp only [am_stB] at h
    split at h
    · obtain ⟨rfl, rfl, t, ht, rfl⟩ := am_br_inv h
      exact lv_ifnonnullN hx hb hdg kk
    · obtain ⟨rfl, rfl, t, ht, rfl⟩ := am_br_inv h
      exact lv_ifnonnull hx hb hdg ht kk
    · cases h
  | goto off =>
    obtain ⟨rfl, rfl, t, ht, rfl⟩ := am_br_inv (show am_br n pc off true st = some (pc', st') from h)
    exact lv_goto hx hb hdg ht kk
  | tableswitch dflt lo hi offs =>
    dsimp only [am_stB] at h
    split at h
    · split at h
      · rename_i hc
        obtain ⟨rfl, ht⟩ := am_jmp_inv h
        exact lv_tableOut hx hb hdg hc ht kk
      · rename_i hc
        split at h
        · rename_i off ho
          obtain ⟨rfl, ht⟩ := am_jmp_inv h
          exact lv_tableIn hx hb hdg (fun q => hc (Or.inl q)) (fun q => hc (Or.inr q)) ho ht kk
        · cases h
    · cases h
  | lookupswitch dflt ps =>
    dsimp only [am_stB] at h
    split at h
    · split at h
      · rename_i hp
        obtain ⟨rfl, ht⟩ := am_jmp_inv h
        exact lv_lookup hx hb hdg hp rfl ht kk
      · cases h
    · cases h
  | _ => cases h
end AMB
end
section
/-! the heap -/
def am_cz : am_C → Nat
  | .inl (_, a) => a.1
  | .inr (_, fs) => fs.length
def am_sz (H : am_H) : Nat := (H.map am_cz).sum
def am_fld (G : am_G) (own : String) (idx : Nat) : Option (Nat × Nat) := match G.2.2.1 own idx with
  | some (0, ci, k, _) => some (ci, k)
  | _ => none
def am_getf (H : am_H) (ci k a : Nat) : Option Value := match H[a]? with
  | some (.inr (ci', fs)) => if ci' = ci then fs[k]? else none
  | _ => none
/-- a value that a field or an answer of this type can be, as it stands -/
def am_okv : FieldType → Value → Bool
  | .int, .int _ => true
  | .long, .long _ => true
  | .boolean, .int x => x == 0 || x == 1
  | .object _, .ref _ => true
  | .object _, .null => true
  | .array _, .ref _ => true
  | .array _, .null => true
  | _, _ => false
theorem am_okv_inv {ty : FieldType} {v : Value} (h : am_okv ty v = true) : narrow ty v = v ∧ fits ty v = true := by
  unfold am_okv at h
  split at h
  · exact ⟨rfl, rfl⟩
  · exact ⟨rfl, rfl⟩
  · rename_i x
    rw [Bool.or_eq_true, beq_iff_eq, beq_iff_eq] at h
    rcases h with rfl | rfl
    · exact ⟨by decide +kernel, by decide +kernel⟩
    · exact ⟨by decide +kernel, by decide +kernel⟩
  · exact ⟨rfl, rfl⟩
  · exact ⟨rfl, rfl⟩
  · exact ⟨rfl, rfl⟩
  · exact ⟨rfl, rfl⟩
  · cases h
def am_canput (G : am_G) (own : String) (isI : Bool) (ci k : Nat) (v : Value) : Bool := match G.1[ci]? with
  | some (_, T, _) => am_okv (G.2.1 ci k) v && ((T k).2.2.2 == false || (isI && (T k).1 == own))
  | none => false
def am_putf (G : am_G) (own : String) (isI : Bool) (H : am_H) (ci k a : Nat) (v : Value) : Option am_H := match H[a]? with
  | some (.inr (ci', fs)) => if ci' = ci ∧ k < fs.length ∧ am_canput G own isI ci k v = true then some (H.set a (.inr (ci, fs.set k v))) else none
  | _ => none
def am_zero (ty : FieldType) (n : Nat) : Option vp_A := match ty with
  | .int => some (n, .inl (fun _ => 0))
  | .boolean => some (n, .inl (fun _ => 0))
  | .long => some (n, .inr (.inl (fun _ => 0)))
  | _ => none
def am_rf : Option Nat → Value
  | some a => .ref a
  | none => .null
def am_inb (i : Int32) (n : Nat) : Bool := decide (¬ (i < 0 ∨ n ≤ i.toNatClampNeg))
def am_new (G : am_G) (H : am_H) (ci : Nat) : Option am_H := match G.1[ci]? with
  | some (_, _, N) => some (H ++ [.inr (ci, (List.range N).map (fun k => defaultValue (G.2.1 ci k)))])
  | none => none
def am_newa (G : am_G) (H : am_H) (ty : FieldType) (n : Int32) : Option am_H := match am_zero ty n.toNatClampNeg with
  | some a => if ¬ n < 0 ∧ n.toNatClampNeg * componentBytes ty ≤ 536870912 ∧ ty ∈ G.2.2.2.2 then some (H ++ [.inl (ty, a)]) else none
  | none => none
def am_newq (G : am_G) (H : am_H) (ci : Nat) (n : Int32) : Option am_H := match G.1[ci]? with
  | some (C, _, _) => if ¬ n < 0 ∧ n.toNatClampNeg * 4 ≤ 536870912 ∧ FieldType.object C ∈ G.2.2.2.2 then some (H ++ [.inl (.object C, n.toNatClampNeg, .inr (.inr (.inr (.inr (fun _ => none)))))]) else none
  | none => none
/-- one instruction on the heap: the stack and the heap behind it -/
def am_stC (G : am_G) (own : String) (isI : Bool) (i : Instr) (n : Nat) (st : List Value) (H : am_H) : Option (List Value × am_H) := match i with
  | .getfield idx => match st, am_fld G own idx with
    | .ref a :: r, some (ci, k) => match am_getf H ci k a with
      | some v => if n = 3 then some (v :: r, H) else none
      | none => none
    | _, _ => none
  | .putfield idx => match st, am_fld G own idx with
    | v :: .ref a :: r, some (ci, k) => match am_putf G own isI H ci k a v with
      | some H' => if n = 3 then some (r, H') else none
      | none => none
    | _, _ => none
  | .iaload => match st with
    | .int j :: .ref a :: r => match H[a]? with
      | some (.inl (.int, w, .inl f)) => if n = 1 ∧ am_inb j w = true then some (.int (f j.toNatClampNeg) :: r, H) else none
      | _ => none
    | _ => none
  | .baload => match st with
    | .int j :: .ref a :: r => match H[a]? with
      | some (.inl (.boolean, w, .inl f)) => if n = 1 ∧ am_inb j w = true then some (.int (f j.toNatClampNeg) :: r, H) else none
      | _ => none
    | _ => none
  | .laload => match st with
    | .int j :: .ref a :: r => match H[a]? with
      | some (.inl (.long, w, .inr (.inl f))) => if n = 1 ∧ am_inb j w = true then some (.long (f j.toNatClampNeg) :: r, H) else none
      | _ => none
    | _ => none
  | .aaload => match st with
    | .int j :: .ref a :: r => match H[a]? with
      | some (.inl (.object C, w, .inr (.inr (.inr (.inr f))))) => if n = 1 ∧ am_inb j w = true ∧ FieldType.object C ∈ G.2.2.2.2 then some (am_rf (f j.toNatClampNeg) :: r, H) else none
      | _ => none
    | _ => none
  | .iastore => match st with
    | .int x :: .int j :: .ref a :: r => match H[a]? with
      | some (.inl (.int, w, .inl f)) => if n = 1 ∧ am_inb j w = true then some (r, H.set a (.inl (.int, w, .inl (upd f j.toNatClampNeg x)))) else none
      | _ => none
    | _ => none
  | .bastore => match st with
    | .int x :: .int j :: .ref a :: r => match H[a]? with
      | some (.inl (.boolean, w, .inl f)) => if n = 1 ∧ am_inb j w = true then some (r, H.set a (.inl (.boolean, w, .inl (upd f j.toNatClampNeg (vp_nar .boolean x))))) else none
      | _ => none
    | _ => none
  | .lastore => match st with
    | .long x :: .int j :: .ref a :: r => match H[a]? with
      | some (.inl (.long, w, .inr (.inl f))) => if n = 1 ∧ am_inb j w = true then some (r, H.set a (.inl (.long, w, .inr (.inl (vp_updL f j.toNatClampNeg x))))) else none
      | _ => none
    | _ => none
  | .aastore => match st with
    | .ref v :: .int j :: .ref a :: r => match H[a]?, H[v]? with
      | some (.inl (.object C, w, .inr (.inr (.inr (.inr f))))), some (.inr (ci, _)) => if n = 1 ∧ am_inb j w = true ∧ FieldType.object C ∈ G.2.2.2.2 ∧ (G.1[ci]?).map (fun q => q.1) = some C then some (r, H.set a (.inl (.object C, w, .inr (.inr (.inr (.inr (va_up f j.toNatClampNeg (some v)))))))) else none
      | _, _ => none
    | _ => none
  | .arraylength => match st with
    | .ref a :: r => match H[a]? with
      | some (.inl (ty, w, _)) => if n = 1 ∧ ty ∈ G.2.2.2.2 then some (.int (Int32.ofNat w) :: r, H) else none
      | _ => none
    | _ => none
  | .new idx => match G.2.2.1 own idx with
    | some (2, ci, _, _) => match am_new G H ci with
      | some H' => if n = 3 then some (.ref H.length :: st, H') else none
      | none => none
    | _ => none
  | .newarray aty => match st with
    | .int w :: r => match am_newa G H (newarray.typeOf aty) w with
      | some H' => if n = 2 then some (.ref H.length :: r, H') else none
      | none => none
    | _ => none
  | .anewarray idx => match st, G.2.2.1 own idx with
    | .int w :: r, some (2, ci, _, _) => match am_newq G H ci w with
      | some H' => if n = 3 then some (.ref H.length :: r, H') else none
      | none => none
    | _, _ => none
  | .ldc idx => match G.2.2.1 own idx with
    | some (6, _, _, v) => if n = 2 then some (.int v.toInt32 :: st, H) else none
    | _ => none
  | .ldc2_w idx => match G.2.2.1 own idx with
    | some (7, _, _, v) => if n = 3 then some (.long v :: st, H) else none
    | _ => none
  | _ => none
/-! worlds of abstract heaps -/
theorem am_w_at (ad : Nat → Nat) (ca : FieldType → ClassId) (H : am_H) (i : Nat) : (am_w ad ca H)[i]? = (H[i]?).map (fun c => (ad i, am_c ad ca c)) := by
  unfold am_w
  rw [List.getElem?_mapIdx]
theorem am_w_get {ad : Nat → Nat} {ca : FieldType → ClassId} {H : am_H} {i : Nat} {c : am_C} (h : H[i]? = some c) : (am_w ad ca H)[i]? = some (ad i, am_c ad ca c) := by
  rw [am_w_at, h]; rfl
theorem am_w_set (ad : Nat → Nat) (ca : FieldType → ClassId) (H : am_H) (i : Nat) (c : am_C) : (am_w ad ca H).set i (ad i, am_c ad ca c) = am_w ad ca (H.set i c) := by
  apply List.ext_getElem?
  intro j
  rw [am_w_at, List.getElem?_set, List.getElem?_set, am_w_at]
  have hl : (am_w ad ca H).length = H.length := by unfold am_w; simp
  rw [hl]
  by_cases hij : i = j
  · subst hij
    simp only [if_true]
    by_cases hi : i < H.length
    · simp [hi]
    · simp [hi]
  · simp [hij]
theorem am_w_app (ad : Nat → Nat) (ca : FieldType → ClassId) (H : am_H) (c : am_C) : am_w ad ca (H ++ [c]) = am_w ad ca H ++ [(ad H.length, am_c ad ca c)] := by
  unfold am_w
  rw [List.mapIdx_append]
  simp
theorem am_w_len (ad : Nat → Nat) (ca : FieldType → ClassId) (H : am_H) : (am_w ad ca H).length = H.length := by unfold am_w; simp
/-! references within -/
def am_vw (n : Nat) (v : Value) : Prop := ∀ i, v = .ref i → i < n
def am_cw (n : Nat) : am_C → Prop
  | .inl (_, _, .inr (.inr (.inr (.inr f)))) => ∀ j i, f j = some i → i < n
  | .inl _ => True
  | .inr (_, fs) => ∀ v ∈ fs, am_vw n v
def am_hw (H : am_H) : Prop := ∀ c ∈ H, am_cw H.length c
def am_ext (ad : Nat → Nat) (n q : Nat) : Nat → Nat := fun i => if i = n then q else ad i
def am_agree (n : Nat) (ad ad' : Nat → Nat) : Prop := ∀ i, i < n → ad' i = ad i
theorem am_ext_agree (ad : Nat → Nat) (n q : Nat) : am_agree n ad (am_ext ad n q) := fun i hi => by
  unfold am_ext
  rw [if_neg (Nat.ne_of_lt hi)]
theorem am_ext_self (ad : Nat → Nat) (n q : Nat) : am_ext ad n q n = q := by unfold am_ext; rw [if_pos rfl]
theorem am_v_agree {n : Nat} {ad ad' : Nat → Nat} (h : am_agree n ad ad') {v : Value} (hv : am_vw n v) : am_v ad' v = am_v ad v := by
  cases v with
  | ref i => show Value.ref (ad' i) = Value.ref (ad i); rw [h i (hv i rfl)]
  | _ => rfl
theorem am_c_agree {n : Nat} {ad ad' : Nat → Nat} {ca : FieldType → ClassId} (h : am_agree n ad ad') {c : am_C} (hc : am_cw n c) : am_c ad' ca c = am_c ad ca c := by
  cases c with
  | inl x =>
    obtain ⟨ty, w, f | f | f | f | f⟩ := x
    · rfl
    · rfl
    · rfl
    · rfl
    · have hc : ∀ j i, f j = some i → i < n := hc
      have e : (fun j => (f j).map ad') = (fun j => (f j).map ad) := by
        funext j
        cases hj : f j with
        | none => rfl
        | some i => show some (ad' i) = some (ad i); rw [h i (hc j i hj)]
      show (Sum.inl (ca ty, (w, .inr (.inr (.inr (.inr (fun j => (f j).map ad')))))) : va_E) = Sum.inl (ca ty, (w, .inr (.inr (.inr (.inr (fun j => (f j).map ad))))))
      rw [e]
  | inr x =>
    obtain ⟨ci, fs⟩ := x
    have hc : ∀ v ∈ fs, am_vw n v := hc
    show (Sum.inr (ci, fs.map (am_v ad')) : va_E) = Sum.inr (ci, fs.map (am_v ad))
    rw [List.map_congr_left (fun v hv => am_v_agree h (hc v hv))]
theorem am_w_agree {ad ad' : Nat → Nat} {ca : FieldType → ClassId} {H : am_H} (h : am_agree H.length ad ad') (hw : am_hw H) : am_w ad' ca H = am_w ad ca H := by
  apply List.ext_getElem?
  intro i
  rw [am_w_at, am_w_at]
  cases hc : H[i]? with
  | none => rfl
  | some c =>
    have hi : i < H.length := (List.getElem?_eq_some_iff.mp hc).1
    show some (ad' i, am_c ad' ca c) = some (ad i, am_c ad ca c)
    rw [h i hi, am_c_agree h (hw c (List.mem_of_getElem? hc))]
theorem am_st_agree {n : Nat} {ad ad' : Nat → Nat} (h : am_agree n ad ad') {st : List Value} (hv : ∀ v ∈ st, am_vw n v) : st.map (am_v ad') = st.map (am_v ad) := List.map_congr_left (fun v hx => am_v_agree h (hv v hx))
theorem am_lv_agree {n : Nat} {ad ad' : Nat → Nat} (h : am_agree n ad ad') {lv : am_L} (hv : ∀ q ∈ lv, am_vw n q.2) : lv.map (am_q ad') = lv.map (am_q ad) := List.map_congr_left (fun q hx => by
  show (q.1, am_v ad' q.2) = (q.1, am_v ad q.2)
  rw [am_v_agree h (hv q hx)])
theorem am_sz_set {H : am_H} {i : Nat} {c c' : am_C} (h : H[i]? = some c) (hz : am_cz c' = am_cz c) : am_sz (H.set i c') = am_sz H := by
  unfold am_sz
  congr 1
  apply List.ext_getElem?
  intro j
  rw [List.getElem?_map, List.getElem?_map, List.getElem?_set]
  by_cases hij : i = j
  · subst hij
    have hi : i < H.length := (List.getElem?_eq_some_iff.mp h).1
    rw [if_pos rfl, if_pos hi, h]
    show some (am_cz c') = some (am_cz c)
    rw [hz]
  · rw [if_neg hij]
theorem am_sz_app (H : am_H) (c : am_C) : am_sz (H ++ [c]) = am_sz H + am_cz c := by
  unfold am_sz
  simp
end
section
/-- what the pool's entries, the classes and the arrays' types are, in the tables' words -/
def am_ok (G : am_G) (Ts : List Cond) : Prop :=
  (∀ own idx ci k z, G.2.2.1 own idx = some (0, ci, k, z) → ∃ C T N, G.1[ci]? = some (C, T, N) ∧ k < N ∧ Cond.fieldLink own idx (T k).1 (T k).2.1 (T k).2.2.1 ∈ Ts)
  ∧ (∀ (ci : Nat) (C : String) (T : u_T) (N : Nat), G.1[ci]? = some (C, T, N) → (∀ w ∈ u_ws C T N, w ∈ Ts) ∧ (∀ k, k < N → parseFieldDescriptor (T k).2.2.1 = some (G.2.1 ci k)) ∧ (∀ a, a < N → ∀ b, b < N → a ≠ b → (T a).2.1 ≠ (T b).2.1))
  ∧ (∀ own idx ci k z, G.2.2.1 own idx = some (2, ci, k, z) → ∃ C T N, G.1[ci]? = some (C, T, N) ∧ Cond.classLink own idx C ∈ Ts ∧ Cond.instantiable C N ∈ Ts ∧ Cond.initialized C ∈ Ts)
  ∧ (∀ own idx ci k z, G.2.2.1 own idx = some (3, ci, k, z) → ∃ C T N, G.1[ci]? = some (C, T, N) ∧ Cond.classLink own idx C ∈ Ts)
  ∧ (∀ own idx ci k z, G.2.2.1 own idx = some (6, ci, k, z) → Cond.constant own idx z.toInt32 ∈ Ts)
  ∧ (∀ own idx ci k z, G.2.2.1 own idx = some (7, ci, k, z) → Cond.constantLong own idx z ∈ Ts)
  ∧ (FieldType.int ∈ G.2.2.2.2 ∧ FieldType.long ∈ G.2.2.2.2 ∧ FieldType.boolean ∈ G.2.2.2.2)
  ∧ (∀ aty, newarray.typeOf aty ∈ G.2.2.2.2 → Cond.arrayClass (newarray.typeOf aty) ∈ Ts)
abbrev am_tys (G : am_G) (ca : FieldType → ClassId) : List (ClassId × FieldType) := G.2.2.2.2.map (fun ty => (ca ty, ty))
/-- what a state says of the tables -/
def am_env (G : am_G) (D : va_G) (ca : FieldType → ClassId) (s : State) : Prop := va_K D G.1 (am_tys G ca) s ∧ ∀ C, FieldType.object C ∈ G.2.2.2.2 → va_AO C s
theorem am_ty {G : am_G} {ca : FieldType → ClassId} {ty : FieldType} (h : ty ∈ G.2.2.2.2) : ∃ t0 : Nat, (am_tys G ca)[t0]? = some (ca ty, ty) :=
  List.getElem?_of_mem (List.mem_map.mpr ⟨ty, h, rfl⟩)
theorem am_RA_eq {s : State} {ty : FieldType} {a b : ClassId} (h1 : va_RA s a ty) (h2 : va_RA s b ty) : a = b := by
  cases ty with
  | object C =>
    obtain ⟨_, _, _, _, _, h3⟩ := h1
    obtain ⟨_, _, _, _, _, h4⟩ := h2
    exact Option.some.inj (h3.symm.trans h4)
  | _ => exact Option.some.inj ((show s.vm.findClass _ = some a from h1).symm.trans h2)
theorem am_fld_inv {G : am_G} {own : String} {idx ci k : Nat} (h : am_fld G own idx = some (ci, k)) : ∃ z, G.2.2.1 own idx = some (0, ci, k, z) := by
  unfold am_fld at h
  split at h
  · cases h; exact ⟨_, by assumption⟩
  · cases h
theorem am_getf_inv {H : am_H} {ci k a : Nat} {v : Value} (h : am_getf H ci k a = some v) : ∃ fs, H[a]? = some (.inr (ci, fs)) ∧ fs[k]? = some v := by
  unfold am_getf at h
  split at h
  · split at h
    · rename_i h1 h2
      subst h2
      exact ⟨_, h1, h⟩
    · cases h
  · cases h
theorem am_putf_inv {G : am_G} {own : String} {isI : Bool} {H H' : am_H} {ci k a : Nat} {v : Value} (h : am_putf G own isI H ci k a v = some H') : ∃ fs, H[a]? = some (.inr (ci, fs)) ∧ k < fs.length ∧ am_canput G own isI ci k v = true ∧ H' = H.set a (.inr (ci, fs.set k v)) := by
  unfold am_putf at h
  split at h
  · split at h
    · rename_i h1 h2
      obtain ⟨rfl, h3, h4⟩ := h2
      cases h
      exact ⟨_, h1, h3, h4, rfl⟩
    · cases h
  · cases h
theorem am_canput_inv {G : am_G} {own : String} {isI : Bool} {ci k : Nat} {v : Value} {C : String} {T : u_T} {N : Nat} (hc : G.1[ci]? = some (C, T, N)) (h : am_canput G own isI ci k v = true) : narrow (G.2.1 ci k) v = v ∧ fits (G.2.1 ci k) v = true ∧ ((T k).2.2.2 = false ∨ (isI = true ∧ (T k).1 = own)) := by
  unfold am_canput at h
  rw [hc] at h
  simp only [Bool.and_eq_true, Bool.or_eq_true, beq_iff_eq] at h
  exact ⟨(am_okv_inv h.1).1, (am_okv_inv h.1).2, h.2⟩
theorem am_nar (ad : Nat → Nat) {ty : FieldType} {v : Value} (h : narrow ty v = v) : narrow ty (am_v ad v) = am_v ad v := by
  cases v with
  | ref i => cases ty <;> rfl
  | retAddr i => cases ty <;> rfl
  | _ => exact h
theorem am_fits (ad : Nat → Nat) {ty : FieldType} {v : Value} (h : fits ty v = true) : fits ty (am_v ad v) = true := by
  cases v with
  | ref i => cases ty <;> first | exact h | (cases h)
  | retAddr i => cases ty <;> cases h
  | _ => exact h
theorem am_inb_in {i : Int32} {n : Nat} (h : am_inb i n = true) : vp_in i n := fun q => (of_decide_eq_true (show decide (¬ (i < 0 ∨ n ≤ i.toNatClampNeg)) = true from h)) q
theorem am_dv (ad : Nat → Nat) (ty : FieldType) : am_v ad (defaultValue ty) = defaultValue ty := by cases ty <;> rfl
theorem am_rf_v (ad : Nat → Nat) (x : Option Nat) : va_rf (x.map ad) = am_v ad (am_rf x) := by cases x <;> rfl
theorem am_up_map (ad : Nat → Nat) (f : Nat → Option Nat) (k v : Nat) : (fun j => (va_up f k (some v) j).map ad) = va_up (fun j => (f j).map ad) k (some (ad v)) := by
  funext j
  unfold va_up
  by_cases h : j = k
  · simp [h]
  · simp [h]
section AMC
variable {p : Program} {l : Launch} {e : Env} {R : Room} {s : State} {m : MethodId} {args : Array Value} {below : List Frame} {meth : Method} {c : Code} {H : Heap} {locs : List Loc} {cells slots : Nat} {Q : State → Prop}
variable {cc : ByteArray} {pc : Nat} {ls : Array Slot} {ad : Nat → Nat} {G : am_G} {Ts : List Cond} {D : va_G} {ca : FieldType → ClassId} {A : Nat → Prop} {H0 : Heap} {own : String} {isI : Bool}
/-- a place of the heap is set -/
theorem am_kset {AH : am_H} {a : Nat} {c0 c1 : am_C} {st' : List Value} {n : Nat} (hc0 : AH[a]? = some c0) (hz : am_cz c1 = am_cz c0)
    (kk : ∀ (ad' : Nat → Nat) (H1 : Heap) (locs1 : List Loc), am_agree AH.length ad ad' → va_P D G.1 (am_w ad' ca (AH.set a c1)) H1 → va_D A (am_w ad' ca (AH.set a c1)) → va_S A H0 H1 locs1 → W p l e R s m args below meth c H1 locs1 (cells + ((AH.set a c1).length - AH.length)) (slots + (am_sz (AH.set a c1) - am_sz AH)) Q (F0 m (pc + n) ls (st'.map (am_v ad')))) :
    ∀ (H1 : Heap) (locs1 : List Loc), va_P D G.1 ((am_w ad ca AH).set a (ad a, am_c ad ca c1)) H1 → va_D A ((am_w ad ca AH).set a (ad a, am_c ad ca c1)) → va_S A H0 H1 locs1 → W p l e R s m args below meth c H1 locs1 cells slots Q (F0 m (pc + n) ls (st'.map (am_v ad))) := by
  intro H1 locs1 hP hD hS
  rw [am_w_set] at hP hD
  have k1 := kk ad H1 locs1 (fun _ _ => rfl) hP hD hS
  rw [List.length_set, Nat.sub_self, Nat.add_zero, am_sz_set hc0 hz, Nat.sub_self, Nat.add_zero] at k1
  exact k1
theorem am_kid {AH : am_H} {st' : List Value} {n : Nat} (hP : va_P D G.1 (am_w ad ca AH) H) (hD : va_D A (am_w ad ca AH)) (hS : va_S A H0 H locs)
    (kk : ∀ (ad' : Nat → Nat) (H1 : Heap) (locs1 : List Loc), am_agree AH.length ad ad' → va_P D G.1 (am_w ad' ca AH) H1 → va_D A (am_w ad' ca AH) → va_S A H0 H1 locs1 → W p l e R s m args below meth c H1 locs1 (cells + (AH.length - AH.length)) (slots + (am_sz AH - am_sz AH)) Q (F0 m (pc + n) ls (st'.map (am_v ad')))) :
    W p l e R s m args below meth c H locs cells slots Q (F0 m (pc + n) ls (st'.map (am_v ad))) := by
  have k1 := kk ad H locs (fun _ _ => rfl) hP hD hS
  rw [Nat.sub_self, Nat.add_zero, Nat.sub_self, Nat.add_zero] at k1
  exact k1
/-- a cell more -/
theorem am_knew {AH : am_H} {c1 : am_C} {r : List Value} {n q : Nat} {E : va_E} {H1 : Heap} {locs1 : List Loc} (hw : am_hw AH) (hr : ∀ v ∈ r, am_vw AH.length v) (hE : ∀ ad' : Nat → Nat, am_c ad' ca c1 = E)
    (hP : va_P D G.1 (am_w ad ca AH ++ [(q, E)]) H1) (hD : va_D A (am_w ad ca AH ++ [(q, E)])) (hS : va_S A H0 H1 locs1)
    (kk : ∀ (ad' : Nat → Nat) (H1 : Heap) (locs1 : List Loc), am_agree AH.length ad ad' → va_P D G.1 (am_w ad' ca (AH ++ [c1])) H1 → va_D A (am_w ad' ca (AH ++ [c1])) → va_S A H0 H1 locs1 → W p l e R s m args below meth c H1 locs1 (cells + ((AH ++ [c1]).length - AH.length)) (slots + (am_sz (AH ++ [c1]) - am_sz AH)) Q (F0 m (pc + n) ls ((Value.ref AH.length :: r).map (am_v ad')))) :
    W p l e R s m args below meth c H1 locs1 (cells + 1) (slots + am_cz c1) Q (F0 m (pc + n) ls (.ref q :: r.map (am_v ad))) := by
  have hag := am_ext_agree ad AH.length q
  have e1 : am_w (am_ext ad AH.length q) ca (AH ++ [c1]) = am_w ad ca AH ++ [(q, E)] := by
    rw [am_w_app, am_w_agree hag hw, am_ext_self, hE]
  have k1 := kk (am_ext ad AH.length q) H1 locs1 hag (by rw [e1]; exact hP) (by rw [e1]; exact hD) hS
  have e2 : (AH ++ [c1]).length - AH.length = 1 := by simp
  have e3 : am_sz (AH ++ [c1]) - am_sz AH = am_cz c1 := by rw [am_sz_app]; omega
  have e4 : (Value.ref AH.length :: r).map (am_v (am_ext ad AH.length q)) = .ref q :: r.map (am_v ad) := by
    rw [List.map_cons, am_st_agree hag hr]
    show Value.ref (am_ext ad AH.length q AH.length) :: _ = _
    rw [am_ext_self]
  rw [e2, e3, e4] at k1
  exact k1
set_option maxHeartbeats 4000000 in
theorem am_sC_get {n idx : Nat} {st st' : List Value} {AH AH' : am_H} (hok : am_ok G Ts) (h : am_stC G own isI (.getfield idx) n st AH = some (st', AH')) (hx : p.tables.exec = Jvm.exec) (hb : c.code = cc) (hdg : decode cc pc = .ok (.getfield idx, n)) (hown : s.vm.findClass own = some m.cls) (hts : ∀ w ∈ Ts, w.before args s = true) (henv : am_env G D ca s)
    (hP : va_P D G.1 (am_w ad ca AH) H) (hD : va_D A (am_w ad ca AH)) (hS : va_S A H0 H locs)
    (kk : ∀ (ad' : Nat → Nat) (H1 : Heap) (locs1 : List Loc), am_agree AH.length ad ad' → va_P D G.1 (am_w ad' ca AH') H1 → va_D A (am_w ad' ca AH') → va_S A H0 H1 locs1 → W p l e R s m args below meth c H1 locs1 (cells + (AH'.length - AH.length)) (slots + (am_sz AH' - am_sz AH)) Q (F0 m (pc + n) ls (st'.map (am_v ad')))) :
    W p l e R s m args below meth c H locs cells slots Q (F0 m pc ls (st.map (am_v ad))) := by
  dsimp only [am_stC] at h
  split at h
  · rename_i a r ci k hf
    split at h
    · rename_i v hv
      split at h
      · rename_i h3
        subst h3
        cases h
        obtain ⟨z, hz⟩ := am_fld_inv hf
        obtain ⟨C, T, N, hc, hk, hl⟩ := hok.1 own idx ci k z hz
        obtain ⟨hin, hty, hnm⟩ := hok.2.1 ci C T N hc
        obtain ⟨fs, hfs, hvk⟩ := am_getf_inv hv
        exact va_get hx hb hts hin hown henv.1 hP a (am_w_get hfs) hc k hk (hts _ hl) (fun _ h9 => h9) (v := am_v ad v) (by rw [List.getElem?_map, hvk]; rfl) hdg (am_kid (st' := v :: r) hP hD hS kk)
      · cases h
    · cases h
  · cases h
set_option maxHeartbeats 4000000 in
theorem am_sC_put {n idx : Nat} {st st' : List Value} {AH AH' : am_H} (hok : am_ok G Ts) (h : am_stC G own isI (.putfield idx) n st AH = some (st', AH')) (hx : p.tables.exec = Jvm.exec) (hb : c.code = cc) (hdg : decode cc pc = .ok (.putfield idx, n)) (hown : s.vm.findClass own = some m.cls) (hts : ∀ w ∈ Ts, w.before args s = true) (hI : isI = true → meth.name = "<init>") (henv : am_env G D ca s)
    (hP : va_P D G.1 (am_w ad ca AH) H) (hD : va_D A (am_w ad ca AH)) (hS : va_S A H0 H locs)
    (kk : ∀ (ad' : Nat → Nat) (H1 : Heap) (locs1 : List Loc), am_agree AH.length ad ad' → va_P D G.1 (am_w ad' ca AH') H1 → va_D A (am_w ad' ca AH') → va_S A H0 H1 locs1 → W p l e R s m args below meth c H1 locs1 (cells + (AH'.length - AH.length)) (slots + (am_sz AH' - am_sz AH)) Q (F0 m (pc + n) ls (st'.map (am_v ad')))) :
    W p l e R s m args below meth c H locs cells slots Q (F0 m pc ls (st.map (am_v ad))) := by
  dsimp only [am_stC] at h
  split at h
  · rename_i v a r ci k hf
    split at h
    · rename_i H' hv
      split at h
      · rename_i h3
        subst h3
        cases h
        obtain ⟨z, hz⟩ := am_fld_inv hf
        obtain ⟨C, T, N, hc, hk, hl⟩ := hok.1 own idx ci k z hz
        obtain ⟨hin, hty, hnm⟩ := hok.2.1 ci C T N hc
        obtain ⟨fs, hfs, hkl, hcp, rfl⟩ := am_putf_inv hv
        obtain ⟨hn1, hn2, hn3⟩ := am_canput_inv hc hcp
        have hset : (fs.map (am_v ad)).set k (am_v ad v) = (fs.set k v).map (am_v ad) := by rw [List.map_set]
        have k2 := am_kset (c := c) (st' := st') (n := 3) (cells := cells) (slots := slots) hfs (show am_cz (.inr (ci, fs.set k v)) = am_cz (.inr (ci, fs)) from List.length_set ..) kk
        have k3 : ∀ (H1 : Heap) (locs1 : List Loc), va_P D G.1 ((am_w ad ca AH).set a (ad a, .inr (ci, (fs.map (am_v ad)).set k (am_v ad v)))) H1 → va_D A ((am_w ad ca AH).set a (ad a, .inr (ci, (fs.map (am_v ad)).set k (am_v ad v)))) → va_S A H0 H1 locs1 → W p l e R s m args below meth c H1 locs1 cells slots Q (F0 m (pc + 3) ls (st'.map (am_v ad))) := by
          rw [hset]; exact k2
        rcases hn3 with hfin | ⟨hi, hdc⟩
        · exact va_put hx hb hts hin (G.2.1 ci) hty hnm hown henv.1 hP hD hS a (am_w_get hfs) hc k hk (hts _ hl) (fun _ h9 => h9) hfin (hty k hk) (am_nar ad hn1) (am_fits ad hn2) (by rw [List.length_map]; exact hkl) hdg k3
        · by_cases hfin : (T k).2.2.2 = true
          · exact va_putF hx hb hts hin (G.2.1 ci) hty hnm hown henv.1 hP hD hS a (am_w_get hfs) hc k hk (hts _ hl) (fun _ h9 => h9) hfin (hI hi) hdc (hty k hk) (am_nar ad hn1) (am_fits ad hn2) (by rw [List.length_map]; exact hkl) hdg k3
          · exact va_put hx hb hts hin (G.2.1 ci) hty hnm hown henv.1 hP hD hS a (am_w_get hfs) hc k hk (hts _ hl) (fun _ h9 => h9) (by simpa using hfin) (hty k hk) (am_nar ad hn1) (am_fits ad hn2) (by rw [List.length_map]; exact hkl) hdg k3
      · cases h
    · cases h
  · cases h
end AMC
end
section
section AMD
variable {p : Program} {l : Launch} {e : Env} {R : Room} {s : State} {m : MethodId} {args : Array Value} {below : List Frame} {meth : Method} {c : Code} {H : Heap} {locs : List Loc} {cells slots : Nat} {Q : State → Prop}
variable {cc : ByteArray} {pc : Nat} {ls : Array Slot} {ad : Nat → Nat} {G : am_G} {Ts : List Cond} {D : va_G} {ca : FieldType → ClassId} {A : Nat → Prop} {H0 : Heap} {own : String} {isI : Bool}
set_option maxHeartbeats 4000000 in
theorem am_sC_iald {n : Nat} {st st' : List Value} {AH AH' : am_H} (hok : am_ok G Ts) (h : am_stC G own isI (.iaload) n st AH = some (st', AH')) (hx : p.tables.exec = Jvm.exec) (hb : c.code = cc) (hdg : decode cc pc = .ok (.iaload, n)) (henv : am_env G D ca s)
    (hP : va_P D G.1 (am_w ad ca AH) H) (hD : va_D A (am_w ad ca AH)) (hS : va_S A H0 H locs)
    (kk : ∀ (ad' : Nat → Nat) (H1 : Heap) (locs1 : List Loc), am_agree AH.length ad ad' → va_P D G.1 (am_w ad' ca AH') H1 → va_D A (am_w ad' ca AH') → va_S A H0 H1 locs1 → W p l e R s m args below meth c H1 locs1 (cells + (AH'.length - AH.length)) (slots + (am_sz AH' - am_sz AH)) Q (F0 m (pc + n) ls (st'.map (am_v ad')))) :
    W p l e R s m args below meth c H locs cells slots Q (F0 m pc ls (st.map (am_v ad))) := by
  dsimp only [am_stC] at h
  split at h
  · rename_i j a r
    split at h
    · rename_i w f hf
      split at h
      · rename_i hc
        obtain ⟨rfl, hj⟩ := hc
        cases h
        obtain ⟨t0, ht⟩ := am_ty (ca := ca) hok.2.2.2.2.2.2.1.1
        exact va_iald hx hb henv.1 hP a t0 (am_w_get hf) ht (am_inb_in hj) hdg (am_kid (st' := .int (f j.toNatClampNeg) :: r) hP hD hS kk)
      · cases h
    · cases h
  · cases h
set_option maxHeartbeats 4000000 in
theorem am_sC_zald {n : Nat} {st st' : List Value} {AH AH' : am_H} (hok : am_ok G Ts) (h : am_stC G own isI (.baload) n st AH = some (st', AH')) (hx : p.tables.exec = Jvm.exec) (hb : c.code = cc) (hdg : decode cc pc = .ok (.baload, n)) (henv : am_env G D ca s)
    (hP : va_P D G.1 (am_w ad ca AH) H) (hD : va_D A (am_w ad ca AH)) (hS : va_S A H0 H locs)
    (kk : ∀ (ad' : Nat → Nat) (H1 : Heap) (locs1 : List Loc), am_agree AH.length ad ad' → va_P D G.1 (am_w ad' ca AH') H1 → va_D A (am_w ad' ca AH') → va_S A H0 H1 locs1 → W p l e R s m args below meth c H1 locs1 (cells + (AH'.length - AH.length)) (slots + (am_sz AH' - am_sz AH)) Q (F0 m (pc + n) ls (st'.map (am_v ad')))) :
    W p l e R s m args below meth c H locs cells slots Q (F0 m pc ls (st.map (am_v ad))) := by
  dsimp only [am_stC] at h
  split at h
  · rename_i j a r
    split at h
    · rename_i w f hf
      split at h
      · rename_i hc
        obtain ⟨rfl, hj⟩ := hc
        cases h
        obtain ⟨t0, ht⟩ := am_ty (ca := ca) hok.2.2.2.2.2.2.1.2.2
        exact va_zald hx hb henv.1 hP a t0 (am_w_get hf) ht (am_inb_in hj) hdg (am_kid (st' := .int (f j.toNatClampNeg) :: r) hP hD hS kk)
      · cases h
    · cases h
  · cases h
set_option maxHeartbeats 4000000 in
theorem am_sC_lald {n : Nat} {st st' : List Value} {AH AH' : am_H} (hok : am_ok G Ts) (h : am_stC G own isI (.laload) n st AH = some (st', AH')) (hx : p.tables.exec = Jvm.exec) (hb : c.code = cc) (hdg : decode cc pc = .ok (.laload, n)) (henv : am_env G D ca s)
    (hP : va_P D G.1 (am_w ad ca AH) H) (hD : va_D A (am_w ad ca AH)) (hS : va_S A H0 H locs)
    (kk : ∀ (ad' : Nat → Nat) (H1 : Heap) (locs1 : List Loc), am_agree AH.length ad ad' → va_P D G.1 (am_w ad' ca AH') H1 → va_D A (am_w ad' ca AH') → va_S A H0 H1 locs1 → W p l e R s m args below meth c H1 locs1 (cells + (AH'.length - AH.length)) (slots + (am_sz AH' - am_sz AH)) Q (F0 m (pc + n) ls (st'.map (am_v ad')))) :
    W p l e R s m args below meth c H locs cells slots Q (F0 m pc ls (st.map (am_v ad))) := by
  dsimp only [am_stC] at h
  split at h
  · rename_i j a r
    split at h
    · rename_i w f hf
      split at h
      · rename_i hc
        obtain ⟨rfl, hj⟩ := hc
        cases h
        obtain ⟨t0, ht⟩ := am_ty (ca := ca) hok.2.2.2.2.2.2.1.2.1
        exact va_lald hx hb henv.1 hP a t0 (am_w_get hf) ht (am_inb_in hj) hdg (am_kid (st' := .long (f j.toNatClampNeg) :: r) hP hD hS kk)
      · cases h
    · cases h
  · cases h
set_option maxHeartbeats 4000000 in
theorem am_sC_aald {n : Nat} {st st' : List Value} {AH AH' : am_H} (hok : am_ok G Ts) (h : am_stC G own isI (.aaload) n st AH = some (st', AH')) (hx : p.tables.exec = Jvm.exec) (hb : c.code = cc) (hdg : decode cc pc = .ok (.aaload, n)) (henv : am_env G D ca s)
    (hP : va_P D G.1 (am_w ad ca AH) H) (hD : va_D A (am_w ad ca AH)) (hS : va_S A H0 H locs)
    (kk : ∀ (ad' : Nat → Nat) (H1 : Heap) (locs1 : List Loc), am_agree AH.length ad ad' → va_P D G.1 (am_w ad' ca AH') H1 → va_D A (am_w ad' ca AH') → va_S A H0 H1 locs1 → W p l e R s m args below meth c H1 locs1 (cells + (AH'.length - AH.length)) (slots + (am_sz AH' - am_sz AH)) Q (F0 m (pc + n) ls (st'.map (am_v ad')))) :
    W p l e R s m args below meth c H locs cells slots Q (F0 m pc ls (st.map (am_v ad))) := by
  dsimp only [am_stC] at h
  split at h
  · rename_i j a r
    split at h
    · rename_i C w f hf
      split at h
      · rename_i hc
        obtain ⟨rfl, hj, hm⟩ := hc
        cases h
        obtain ⟨t0, ht⟩ := am_ty (ca := ca) hm
        refine va_aldq hx hb henv.1 hP a t0 (am_w_get hf) ht (am_inb_in hj) hdg ?_
        rw [am_rf_v]
        exact am_kid (st' := am_rf (f j.toNatClampNeg) :: r) hP hD hS kk
      · cases h
    · cases h
  · cases h
set_option maxHeartbeats 4000000 in
theorem am_sC_iast {n : Nat} {st st' : List Value} {AH AH' : am_H} (hok : am_ok G Ts) (h : am_stC G own isI (.iastore) n st AH = some (st', AH')) (hx : p.tables.exec = Jvm.exec) (hb : c.code = cc) (hdg : decode cc pc = .ok (.iastore, n)) (henv : am_env G D ca s)
    (hP : va_P D G.1 (am_w ad ca AH) H) (hD : va_D A (am_w ad ca AH)) (hS : va_S A H0 H locs)
    (kk : ∀ (ad' : Nat → Nat) (H1 : Heap) (locs1 : List Loc), am_agree AH.length ad ad' → va_P D G.1 (am_w ad' ca AH') H1 → va_D A (am_w ad' ca AH') → va_S A H0 H1 locs1 → W p l e R s m args below meth c H1 locs1 (cells + (AH'.length - AH.length)) (slots + (am_sz AH' - am_sz AH)) Q (F0 m (pc + n) ls (st'.map (am_v ad')))) :
    W p l e R s m args below meth c H locs cells slots Q (F0 m pc ls (st.map (am_v ad))) := by
  dsimp only [am_stC] at h
  split at h
  · rename_i x j a r
    split at h
    · rename_i w f hf
      split at h
      · rename_i hc
        obtain ⟨rfl, hj⟩ := hc
        cases h
        obtain ⟨t0, ht⟩ := am_ty (ca := ca) hok.2.2.2.2.2.2.1.1
        exact va_iast hx hb henv.1 hP hD hS a t0 (am_w_get hf) ht (am_inb_in hj) hdg (am_kset (c1 := .inl (.int, w, .inl (upd f j.toNatClampNeg x))) (n := 1) hf rfl kk)
      · cases h
    · cases h
  · cases h
set_option maxHeartbeats 4000000 in
theorem am_sC_zast {n : Nat} {st st' : List Value} {AH AH' : am_H} (hok : am_ok G Ts) (h : am_stC G own isI (.bastore) n st AH = some (st', AH')) (hx : p.tables.exec = Jvm.exec) (hb : c.code = cc) (hdg : decode cc pc = .ok (.bastore, n)) (henv : am_env G D ca s)
    (hP : va_P D G.1 (am_w ad ca AH) H) (hD : va_D A (am_w ad ca AH)) (hS : va_S A H0 H locs)
    (kk : ∀ (ad' : Nat → Nat) (H1 : Heap) (locs1 : List Loc), am_agree AH.length ad ad' → va_P D G.1 (am_w ad' ca AH') H1 → va_D A (am_w ad' ca AH') → va_S A H0 H1 locs1 → W p l e R s m args below meth c H1 locs1 (cells + (AH'.length - AH.length)) (slots + (am_sz AH' - am_sz AH)) Q (F0 m (pc + n) ls (st'.map (am_v ad')))) :
    W p l e R s m args below meth c H locs cells slots Q (F0 m pc ls (st.map (am_v ad))) := by
  dsimp only [am_stC] at h
  split at h
  · rename_i x j a r
    split at h
    · rename_i w f hf
      split at h
      · rename_i hc
        obtain ⟨rfl, hj⟩ := hc
        cases h
        obtain ⟨t0, ht⟩ := am_ty (ca := ca) hok.2.2.2.2.2.2.1.2.2
        exact va_zast hx hb henv.1 hP hD hS a t0 (am_w_get hf) ht (am_inb_in hj) hdg (am_kset (c1 := .inl (.boolean, w, .inl (upd f j.toNatClampNeg (vp_nar .boolean x)))) (n := 1) hf rfl kk)
      · cases h
    · cases h
  · cases h
set_option maxHeartbeats 4000000 in
theorem am_sC_last {n : Nat} {st st' : List Value} {AH AH' : am_H} (hok : am_ok G Ts) (h : am_stC G own isI (.lastore) n st AH = some (st', AH')) (hx : p.tables.exec = Jvm.exec) (hb : c.code = cc) (hdg : decode cc pc = .ok (.lastore, n)) (henv : am_env G D ca s)
    (hP : va_P D G.1 (am_w ad ca AH) H) (hD : va_D A (am_w ad ca AH)) (hS : va_S A H0 H locs)
    (kk : ∀ (ad' : Nat → Nat) (H1 : Heap) (locs1 : List Loc), am_agree AH.length ad ad' → va_P D G.1 (am_w ad' ca AH') H1 → va_D A (am_w ad' ca AH') → va_S A H0 H1 locs1 → W p l e R s m args below meth c H1 locs1 (cells + (AH'.length - AH.length)) (slots + (am_sz AH' - am_sz AH)) Q (F0 m (pc + n) ls (st'.map (am_v ad')))) :
    W p l e R s m args below meth c H locs cells slots Q (F0 m pc ls (st.map (am_v ad))) := by
  dsimp only [am_stC] at h
  split at h
  · rename_i x j a r
    split at h
    · rename_i w f hf
      split at h
      · rename_i hc
        obtain ⟨rfl, hj⟩ := hc
        cases h
        obtain ⟨t0, ht⟩ := am_ty (ca := ca) hok.2.2.2.2.2.2.1.2.1
        exact va_last hx hb henv.1 hP hD hS a t0 (am_w_get hf) ht (am_inb_in hj) hdg (am_kset (c1 := .inl (.long, w, .inr (.inl (vp_updL f j.toNatClampNeg x)))) (n := 1) hf rfl kk)
      · cases h
    · cases h
  · cases h
set_option maxHeartbeats 4000000 in
theorem am_sC_aast {n : Nat} {st st' : List Value} {AH AH' : am_H} (hok : am_ok G Ts) (h : am_stC G own isI (.aastore) n st AH = some (st', AH')) (hx : p.tables.exec = Jvm.exec) (hb : c.code = cc) (hdg : decode cc pc = .ok (.aastore, n)) (henv : am_env G D ca s)
    (hP : va_P D G.1 (am_w ad ca AH) H) (hD : va_D A (am_w ad ca AH)) (hS : va_S A H0 H locs)
    (kk : ∀ (ad' : Nat → Nat) (H1 : Heap) (locs1 : List Loc), am_agree AH.length ad ad' → va_P D G.1 (am_w ad' ca AH') H1 → va_D A (am_w ad' ca AH') → va_S A H0 H1 locs1 → W p l e R s m args below meth c H1 locs1 (cells + (AH'.length - AH.length)) (slots + (am_sz AH' - am_sz AH)) Q (F0 m (pc + n) ls (st'.map (am_v ad')))) :
    W p l e R s m args below meth c H locs cells slots Q (F0 m pc ls (st.map (am_v ad))) := by
  dsimp only [am_stC] at h
  split at h
  · rename_i v j a r
    split at h
    · rename_i C w f ci fs hf hv
      split at h
      · rename_i hc
        obtain ⟨rfl, hj, hm, hC⟩ := hc
        cases h
        obtain ⟨t0, ht⟩ := am_ty (ca := ca) hm
        cases hq : G.1[ci]? with
        | none => rw [hq] at hC; cases hC
        | some q =>
          rw [hq] at hC
          cases hC
          have k2 := am_kset (c := c) (st' := st') (n := 1) (cells := cells) (slots := slots) (c1 := .inl (.object q.1, w, .inr (.inr (.inr (.inr (va_up f j.toNatClampNeg (some v))))))) hf rfl kk
          refine va_astq hx hb henv.1 hP hD hS a t0 v ci (am_w_get hf) ht (am_w_get hv) hq (am_inb_in hj) hdg (fun H1 locs1 hP1 hD1 hS1 => ?_)
          refine k2 H1 locs1 ?_ ?_ hS1
          · show va_P D G.1 ((am_w ad ca AH).set a (ad a, .inl (ca (.object q.1), w, .inr (.inr (.inr (.inr (fun i => (va_up f j.toNatClampNeg (some v) i).map ad))))))) H1
            rw [am_up_map]; exact hP1
          · show va_D A ((am_w ad ca AH).set a (ad a, .inl (ca (.object q.1), w, .inr (.inr (.inr (.inr (fun i => (va_up f j.toNatClampNeg (some v) i).map ad)))))))
            rw [am_up_map]; exact hD1
      · cases h
    · cases h
  · cases h
set_option maxHeartbeats 4000000 in
theorem am_sC_alen {n : Nat} {st st' : List Value} {AH AH' : am_H} (hok : am_ok G Ts) (h : am_stC G own isI (.arraylength) n st AH = some (st', AH')) (hx : p.tables.exec = Jvm.exec) (hb : c.code = cc) (hdg : decode cc pc = .ok (.arraylength, n)) (henv : am_env G D ca s)
    (hP : va_P D G.1 (am_w ad ca AH) H) (hD : va_D A (am_w ad ca AH)) (hS : va_S A H0 H locs)
    (kk : ∀ (ad' : Nat → Nat) (H1 : Heap) (locs1 : List Loc), am_agree AH.length ad ad' → va_P D G.1 (am_w ad' ca AH') H1 → va_D A (am_w ad' ca AH') → va_S A H0 H1 locs1 → W p l e R s m args below meth c H1 locs1 (cells + (AH'.length - AH.length)) (slots + (am_sz AH' - am_sz AH)) Q (F0 m (pc + n) ls (st'.map (am_v ad')))) :
    W p l e R s m args below meth c H locs cells slots Q (F0 m pc ls (st.map (am_v ad))) := by
  dsimp only [am_stC] at h
  split at h
  · rename_i a r
    split at h
    · rename_i ty w f hf
      split at h
      · rename_i hc
        obtain ⟨rfl, hm⟩ := hc
        cases h
        obtain ⟨t0, ht⟩ := am_ty (ca := ca) hm
        refine va_alen hx hb henv.1 hP a t0 (am_w_get hf) ht (v := Int32.ofNat w) ?_ hdg (am_kid (st' := .int (Int32.ofNat w) :: r) hP hD hS kk)
        rcases f with f | f | f | f | f <;> rfl
      · cases h
    · cases h
  · cases h
set_option maxHeartbeats 4000000 in
theorem am_sC_ldc {n idx : Nat} {st st' : List Value} {AH AH' : am_H} (hok : am_ok G Ts) (h : am_stC G own isI (.ldc idx) n st AH = some (st', AH')) (hx : p.tables.exec = Jvm.exec) (hb : c.code = cc) (hdg : decode cc pc = .ok (.ldc idx, n)) (hown : s.vm.findClass own = some m.cls) (hts : ∀ w ∈ Ts, w.before args s = true)
    (hP : va_P D G.1 (am_w ad ca AH) H) (hD : va_D A (am_w ad ca AH)) (hS : va_S A H0 H locs)
    (kk : ∀ (ad' : Nat → Nat) (H1 : Heap) (locs1 : List Loc), am_agree AH.length ad ad' → va_P D G.1 (am_w ad' ca AH') H1 → va_D A (am_w ad' ca AH') → va_S A H0 H1 locs1 → W p l e R s m args below meth c H1 locs1 (cells + (AH'.length - AH.length)) (slots + (am_sz AH' - am_sz AH)) Q (F0 m (pc + n) ls (st'.map (am_v ad')))) :
    W p l e R s m args below meth c H locs cells slots Q (F0 m pc ls (st.map (am_v ad))) := by
  dsimp only [am_stC] at h
  split at h
  · rename_i z1 z2 v hk
    split at h
    · rename_i h3
      subst h3
      cases h
      exact lv_ldc hx hb hown (hts _ (hok.2.2.2.2.1 own idx _ _ v hk)) hdg (am_kid (st' := .int v.toInt32 :: st) hP hD hS kk)
    · cases h
  · cases h
set_option maxHeartbeats 4000000 in
theorem am_sC_ldc2 {n idx : Nat} {st st' : List Value} {AH AH' : am_H} (hok : am_ok G Ts) (h : am_stC G own isI (.ldc2_w idx) n st AH = some (st', AH')) (hx : p.tables.exec = Jvm.exec) (hb : c.code = cc) (hdg : decode cc pc = .ok (.ldc2_w idx, n)) (hown : s.vm.findClass own = some m.cls) (hts : ∀ w ∈ Ts, w.before args s = true)
    (hP : va_P D G.1 (am_w ad ca AH) H) (hD : va_D A (am_w ad ca AH)) (hS : va_S A H0 H locs)
    (kk : ∀ (ad' : Nat → Nat) (H1 : Heap) (locs1 : List Loc), am_agree AH.length ad ad' → va_P D G.1 (am_w ad' ca AH') H1 → va_D A (am_w ad' ca AH') → va_S A H0 H1 locs1 → W p l e R s m args below meth c H1 locs1 (cells + (AH'.length - AH.length)) (slots + (am_sz AH' - am_sz AH)) Q (F0 m (pc + n) ls (st'.map (am_v ad')))) :
    W p l e R s m args below meth c H locs cells slots Q (F0 m pc ls (st.map (am_v ad))) := by
  dsimp only [am_stC] at h
  split at h
  · rename_i z1 z2 v hk
    split at h
    · rename_i h3
      subst h3
      cases h
      exact lv_ldc2 hx hb hown (hts _ (hok.2.2.2.2.2.1 own idx _ _ v hk)) hdg (am_kid (st' := .long v :: st) hP hD hS kk)
    · cases h
  · cases h
set_option maxHeartbeats 4000000 in
theorem am_sC_new {n idx : Nat} {st st' : List Value} {AH AH' : am_H} (hok : am_ok G Ts) (h : am_stC G own isI (.new idx) n st AH = some (st', AH')) (hx : p.tables.exec = Jvm.exec) (hb : c.code = cc) (hdg : decode cc pc = .ok (.new idx, n)) (hown : s.vm.findClass own = some m.cls) (hts : ∀ w ∈ Ts, w.before args s = true) (henv : am_env G D ca s) (hA : ∀ q, H0.size ≤ q → A q) (hw : am_hw AH) (hsv : ∀ v ∈ st, am_vw AH.length v) (hcl : cells + (AH'.length - AH.length) ≤ R.cells) (hsl : slots + (am_sz AH' - am_sz AH) ≤ R.slots)
    (hP : va_P D G.1 (am_w ad ca AH) H) (hD : va_D A (am_w ad ca AH)) (hS : va_S A H0 H locs)
    (kk : ∀ (ad' : Nat → Nat) (H1 : Heap) (locs1 : List Loc), am_agree AH.length ad ad' → va_P D G.1 (am_w ad' ca AH') H1 → va_D A (am_w ad' ca AH') → va_S A H0 H1 locs1 → W p l e R s m args below meth c H1 locs1 (cells + (AH'.length - AH.length)) (slots + (am_sz AH' - am_sz AH)) Q (F0 m (pc + n) ls (st'.map (am_v ad')))) :
    W p l e R s m args below meth c H locs cells slots Q (F0 m pc ls (st.map (am_v ad))) := by
  dsimp only [am_stC] at h
  split at h
  · rename_i ci z1 z2 hk
    split at h
    · rename_i H' hH
      split at h
      · rename_i h3
        subst h3
        cases h
        obtain ⟨C, T, N, hc, hlk, hin, hini⟩ := hok.2.2.1 own idx ci _ _ hk
        obtain ⟨hi1, hty, hnm⟩ := hok.2.1 ci C T N hc
        unfold am_new at hH
        rw [hc] at hH
        cases hH
        have e2 : (AH ++ [Sum.inr (ci, (List.range N).map (fun k => defaultValue (G.2.1 ci k)))]).length - AH.length = 1 := by simp
        have e3 : am_sz (AH ++ [Sum.inr (ci, (List.range N).map (fun k => defaultValue (G.2.1 ci k)))]) - am_sz AH = N := by rw [am_sz_app]; simp [am_cz]
        refine va_new (c0 := c) (fs := (List.range N).map (fun k => defaultValue (G.2.1 ci k))) hx hb hts hi1 (G.2.1 ci) hty hown (hts _ hlk) (hts _ hin) (hts _ hini) henv.1 hP hD hS hA hc (fun j hj => ?_) (by rw [e2] at hcl; exact hcl) (by rw [e3] at hsl; exact hsl) hdg (fun q H1 hP1 hD1 hS1 => ?_)
        · show _ = ((List.range N).map (fun k => defaultValue (G.2.1 ci k))).getD j .null
          simp [hj]
        · have hE : ∀ ad' : Nat → Nat, am_c ad' ca (Sum.inr (ci, (List.range N).map (fun k => defaultValue (G.2.1 ci k)))) = .inr (ci, (List.range N).map (fun k => defaultValue (G.2.1 ci k))) := by
            intro ad'
            show (Sum.inr (ci, ((List.range N).map (fun k => defaultValue (G.2.1 ci k))).map (am_v ad')) : va_E) = _
            rw [List.map_map]
            congr 2
            apply List.map_congr_left
            intro k _
            exact am_dv ad' _
          have k1 := am_knew (c := c) (n := 3) hw hsv hE hP1 hD1 hS1 kk
          have e4 : am_cz (Sum.inr (ci, (List.range N).map (fun k => defaultValue (G.2.1 ci k)))) = N := by simp [am_cz]
          rw [e4] at k1
          exact k1
      · cases h
    · cases h
  · cases h
set_option maxHeartbeats 4000000 in
theorem am_sC_newa {n : Nat} {aty : ArrayType} {st st' : List Value} {AH AH' : am_H} (hok : am_ok G Ts) (h : am_stC G own isI (.newarray aty) n st AH = some (st', AH')) (hx : p.tables.exec = Jvm.exec) (hb : c.code = cc) (hdg : decode cc pc = .ok (.newarray aty, n)) (hown : s.vm.findClass own = some m.cls) (hts : ∀ w ∈ Ts, w.before args s = true) (henv : am_env G D ca s) (hA : ∀ q, H0.size ≤ q → A q) (hw : am_hw AH) (hsv : ∀ v ∈ st, am_vw AH.length v) (hcl : cells + (AH'.length - AH.length) ≤ R.cells) (hsl : slots + (am_sz AH' - am_sz AH) ≤ R.slots)
    (hP : va_P D G.1 (am_w ad ca AH) H) (hD : va_D A (am_w ad ca AH)) (hS : va_S A H0 H locs)
    (kk : ∀ (ad' : Nat → Nat) (H1 : Heap) (locs1 : List Loc), am_agree AH.length ad ad' → va_P D G.1 (am_w ad' ca AH') H1 → va_D A (am_w ad' ca AH') → va_S A H0 H1 locs1 → W p l e R s m args below meth c H1 locs1 (cells + (AH'.length - AH.length)) (slots + (am_sz AH' - am_sz AH)) Q (F0 m (pc + n) ls (st'.map (am_v ad')))) :
    W p l e R s m args below meth c H locs cells slots Q (F0 m pc ls (st.map (am_v ad))) := by
  dsimp only [am_stC] at h
  split at h
  · rename_i w r
    split at h
    · rename_i H' hH
      split at h
      · rename_i h3
        subst h3
        cases h
        unfold am_newa at hH
        split at hH
        · rename_i a0 ha0
          split at hH
          · rename_i hc
            obtain ⟨hn0, hby, hm⟩ := hc
            cases hH
            have hz : a0.1 = w.toNatClampNeg ∧ (∀ ad' : Nat → Nat, am_a ad' a0 = a0) ∧ ∀ cA : ClassId, vp_cell cA a0 = arrV cA w.toNatClampNeg (fun _ => defaultValue (newarray.typeOf aty)) := by
              cases hty : newarray.typeOf aty <;> rw [hty] at ha0 <;> cases ha0 <;> exact ⟨rfl, fun _ => rfl, fun _ => rfl⟩
            have e2 : (AH ++ [Sum.inl (newarray.typeOf aty, a0)]).length - AH.length = 1 := by simp
            have e4 : am_cz (Sum.inl (newarray.typeOf aty, a0)) = w.toNatClampNeg := hz.1
            have e3 : am_sz (AH ++ [Sum.inl (newarray.typeOf aty, a0)]) - am_sz AH = w.toNatClampNeg := by rw [am_sz_app, e4]; omega
            refine va_newa hx hb (hts _ (hok.2.2.2.2.2.2.2 aty hm)) rfl henv.1 hP hD hS hA (a0 := a0) hz.2.2 hn0 rfl hby (by rw [e2] at hcl; exact hcl) (by rw [e3] at hsl; exact hsl) hdg (fun q cA H1 hK1 hP1 hD1 hS1 => ?_)
            have hcA : ca (newarray.typeOf aty) = cA := by
              obtain ⟨t0, ht⟩ := am_ty (ca := ca) hm
              have g1 := (henv.1.2 t0 _ ht).2
              have g2 := (hK1.2 (am_tys G ca).length (cA, newarray.typeOf aty) (by simp)).2
              exact am_RA_eq g1 g2
            have k1 := am_knew (c := c) (n := 2) (r := r) (E := .inl (cA, a0)) hw (fun v hv => hsv v (List.mem_cons_of_mem _ hv)) (fun ad' => by show (Sum.inl (ca (newarray.typeOf aty), am_a ad' a0) : va_E) = _; rw [hz.2.1, hcA]) hP1 hD1 hS1 kk
            rw [e4] at k1
            exact k1
          · cases hH
        · cases hH
      · cases h
    · cases h
  · cases h
set_option maxHeartbeats 4000000 in
theorem am_sC_newq {n idx : Nat} {st st' : List Value} {AH AH' : am_H} (hok : am_ok G Ts) (h : am_stC G own isI (.anewarray idx) n st AH = some (st', AH')) (hx : p.tables.exec = Jvm.exec) (hb : c.code = cc) (hdg : decode cc pc = .ok (.anewarray idx, n)) (hown : s.vm.findClass own = some m.cls) (hts : ∀ w ∈ Ts, w.before args s = true) (henv : am_env G D ca s) (hA : ∀ q, H0.size ≤ q → A q) (hw : am_hw AH) (hsv : ∀ v ∈ st, am_vw AH.length v) (hcl : cells + (AH'.length - AH.length) ≤ R.cells) (hsl : slots + (am_sz AH' - am_sz AH) ≤ R.slots)
    (hP : va_P D G.1 (am_w ad ca AH) H) (hD : va_D A (am_w ad ca AH)) (hS : va_S A H0 H locs)
    (kk : ∀ (ad' : Nat → Nat) (H1 : Heap) (locs1 : List Loc), am_agree AH.length ad ad' → va_P D G.1 (am_w ad' ca AH') H1 → va_D A (am_w ad' ca AH') → va_S A H0 H1 locs1 → W p l e R s m args below meth c H1 locs1 (cells + (AH'.length - AH.length)) (slots + (am_sz AH' - am_sz AH)) Q (F0 m (pc + n) ls (st'.map (am_v ad')))) :
    W p l e R s m args below meth c H locs cells slots Q (F0 m pc ls (st.map (am_v ad))) := by
  dsimp only [am_stC] at h
  split at h
  · rename_i w r ci z1 z2 hk
    split at h
    · rename_i H' hH
      split at h
      · rename_i h3
        subst h3
        cases h
        obtain ⟨C, T, N, hc, hlk, -, -⟩ := hok.2.2.1 own idx ci _ _ hk
        unfold am_newq at hH
        rw [hc] at hH
        dsimp only at hH
        split at hH
        · rename_i hcc
          obtain ⟨hn0, hby, hm⟩ := hcc
          cases hH
          have e2 : (AH ++ [(Sum.inl (FieldType.object C, w.toNatClampNeg, .inr (.inr (.inr (.inr (fun _ => none))))) : am_C)]).length - AH.length = 1 := by simp
          have e3 : am_sz (AH ++ [(Sum.inl (FieldType.object C, w.toNatClampNeg, .inr (.inr (.inr (.inr (fun _ => none))))) : am_C)]) - am_sz AH = w.toNatClampNeg := by rw [am_sz_app]; simp [am_cz]
          refine va_newq hx hb hown (hts _ hlk) (henv.2 C hm) henv.1 hP hD hS hA hn0 rfl hby (by rw [e2] at hcl; exact hcl) (by rw [e3] at hsl; exact hsl) hdg (fun q cA H1 hK1 hP1 hD1 hS1 => ?_)
          have hcA : ca (.object C) = cA := by
            obtain ⟨t0, ht⟩ := am_ty (ca := ca) hm
            have g1 := (henv.1.2 t0 _ ht).2
            have g2 := (hK1.2 (am_tys G ca).length (cA, .object C) (by simp)).2
            exact am_RA_eq g1 g2
          exact am_knew (c := c) (n := 3) (r := r) (c1 := .inl (FieldType.object C, w.toNatClampNeg, .inr (.inr (.inr (.inr (fun _ => none)))))) (E := .inl (cA, w.toNatClampNeg, .inr (.inr (.inr (.inr (fun _ => none)))))) hw (fun v hv => hsv v (List.mem_cons_of_mem _ hv)) (fun ad' => by rw [← hcA]; rfl) hP1 hD1 hS1 kk
        · cases hH
      · cases h
    · cases h
  · cases h
end AMD
end
section
/-! calls, returns, runs -/
def am_ent (H : am_H) (b ci : Nat) : Bool := match H[b]? with
  | some (.inr (c, _)) => c == ci
  | _ => false
def am_isC (G : am_G) (H : am_H) (b : Nat) (C : String) : Bool := match H[b]? with
  | some (.inr (ci, _)) => match G.1[ci]? with
    | some q => q.1 == C
    | none => false
  | _ => false
def am_out (r : List Value) (x : Option (Option Value × am_H)) : Option (List Value × am_H) := match x with
  | some (v, H') => some (v.toList ++ r, H')
  | none => none
def am_cpy (n : Nat) (st : List Value) (H : am_H) : Option (List Value × am_H) := match st with
  | .int w :: .int dp :: .ref a :: .int sp :: .ref a0 :: r => match H[a0]?, H[a]? with
    | some (.inl (.int, n0, .inl f)), some (.inl (.int, n1, .inl g)) => if n = 3 ∧ (r.map fun v => v.category).sum ≤ 8 ∧ ¬ sp < 0 ∧ ¬ dp < 0 ∧ ¬ w < 0 ∧ sp.toNatClampNeg + w.toNatClampNeg ≤ n0 ∧ dp.toNatClampNeg + w.toNatClampNeg ≤ n1 then some (r, H.set a (.inl (.int, n1, .inl (va_cpy f g sp.toNatClampNeg dp.toNatClampNeg w.toNatClampNeg)))) else none
    | some (.inl (.long, n0, .inr (.inl f))), some (.inl (.long, n1, .inr (.inl g))) => if n = 3 ∧ (r.map fun v => v.category).sum ≤ 8 ∧ ¬ sp < 0 ∧ ¬ dp < 0 ∧ ¬ w < 0 ∧ sp.toNatClampNeg + w.toNatClampNeg ≤ n0 ∧ dp.toNatClampNeg + w.toNatClampNeg ≤ n1 then some (r, H.set a (.inl (.long, n1, .inr (.inl (va_cpy f g sp.toNatClampNeg dp.toNatClampNeg w.toNatClampNeg))))) else none
    | _, _ => none
  | _ => none
/-- a call: of a method of an object, or of a class -/
def am_cv (G : am_G) (call : Nat → List Value → am_H → Option (Option Value × am_H)) (j n : Nat) (chk : Bool) (st : List Value) (H : am_H) : Option (List Value × am_H) := match G.2.2.2.1[j]? with
  | some M => match st.drop M.2.2.2.2.1 with
    | .ref b :: r => if n = 3 ∧ M.2.2.2.2.1 ≤ st.length ∧ (r.map fun v => v.category).sum ≤ 8 ∧ (chk = true → am_isC G H b M.1.cls = true) then am_out r (call j (.ref b :: (st.take M.2.2.2.2.1).reverse) H) else none
    | _ => none
  | none => none
def am_cs (G : am_G) (call : Nat → List Value → am_H → Option (Option Value × am_H)) (j n : Nat) (st : List Value) (H : am_H) : Option (List Value × am_H) := match G.2.2.2.1[j]? with
  | some M => if n = 3 ∧ M.2.2.2.2.1 ≤ st.length ∧ ((st.drop M.2.2.2.2.1).map fun v => v.category).sum ≤ 8 then am_out (st.drop M.2.2.2.2.1) (call j (st.take M.2.2.2.2.1).reverse H) else none
  | none => none
def am_stD (G : am_G) (call : Nat → List Value → am_H → Option (Option Value × am_H)) (own : String) (i : Instr) (n : Nat) (st : List Value) (H : am_H) : Option (List Value × am_H) := match i with
  | .invokevirtual idx => match G.2.2.1 own idx with
    | some (1, j, 0, _) => am_cv G call j n true st H
    | _ => none
  | .invokespecial idx => match G.2.2.1 own idx with
    | some (1, j, 1, _) => am_cv G call j n false st H
    | some (1, j, 2, _) => am_cv G call j n false st H
    | some (5, _, _, _) => match st with
      | .ref _ :: r => if n = 3 ∧ (r.map fun v => v.category).sum ≤ 8 then some (r, H) else none
      | _ => none
    | _ => none
  | .invokestatic idx => match G.2.2.1 own idx with
    | some (1, j, 3, _) => am_cs G call j n st H
    | some (1, j, 4, _) => am_cs G call j n st H
    | some (4, _, _, _) => am_cpy n st H
    | some (8, _, _, _) => match st with
      | .int y :: .int x :: r => if n = 3 ∧ (r.map fun v => v.category).sum ≤ 8 then some (.int (if x < y then y else x) :: r, H) else none
      | _ => none
    | some (9, _, _, _) => match st with
      | .int y :: .int x :: r => if n = 3 ∧ (r.map fun v => v.category).sum ≤ 8 then some (.int (if y < x then y else x) :: r, H) else none
      | _ => none
    | _ => none
  | _ => none
def am_ret (ret : Option FieldType) (i : Instr) (n : Nat) (st : List Value) : Option (Option Value) := match i with
  | .return_ => match st, ret with
    | [], none => if n = 1 then some none else none
    | _, _ => none
  | .ireturn => match st, ret with
    | [.int v], some ty => if n = 1 ∧ am_okv ty (.int v) = true then some (some (.int v)) else none
    | _, _ => none
  | .lreturn => match st, ret with
    | [.long v], some .long => if n = 1 then some (some (.long v)) else none
    | _, _ => none
  | .areturn => match st, ret with
    | [.ref a], some (.object _) => if n = 1 then some (some (.ref a)) else none
    | [.ref a], some (.array _) => if n = 1 then some (some (.ref a)) else none
    | _, _ => none
  | _ => none
def am_row (M : am_M) (pc : Nat) : Option (Instr × Nat) := (M.2.2.2.2.2.find? (fun q => q.1 == pc)).map (fun q => q.2)
/-- one instruction: on we go, or the answer -/
def am_one (G : am_G) (call : Nat → List Value → am_H → Option (Option Value × am_H)) (M : am_M) (i : Instr) (n pc : Nat) (lv : am_L) (st : List Value) (H : am_H) : Option ((Nat × am_L × List Value × am_H) ⊕ (Option Value × am_H)) :=
  match am_stA M.2.2.1 i n lv st with
  | some (lv', st') => some (.inl (pc + n, lv', st', H))
  | none => match am_stB i n pc st with
    | some (pc', st') => some (.inl (pc', lv, st', H))
    | none => match am_stC G M.1.cls (M.1.name == "<init>") i n st H with
      | some (st', H') => some (.inl (pc + n, lv, st', H'))
      | none => match am_stD G call M.1.cls i n st H with
        | some (st', H') => some (.inl (pc + n, lv, st', H'))
        | none => match am_ret M.2.2.2.1 i n st with
          | some v => some (.inr (v, H))
          | none => none
def am_exec (G : am_G) (call : Nat → List Value → am_H → Option (Option Value × am_H)) (M : am_M) : Nat → Nat → am_L → List Value → am_H → Option (Option Value × am_H)
  | 0, _, _, _, _ => none
  | f + 1, pc, lv, st, H => match am_row M pc with
    | some (i, n) => match am_one G call M i n pc lv st H with
      | some (.inl (pc', lv', st', H')) => am_exec G call M f pc' lv' st' H'
      | some (.inr r) => some r
      | none => none
    | none => none
def am_call (G : am_G) (fuel : Nat) : Nat → Nat → List Value → am_H → Option (Option Value × am_H)
  | 0, _, _, _ => none
  | d + 1, j, as, H => match G.2.2.2.1[j]? with
    | some M => if (lg_sl as).length ≤ M.2.2.1 ∧ M.2.2.1 ≤ 45 then am_exec G (am_call G fuel d) M fuel 0 (lv_args 0 as) [] H else none
    | none => none
/-! references stay within; the heap grows -/
def am_ws (N : Nat) (st : List Value) : Prop := ∀ v ∈ st, am_vw N v
def am_wl (N : Nat) (lv : am_L) : Prop := ∀ q ∈ lv, am_vw N q.2
theorem am_vw_i (N : Nat) (x : Int32) : am_vw N (.int x) := fun i h => by cases h
theorem am_vw_l (N : Nat) (x : Int64) : am_vw N (.long x) := fun i h => by cases h
theorem am_vw_n (N : Nat) : am_vw N .null := fun i h => by cases h
theorem am_vw_mono {N N' : Nat} (h : N ≤ N') {v : Value} (hv : am_vw N v) : am_vw N' v := fun i hi => Nat.lt_of_lt_of_le (hv i hi) h
theorem am_ws_mono {N N' : Nat} (h : N ≤ N') {st : List Value} (hv : am_ws N st) : am_ws N' st := fun v hx => am_vw_mono h (hv v hx)
theorem am_wl_mono {N N' : Nat} (h : N ≤ N') {lv : am_L} (hv : am_wl N lv) : am_wl N' lv := fun q hx => am_vw_mono h (hv q hx)
theorem am_ws_cons {N : Nat} {v : Value} {st : List Value} : am_ws N (v :: st) ↔ am_vw N v ∧ am_ws N st := List.forall_mem_cons
theorem am_ws_nil (N : Nat) : am_ws N [] := fun v h => by cases h
theorem am_cw_mono {N N' : Nat} (h : N ≤ N') {c : am_C} (hc : am_cw N c) : am_cw N' c := by
  cases c with
  | inl x =>
    obtain ⟨ty, w, f | f | f | f | f⟩ := x
    · exact trivial
    · exact trivial
    · exact trivial
    · exact trivial
    · exact fun j i hj => Nat.lt_of_lt_of_le ((show ∀ j i, f j = some i → i < N from hc) j i hj) h
  | inr x => exact fun v hv => am_vw_mono h ((show ∀ v ∈ x.2, am_vw N v from hc) v hv)
theorem am_hw_set {H : am_H} {a : Nat} {c : am_C} (hw : am_hw H) (hc : am_cw H.length c) : am_hw (H.set a c) := by
  intro x hx
  rw [List.length_set]
  rcases List.mem_or_eq_of_mem_set hx with h | h
  · exact hw x h
  · rw [h]; exact hc
theorem am_hw_app {H : am_H} {c : am_C} (hw : am_hw H) (hc : am_cw H.length c) : am_hw (H ++ [c]) := by
  intro x hx
  have hl : H.length ≤ (H ++ [c]).length := by simp
  rcases List.mem_append.mp hx with h | h
  · exact am_cw_mono hl (hw x h)
  · rw [List.mem_singleton.mp h]; exact am_cw_mono hl hc
theorem am_wl_s1 {N : Nat} {lv : am_L} {k : Nat} {v : Value} (hl : am_wl N lv) (hv : am_vw N v) : am_wl N (am_s1 lv k v) := by
  intro q hq
  rcases List.mem_cons.mp hq with rfl | h
  · exact hv
  · exact hl q (List.mem_filter.mp h).1
theorem am_wl_s2 {N : Nat} {lv : am_L} {k : Nat} {v : Value} (hl : am_wl N lv) (hv : am_vw N v) : am_wl N (am_s2 lv k v) := by
  intro q hq
  rcases List.mem_cons.mp hq with rfl | h
  · exact hv
  · exact hl q (List.mem_filter.mp h).1
theorem am_wl_ld {N : Nat} {lv : am_L} {k : Nat} {v : Value} (hl : am_wl N lv) (h : am_ld lv k = some v) : am_vw N v := hl (k, v) (am_ld_mem h)
set_option maxHeartbeats 4000000 in
theorem am_wA {N nL n : Nat} {i : Instr} {lv lv' : am_L} {st st' : List Value} (h : am_stA nL i n lv st = some (lv', st')) (hl : am_wl N lv) (hs : am_ws N st) : am_wl N lv' ∧ am_ws N st' := by
  have i2 : ∀ f, am_i2 lv n f st = some (lv', st') → am_wl N lv' ∧ am_ws N st' := fun f h => by
    obtain ⟨x, y, z, r, hz, rfl, rfl, rfl, rfl⟩ := am_i2_inv h
    exact ⟨hl, am_ws_cons.mpr ⟨am_vw_i N z, (am_ws_cons.mp (am_ws_cons.mp hs).2).2⟩⟩
  have l2 : ∀ f, am_l2 lv n f st = some (lv', st') → am_wl N lv' ∧ am_ws N st' := fun f h => by
    obtain ⟨x, y, r, rfl, rfl, rfl, rfl⟩ := am_l2_inv h
    exact ⟨hl, am_ws_cons.mpr ⟨am_vw_l N _, (am_ws_cons.mp (am_ws_cons.mp hs).2).2⟩⟩
  have il : ∀ f, am_il lv n f st = some (lv', st') → am_wl N lv' ∧ am_ws N st' := fun f h => by
    obtain ⟨x, y, r, rfl, rfl, rfl, rfl⟩ := am_il_inv h
    exact ⟨hl, am_ws_cons.mpr ⟨am_vw_l N _, (am_ws_cons.mp (am_ws_cons.mp hs).2).2⟩⟩
  have ps : ∀ m v, am_vw N v → am_ps lv n m v st = some (lv', st') → am_wl N lv' ∧ am_ws N st' := fun m v hv h => by
    obtain ⟨rfl, rfl, rfl⟩ := am_ps_inv h
    exact ⟨hl, am_ws_cons.mpr ⟨hv, hs⟩⟩
  have gi : ∀ m k, am_gi lv n m k st = some (lv', st') → am_wl N lv' ∧ am_ws N st' := fun m k h => by
    obtain ⟨x, h1, rfl, rfl, rfl⟩ := am_gi_inv h
    exact ⟨hl, am_ws_cons.mpr ⟨am_vw_i N x, hs⟩⟩
  have gl : ∀ m k, am_gl lv n m k st = some (lv', st') → am_wl N lv' ∧ am_ws N st' := fun m k h => by
    obtain ⟨x, h1, rfl, rfl, rfl⟩ := am_gl_inv h
    exact ⟨hl, am_ws_cons.mpr ⟨am_vw_l N x, hs⟩⟩
  have ga : ∀ m k, am_ga lv n m k st = some (lv', st') → am_wl N lv' ∧ am_ws N st' := fun m k h => by
    rcases am_ga_inv h with ⟨x, h1, rfl, rfl, rfl⟩ | ⟨h1, rfl, rfl, rfl⟩ | ⟨x, h1, rfl, rfl, rfl⟩
    · exact ⟨hl, am_ws_cons.mpr ⟨am_wl_ld hl h1, hs⟩⟩
    · exact ⟨hl, am_ws_cons.mpr ⟨am_vw_n N, hs⟩⟩
    · exact ⟨hl, am_ws_cons.mpr ⟨am_wl_ld hl h1, hs⟩⟩
  have pi : ∀ m k, am_pi lv nL n m k st = some (lv', st') → am_wl N lv' ∧ am_ws N st' := fun m k h => by
    obtain ⟨x, rfl, rfl, hk, rfl⟩ := am_pi_inv h
    exact ⟨am_wl_s1 hl (am_vw_i N x), (am_ws_cons.mp hs).2⟩
  have pl : ∀ m k, am_pl lv nL n m k st = some (lv', st') → am_wl N lv' ∧ am_ws N st' := fun m k h => by
    obtain ⟨x, rfl, rfl, hk, rfl⟩ := am_pl_inv h
    exact ⟨am_wl_s2 hl (am_vw_l N x), (am_ws_cons.mp hs).2⟩
  have pa : ∀ m k, am_pa lv nL n m k st = some (lv', st') → am_wl N lv' ∧ am_ws N st' := fun m k h => by
    rcases am_pa_inv h with ⟨x, rfl, rfl, hk, rfl⟩ | ⟨rfl, rfl, hk, rfl⟩
    · exact ⟨am_wl_s1 hl (am_ws_cons.mp hs).1, (am_ws_cons.mp hs).2⟩
    · exact ⟨am_wl_s1 hl (am_vw_n N), (am_ws_cons.mp hs).2⟩
  cases i with
  | iconst v => exact ps _ _ (am_vw_i N _) h
  | bipush v => exact ps _ _ (am_vw_i N _) h
  | sipush v => exact ps _ _ (am_vw_i N _) h
  | lconst v => exact ps _ _ (am_vw_l N _) h
  | aconst_null => exact ps _ _ (am_vw_n N) h
  | iload_n k => exact gi _ _ h
  | iload k => exact gi _ _ h
  | lload_n k => exact gl _ _ h
  | lload k => exact gl _ _ h
  | aload_n k => exact ga _ _ h
  | aload k => exact ga _ _ h
  | istore_n k => exact pi _ _ h
  | istore k => exact pi _ _ h
  | lstore_n k => exact pl _ _ h
  | lstore k => exact pl _ _ h
  | astore_n k => exact pa _ _ h
  | astore k => exact pa _ _ h
  | iinc k d =>
    obtain ⟨x, h1, rfl, hk, rfl, rfl⟩ := am_inc_inv h
    exact ⟨am_wl_s1 hl (am_vw_i N _), hs⟩
  | iadd => exact i2 (fun x y => some (x + y)) h
  | isub => exact i2 (fun x y => some (x - y)) h
  | imul => exact i2 (fun x y => some (x * y)) h
  | iand => exact i2 (fun x y => some (x &&& y)) h
  | ior => exact i2 (fun x y => some (x ||| y)) h
  | ixor => exact i2 (fun x y => some (x ^^^ y)) h
  | idiv => exact i2 (fun x y => if y = 0 then none else some (x / y)) h
  | irem => exact i2 (fun x y => if y = 0 then none else some (x - x / y * y)) h
  | ishl => exact i2 (fun x y => some (x <<< (y &&& 31))) h
  | ishr => exact i2 (fun x y => some (x >>> (y &&& 31))) h
  | iushr => exact i2 (fun x y => some (x.toUInt32 >>> (y.toUInt32 &&& Int32.toUInt32 31)).toInt32) h
  | ladd => exact l2 (fun x y => x + y) h
  | lsub => exact l2 (fun x y => x - y) h
  | lmul => exact l2 (fun x y => x * y) h
  | land => exact l2 (fun x y => x &&& y) h
  | lor => exact l2 (fun x y => x ||| y) h
  | lxor => exact l2 (fun x y => x ^^^ y) h
  | lshl => exact il (fun x y => x <<< (y.toInt64 &&& 63)) h
  | lshr => exact il (fun x y => x >>> (y.toInt64 &&& 63)) h
  | lushr => exact il (fun x y => (x.toUInt64 >>> (y.toInt64.toUInt64 &&& Int64.toUInt64 63)).toInt64) h
  | ineg =>
    obtain ⟨v, w, r, hw, rfl, rfl, rfl, rfl⟩ := am_u_inv h
    cases v <;> cases hw
    exact ⟨hl, am_ws_cons.mpr ⟨am_vw_i N _, (am_ws_cons.mp hs).2⟩⟩
  | i2l =>
    obtain ⟨v, w, r, hw, rfl, rfl, rfl, rfl⟩ := am_u_inv h
    cases v <;> cases hw
    exact ⟨hl, am_ws_cons.mpr ⟨am_vw_l N _, (am_ws_cons.mp hs).2⟩⟩
  | l2i =>
    obtain ⟨v, w, r, hw, rfl, rfl, rfl, rfl⟩ := am_u_inv h
    cases v <;> cases hw
    exact ⟨hl, am_ws_cons.mpr ⟨am_vw_i N _, (am_ws_cons.mp hs).2⟩⟩
  | lcmp =>
    dsimp only [am_stA] at h
    split at h
    · split at h
      · cases h
        exact ⟨hl, am_ws_cons.mpr ⟨am_vw_i N _, (am_ws_cons.mp (am_ws_cons.mp hs).2).2⟩⟩
      · cases h
    · cases h
  | dup => obtain ⟨v, r, hc, rfl, rfl, rfl, rfl⟩ := am_dup_inv h; exact ⟨hl, am_ws_cons.mpr ⟨(am_ws_cons.mp hs).1, hs⟩⟩
  | pop => obtain ⟨v, hc, rfl, rfl, rfl⟩ := am_pop_inv h; exact ⟨hl, (am_ws_cons.mp hs).2⟩
  | pop2 => obtain ⟨v, hc, rfl, rfl, rfl⟩ := am_pop2_inv h; exact ⟨hl, (am_ws_cons.mp hs).2⟩
  | dup2 => obtain ⟨v, w, r, h1, h2, rfl, rfl, rfl, rfl⟩ := am_dup2_inv h; exact ⟨hl, am_ws_cons.mpr ⟨(am_ws_cons.mp hs).1, am_ws_cons.mpr ⟨(am_ws_cons.mp (am_ws_cons.mp hs).2).1, hs⟩⟩⟩
  | _ => cases h
set_option maxHeartbeats 4000000 in
theorem am_wB {N n pc pc' : Nat} {i : Instr} {st st' : List Value} (h : am_stB i n pc st = some (pc', st')) (hs : am_ws N st) : am_ws N st' := by
  cases i with
  | ifCond k off =>
    dsimp only [am_stB] at h
    split at h
    · obtain ⟨rfl, rfl, t, ht, rfl⟩ := am_br_inv h; exact (am_ws_cons.mp hs).2
    · cases h
  | if_icmp k off =>
    dsimp only [am_stB] at h
    split at h
    · obtain ⟨rfl, rfl, t, ht, rfl⟩ := am_br_inv h; exact (am_ws_cons.mp (am_ws_cons.mp hs).2).2
    · cases h
  | ifnull off =>
    dsimp only [am_stB] at h
    split at h
    · obtain ⟨rfl, rfl, t, ht, rfl⟩ := am_br_inv h; exact (am_ws_cons.mp hs).2
    · obtain ⟨rfl, rfl, t, ht, rfl⟩ := am_br_inv h; exact (am_ws_cons.mp hs).2
    · cases h
  | ifnonnull off =>
    dsimp only [am_stB] at h
    split at h
    · obtain ⟨rfl, rfl, t, ht, rfl⟩ := am_br_inv h; exact (am_ws_cons.mp hs).2
    · obtain ⟨rfl, rfl, t, ht, rfl⟩ := am_br_inv h; exact (am_ws_cons.mp hs).2
    · cases h
  | goto off =>
    obtain ⟨rfl, rfl, t, ht, rfl⟩ := am_br_inv (show am_br n pc off true st = some (pc', st') from h)
    exact hs
  | tableswitch dflt lo hi offs =>
    dsimp only [am_stB] at h
    split at h
    · split at h
      · obtain ⟨rfl, ht⟩ := am_jmp_inv h; exact (am_ws_cons.mp hs).2
      · split at h
        · obtain ⟨rfl, ht⟩ := am_jmp_inv h; exact (am_ws_cons.mp hs).2
        · cases h
    · cases h
  | lookupswitch dflt ps =>
    dsimp only [am_stB] at h
    split at h
    · split at h
      · obtain ⟨rfl, ht⟩ := am_jmp_inv h; exact (am_ws_cons.mp hs).2
      · cases h
    · cases h
  | _ => cases h
end
section
def am_gro (H H' : am_H) : Prop := am_hw H' ∧ H.length ≤ H'.length ∧ am_sz H ≤ am_sz H'
theorem am_gro_rf {H : am_H} (h : am_hw H) : am_gro H H := ⟨h, Nat.le_refl _, Nat.le_refl _⟩
theorem am_gro_tr {H H1 H2 : am_H} (h : am_gro H H1) (h2 : am_gro H1 H2) : am_gro H H2 := ⟨h2.1, Nat.le_trans h.2.1 h2.2.1, Nat.le_trans h.2.2 h2.2.2⟩
theorem am_gro_set {H : am_H} {a : Nat} {c0 c1 : am_C} (hw : am_hw H) (h0 : H[a]? = some c0) (hz : am_cz c1 = am_cz c0) (hc : am_cw H.length c1) : am_gro H (H.set a c1) := ⟨am_hw_set hw hc, by rw [List.length_set]; exact Nat.le_refl _, by rw [am_sz_set h0 hz]; exact Nat.le_refl _⟩
theorem am_gro_app {H : am_H} {c1 : am_C} (hw : am_hw H) (hc : am_cw H.length c1) : am_gro H (H ++ [c1]) := ⟨am_hw_app hw hc, by simp, by rw [am_sz_app]; omega⟩
theorem am_ws_new {H : am_H} {c1 : am_C} {r : List Value} (hr : am_ws H.length r) : am_ws (H ++ [c1]).length (.ref H.length :: r) := am_ws_cons.mpr ⟨fun i hi => by cases hi; simp, am_ws_mono (by simp) hr⟩
theorem am_dv_w (N : Nat) (ty : FieldType) : am_vw N (defaultValue ty) := fun i h => by cases ty <;> cases h
set_option maxHeartbeats 4000000 in
theorem am_wC_get {G : am_G} {own : String} {isI : Bool} {n idx : Nat} {st st' : List Value} {H H' : am_H} (h : am_stC G own isI (.getfield idx) n st H = some (st', H')) (hw : am_hw H) (hs : am_ws H.length st) : am_gro H H' ∧ am_ws H'.length st' := by
  dsimp only [am_stC] at h
  split at h
  · rename_i a r ci k hf
    split at h
    · rename_i v hv
      split at h
      · cases h
        obtain ⟨fs, hfs, hvk⟩ := am_getf_inv hv
        exact ⟨am_gro_rf hw, am_ws_cons.mpr ⟨(show ∀ v ∈ fs, am_vw H.length v from hw _ (List.mem_of_getElem? hfs)) v (List.mem_of_getElem? hvk), (am_ws_cons.mp hs).2⟩⟩
      · cases h
    · cases h
  · cases h
set_option maxHeartbeats 4000000 in
theorem am_wC_put {G : am_G} {own : String} {isI : Bool} {n idx : Nat} {st st' : List Value} {H H' : am_H} (h : am_stC G own isI (.putfield idx) n st H = some (st', H')) (hw : am_hw H) (hs : am_ws H.length st) : am_gro H H' ∧ am_ws H'.length st' := by
  dsimp only [am_stC] at h
  split at h
  · rename_i v a r ci k hf
    split at h
    · rename_i H1 hv
      split at h
      · cases h
        obtain ⟨fs, hfs, hkl, hcp, rfl⟩ := am_putf_inv hv
        have h1 := am_ws_cons.mp hs
        refine ⟨am_gro_set hw hfs (List.length_set ..) ?_, by rw [List.length_set]; exact (am_ws_cons.mp h1.2).2⟩
        intro x hx
        rcases List.mem_or_eq_of_mem_set hx with h | h
        · exact (show ∀ v ∈ fs, am_vw H.length v from hw _ (List.mem_of_getElem? hfs)) x h
        · rw [h]; exact h1.1
      · cases h
    · cases h
  · cases h
set_option maxHeartbeats 4000000 in
theorem am_wC_iald {G : am_G} {own : String} {isI : Bool} {n : Nat} {st st' : List Value} {H H' : am_H} (h : am_stC G own isI (.iaload) n st H = some (st', H')) (hw : am_hw H) (hs : am_ws H.length st) : am_gro H H' ∧ am_ws H'.length st' := by
  dsimp only [am_stC] at h
  split at h
  · rename_i j a r
    split at h
    · rename_i w f hf
      split at h
      · cases h
        exact ⟨am_gro_rf hw, am_ws_cons.mpr ⟨am_vw_i _ _, (am_ws_cons.mp (am_ws_cons.mp hs).2).2⟩⟩
      · cases h
    · cases h
  · cases h
set_option maxHeartbeats 4000000 in
theorem am_wC_zald {G : am_G} {own : String} {isI : Bool} {n : Nat} {st st' : List Value} {H H' : am_H} (h : am_stC G own isI (.baload) n st H = some (st', H')) (hw : am_hw H) (hs : am_ws H.length st) : am_gro H H' ∧ am_ws H'.length st' := by
  dsimp only [am_stC] at h
  split at h
  · rename_i j a r
    split at h
    · rename_i w f hf
      split at h
      · cases h
        exact ⟨am_gro_rf hw, am_ws_cons.mpr ⟨am_vw_i _ _, (am_ws_cons.mp (am_ws_cons.mp hs).2).2⟩⟩
      · cases h
    · cases h
  · cases h
set_option maxHeartbeats 4000000 in
theorem am_wC_lald {G : am_G} {own : String} {isI : Bool} {n : Nat} {st st' : List Value} {H H' : am_H} (h : am_stC G own isI (.laload) n st H = some (st', H')) (hw : am_hw H) (hs : am_ws H.length st) : am_gro H H' ∧ am_ws H'.length st' := by
  dsimp only [am_stC] at h
  split at h
  · rename_i j a r
    split at h
    · rename_i w f hf
      split at h
      · cases h
        exact ⟨am_gro_rf hw, am_ws_cons.mpr ⟨am_vw_l _ _, (am_ws_cons.mp (am_ws_cons.mp hs).2).2⟩⟩
      · cases h
    · cases h
  · cases h
set_option maxHeartbeats 4000000 in
theorem am_wC_aald {G : am_G} {own : String} {isI : Bool} {n : Nat} {st st' : List Value} {H H' : am_H} (h : am_stC G own isI (.aaload) n st H = some (st', H')) (hw : am_hw H) (hs : am_ws H.length st) : am_gro H H' ∧ am_ws H'.length st' := by
  dsimp only [am_stC] at h
  split at h
  · rename_i j a r
    split at h
    · rename_i C w f hf
      split at h
      · cases h
        refine ⟨am_gro_rf hw, am_ws_cons.mpr ⟨fun i hi => ?_, (am_ws_cons.mp (am_ws_cons.mp hs).2).2⟩⟩
        cases hj : f j.toNatClampNeg with
        | none => rw [hj] at hi; cases hi
        | some x => rw [hj] at hi; cases hi; exact (show ∀ j i, f j = some i → i < H.length from hw _ (List.mem_of_getElem? hf)) _ _ hj
      · cases h
    · cases h
  · cases h
set_option maxHeartbeats 4000000 in
theorem am_wC_iast {G : am_G} {own : String} {isI : Bool} {n : Nat} {st st' : List Value} {H H' : am_H} (h : am_stC G own isI (.iastore) n st H = some (st', H')) (hw : am_hw H) (hs : am_ws H.length st) : am_gro H H' ∧ am_ws H'.length st' := by
  dsimp only [am_stC] at h
  split at h
  · rename_i x j a r
    split at h
    · rename_i w f hf
      split at h
      · cases h
        exact ⟨am_gro_set hw hf rfl trivial, by rw [List.length_set]; exact (am_ws_cons.mp (am_ws_cons.mp (am_ws_cons.mp hs).2).2).2⟩
      · cases h
    · cases h
  · cases h
set_option maxHeartbeats 4000000 in
theorem am_wC_zast {G : am_G} {own : String} {isI : Bool} {n : Nat} {st st' : List Value} {H H' : am_H} (h : am_stC G own isI (.bastore) n st H = some (st', H')) (hw : am_hw H) (hs : am_ws H.length st) : am_gro H H' ∧ am_ws H'.length st' := by
  dsimp only [am_stC] at h
  split at h
  · rename_i x j a r
    split at h
    · rename_i w f hf
      split at h
      · cases h
        exact ⟨am_gro_set hw hf rfl trivial, by rw [List.length_set]; exact (am_ws_cons.mp (am_ws_cons.mp (am_ws_cons.mp hs).2).2).2⟩
      · cases h
    · cases h
  · cases h
set_option maxHeartbeats 4000000 in
theorem am_wC_last {G : am_G} {own : String} {isI : Bool} {n : Nat} {st st' : List Value} {H H' : am_H} (h : am_stC G own isI (.lastore) n st H = some (st', H')) (hw : am_hw H) (hs : am_ws H.length st) : am_gro H H' ∧ am_ws H'.length st' := by
  dsimp only [am_stC] at h
  split at h
  · rename_i x j a r
    split at h
    · rename_i w f hf
      split at h
      · cases h
        exact ⟨am_gro_set hw hf rfl trivial, by rw [List.length_set]; exact (am_ws_cons.mp (am_ws_cons.mp (am_ws_cons.mp hs).2).2).2⟩
      · cases h
    · cases h
  · cases h
set_option maxHeartbeats 4000000 in
theorem am_wC_aast {G : am_G} {own : String} {isI : Bool} {n : Nat} {st st' : List Value} {H H' : am_H} (h : am_stC G own isI (.aastore) n st H = some (st', H')) (hw : am_hw H) (hs : am_ws H.length st) : am_gro H H' ∧ am_ws H'.length st' := by
  dsimp only [am_stC] at h
  split at h
  · rename_i v j a r
    split at h
    · rename_i C w f ci fs hf hv
      split at h
      · cases h
        refine ⟨am_gro_set hw hf rfl ?_, by rw [List.length_set]; exact (am_ws_cons.mp (am_ws_cons.mp (am_ws_cons.mp hs).2).2).2⟩
        intro k i hk
        unfold va_up at hk
        split at hk
        · cases hk; exact (List.getElem?_eq_some_iff.mp hv).1
        · exact (show ∀ j i, f j = some i → i < H.length from hw _ (List.mem_of_getElem? hf)) _ _ hk
      · cases h
    · cases h
  · cases h
set_option maxHeartbeats 4000000 in
theorem am_wC_alen {G : am_G} {own : String} {isI : Bool} {n : Nat} {st st' : List Value} {H H' : am_H} (h : am_stC G own isI (.arraylength) n st H = some (st', H')) (hw : am_hw H) (hs : am_ws H.length st) : am_gro H H' ∧ am_ws H'.length st' := by
  dsimp only [am_stC] at h
  split at h
  · rename_i a r
    split at h
    · split at h
      · cases h
        exact ⟨am_gro_rf hw, am_ws_cons.mpr ⟨am_vw_i _ _, (am_ws_cons.mp hs).2⟩⟩
      · cases h
    · cases h
  · cases h
set_option maxHeartbeats 4000000 in
theorem am_wC_ldc {G : am_G} {own : String} {isI : Bool} {n idx : Nat} {st st' : List Value} {H H' : am_H} (h : am_stC G own isI (.ldc idx) n st H = some (st', H')) (hw : am_hw H) (hs : am_ws H.length st) : am_gro H H' ∧ am_ws H'.length st' := by
  dsimp only [am_stC] at h
  split at h
  · split at h
    · cases h
      exact ⟨am_gro_rf hw, am_ws_cons.mpr ⟨am_vw_i _ _, hs⟩⟩
    · cases h
  · cases h
set_option maxHeartbeats 4000000 in
theorem am_wC_ldc2 {G : am_G} {own : String} {isI : Bool} {n idx : Nat} {st st' : List Value} {H H' : am_H} (h : am_stC G own isI (.ldc2_w idx) n st H = some (st', H')) (hw : am_hw H) (hs : am_ws H.length st) : am_gro H H' ∧ am_ws H'.length st' := by
  dsimp only [am_stC] at h
  split at h
  · split at h
    · cases h
      exact ⟨am_gro_rf hw, am_ws_cons.mpr ⟨am_vw_l _ _, hs⟩⟩
    · cases h
  · cases h
set_option maxHeartbeats 4000000 in
theorem am_wC_new {G : am_G} {own : String} {isI : Bool} {n idx : Nat} {st st' : List Value} {H H' : am_H} (h : am_stC G own isI (.new idx) n st H = some (st', H')) (hw : am_hw H) (hs : am_ws H.length st) : am_gro H H' ∧ am_ws H'.length st' := by
  dsimp only [am_stC] at h
  split at h
  · rename_i ci z1 z2 hk
    split at h
    · rename_i H1 hH
      split at h
      · cases h
        unfold am_new at hH
        split at hH
        · cases hH
          refine ⟨am_gro_app hw ?_, am_ws_new hs⟩
          intro v hv
          obtain ⟨k, -, rfl⟩ := List.mem_map.mp hv
          exact am_dv_w _ _
        · cases hH
      · cases h
    · cases h
  · cases h
set_option maxHeartbeats 4000000 in
theorem am_wC_newa {G : am_G} {own : String} {isI : Bool} {n : Nat} {aty : ArrayType} {st st' : List Value} {H H' : am_H} (h : am_stC G own isI (.newarray aty) n st H = some (st', H')) (hw : am_hw H) (hs : am_ws H.length st) : am_gro H H' ∧ am_ws H'.length st' := by
  dsimp only [am_stC] at h
  split at h
  · rename_i w r
    split at h
    · rename_i H1 hH
      split at h
      · cases h
        unfold am_newa at hH
        split at hH
        · rename_i a0 ha0
          split at hH
          · cases hH
            refine ⟨am_gro_app hw ?_, am_ws_new (am_ws_cons.mp hs).2⟩
            cases hty : newarray.typeOf aty <;> rw [hty] at ha0 <;> cases ha0 <;> exact trivial
          · cases hH
        · cases hH
      · cases h
    · cases h
  · cases h
set_option maxHeartbeats 4000000 in
theorem am_wC_newq {G : am_G} {own : String} {isI : Bool} {n idx : Nat} {st st' : List Value} {H H' : am_H} (h : am_stC G own isI (.anewarray idx) n st H = some (st', H')) (hw : am_hw H) (hs : am_ws H.length st) : am_gro H H' ∧ am_ws H'.length st' := by
  dsimp only [am_stC] at h
  split at h
  · rename_i w r ci z1 z2 hk
    split at h
    · rename_i H1 hH
      split at h
      · cases h
        unfold am_newq at hH
        split at hH
        · split at hH
          · cases hH
            exact ⟨am_gro_app hw (fun j i hj => by cases hj), am_ws_new (am_ws_cons.mp hs).2⟩
          · cases hH
        · cases hH
      · cases h
    · cases h
  · cases h
theorem am_wC {G : am_G} {own : String} {isI : Bool} {n : Nat} {i : Instr} {st st' : List Value} {H H' : am_H} (h : am_stC G own isI i n st H = some (st', H')) (hw : am_hw H) (hs : am_ws H.length st) : am_gro H H' ∧ am_ws H'.length st' := by
  cases i with
  | getfield idx => exact am_wC_get h hw hs
  | putfield idx => exact am_wC_put h hw hs
  | iaload => exact am_wC_iald h hw hs
  | baload => exact am_wC_zald h hw hs
  | laload => exact am_wC_lald h hw hs
  | aaload => exact am_wC_aald h hw hs
  | iastore => exact am_wC_iast h hw hs
  | bastore => exact am_wC_zast h hw hs
  | lastore => exact am_wC_last h hw hs
  | aastore => exact am_wC_aast h hw hs
  | arraylength => exact am_wC_alen h hw hs
  | new idx => exact am_wC_new h hw hs
  | newarray aty => exact am_wC_newa h hw hs
  | anewarray idx => exact am_wC_newq h hw hs
  | ldc idx => exact am_wC_ldc h hw hs
  | ldc2_w idx => exact am_wC_ldc2 h hw hs
  | _ => cases h
/-- what a call may be taken to keep -/
def am_keeps (call : Nat → List Value → am_H → Option (Option Value × am_H)) : Prop := ∀ (j : Nat) (as : List Value) (H H' : am_H) (r : Option Value), call j as H = some (r, H') → am_hw H → am_ws H.length as → am_gro H H' ∧ ∀ v, r = some v → am_vw H'.length v
theorem am_out_inv {r st' : List Value} {x : Option (Option Value × am_H)} {H' : am_H} (h : am_out r x = some (st', H')) : ∃ v, x = some (v, H') ∧ st' = v.toList ++ r := by
  unfold am_out at h
  split at h
  · cases h; exact ⟨_, rfl, rfl⟩
  · cases h
theorem am_ws_take {N : Nat} {st : List Value} (k : Nat) (hs : am_ws N st) : am_ws N (st.take k).reverse := fun v hv => hs v (List.mem_of_mem_take (List.mem_reverse.mp hv))
theorem am_ws_drop {N : Nat} {st : List Value} (k : Nat) (hs : am_ws N st) : am_ws N (st.drop k) := fun v hv => hs v (List.mem_of_mem_drop hv)
theorem am_ws_ret {N : Nat} {v : Option Value} {r : List Value} (hv : ∀ x, v = some x → am_vw N x) (hr : am_ws N r) : am_ws N (v.toList ++ r) := by
  intro x hx
  rcases List.mem_append.mp hx with h | h
  · cases v with
    | none => cases h
    | some y => rw [List.mem_singleton.mp h]; exact hv y rfl
  · exact hr x h
theorem am_cv_inv {G : am_G} {call : Nat → List Value → am_H → Option (Option Value × am_H)} {j n : Nat} {chk : Bool} {st st' : List Value} {H H' : am_H} (h : am_cv G call j n chk st H = some (st', H')) : ∃ (M : am_M) (b : Nat) (r : List Value) (v : Option Value), G.2.2.2.1[j]? = some M ∧ st.drop M.2.2.2.2.1 = .ref b :: r ∧ n = 3 ∧ M.2.2.2.2.1 ≤ st.length ∧ (r.map fun v => v.category).sum ≤ 8 ∧ (chk = true → am_isC G H b M.1.cls = true) ∧ call j (.ref b :: (st.take M.2.2.2.2.1).reverse) H = some (v, H') ∧ st' = v.toList ++ r := by
  unfold am_cv at h
  split at h
  · rename_i M hM
    split at h
    · rename_i b r hr
      split at h
      · rename_i hc
        obtain ⟨v, h1, h2⟩ := am_out_inv h
        exact ⟨M, b, r, v, hM, hr, hc.1, hc.2.1, hc.2.2.1, hc.2.2.2, h1, h2⟩
      · cases h
    · cases h
  · cases h
theorem am_cs_inv {G : am_G} {call : Nat → List Value → am_H → Option (Option Value × am_H)} {j n : Nat} {st st' : List Value} {H H' : am_H} (h : am_cs G call j n st H = some (st', H')) : ∃ (M : am_M) (v : Option Value), G.2.2.2.1[j]? = some M ∧ n = 3 ∧ M.2.2.2.2.1 ≤ st.length ∧ ((st.drop M.2.2.2.2.1).map fun v => v.category).sum ≤ 8 ∧ call j (st.take M.2.2.2.2.1).reverse H = some (v, H') ∧ st' = v.toList ++ st.drop M.2.2.2.2.1 := by
  unfold am_cs at h
  split at h
  · rename_i M hM
    split at h
    · rename_i hc
      obtain ⟨v, h1, h2⟩ := am_out_inv h
      exact ⟨M, v, hM, hc.1, hc.2.1, hc.2.2, h1, h2⟩
    · cases h
  · cases h
theorem am_wcv {G : am_G} {call : Nat → List Value → am_H → Option (Option Value × am_H)} (hk : am_keeps call) {j n : Nat} {chk : Bool} {st st' : List Value} {H H' : am_H} (h : am_cv G call j n chk st H = some (st', H')) (hw : am_hw H) (hs : am_ws H.length st) : am_gro H H' ∧ am_ws H'.length st' := by
  obtain ⟨M, b, r, v, hM, hd, -, -, -, -, hc, rfl⟩ := am_cv_inv h
  have h1 := am_ws_drop M.2.2.2.2.1 hs
  rw [hd] at h1
  obtain ⟨g1, g2⟩ := hk j _ H H' v hc hw (am_ws_cons.mpr ⟨(am_ws_cons.mp h1).1, am_ws_take _ hs⟩)
  exact ⟨g1, am_ws_ret g2 (am_ws_mono g1.2.1 (am_ws_cons.mp h1).2)⟩
theorem am_wcs {G : am_G} {call : Nat → List Value → am_H → Option (Option Value × am_H)} (hk : am_keeps call) {j n : Nat} {st st' : List Value} {H H' : am_H} (h : am_cs G call j n st H = some (st', H')) (hw : am_hw H) (hs : am_ws H.length st) : am_gro H H' ∧ am_ws H'.length st' := by
  obtain ⟨M, v, hM, -, -, -, hc, rfl⟩ := am_cs_inv h
  obtain ⟨g1, g2⟩ := hk j _ H H' v hc hw (am_ws_take _ hs)
  exact ⟨g1, am_ws_ret g2 (am_ws_mono g1.2.1 (am_ws_drop _ hs))⟩
set_option maxHeartbeats 4000000 in
theorem am_wcpy {n : Nat} {st st' : List Value} {H H' : am_H} (h : am_cpy n st H = some (st', H')) (hw : am_hw H) (hs : am_ws H.length st) : am_gro H H' ∧ am_ws H'.length st' := by
  unfold am_cpy at h
  split at h
  · rename_i w dp a sp a0 r
    have hr : am_ws H.length r := (am_ws_cons.mp (am_ws_cons.mp (am_ws_cons.mp (am_ws_cons.mp (am_ws_cons.mp hs).2).2).2).2).2
    split at h
    · rename_i h0 h1
      split at h
      · cases h; exact ⟨am_gro_set hw h1 rfl trivial, by rw [List.length_set]; exact hr⟩
      · cases h
    · rename_i h0 h1
      split at h
      · cases h; exact ⟨am_gro_set hw h1 rfl trivial, by rw [List.length_set]; exact hr⟩
      · cases h
    · cases h
  · cases h
set_option maxHeartbeats 4000000 in
theorem am_wD {G : am_G} {call : Nat → List Value → am_H → Option (Option Value × am_H)} (hk : am_keeps call) {own : String} {n : Nat} {i : Instr} {st st' : List Value} {H H' : am_H} (h : am_stD G call own i n st H = some (st', H')) (hw : am_hw H) (hs : am_ws H.length st) : am_gro H H' ∧ am_ws H'.length st' := by
  cases i with
  | invokevirtual idx =>
    dsimp only [am_stD] at h
    split at h
    · exact am_wcv hk h hw hs
    · cases h
  | invokespecial idx =>
    dsimp only [am_stD] at h
    split at h
    · exact am_wcv hk h hw hs
    · exact am_wcv hk h hw hs
    · split at h
      · split at h
        · cases h; exact ⟨am_gro_rf hw, (am_ws_cons.mp hs).2⟩
        · cases h
      · cases h
    · cases h
  | invokestatic idx =>
    dsimp only [am_stD] at h
    split at h
    · exact am_wcs hk h hw hs
    · exact am_wcs hk h hw hs
    · exact am_wcpy h hw hs
    · split at h
      · split at h
        · cases h; exact ⟨am_gro_rf hw, am_ws_cons.mpr ⟨am_vw_i _ _, (am_ws_cons.mp (am_ws_cons.mp hs).2).2⟩⟩
        · cases h
      · cases h
    · split at h
      · split at h
        · cases h; exact ⟨am_gro_rf hw, am_ws_cons.mpr ⟨am_vw_i _ _, (am_ws_cons.mp (am_ws_cons.mp hs).2).2⟩⟩
        · cases h
      · cases h
    · cases h
  | _ => cases h
set_option maxHeartbeats 4000000 in
theorem am_wret {ret : Option FieldType} {i : Instr} {n N : Nat} {st : List Value} {r : Option Value} (h : am_ret ret i n st = some r) (hs : am_ws N st) : ∀ v, r = some v → am_vw N v := by
  cases i with
  | return_ =>
    dsimp only [am_ret] at h
    split at h
    · split at h
      · cases h; exact fun v hv => by cases hv
      · cases h
    · cases h
  | ireturn =>
    dsimp only [am_ret] at h
    split at h
    · split at h
      · cases h; exact fun v hv => by cases hv; exact am_vw_i _ _
      · cases h
    · cases h
  | lreturn =>
    dsimp only [am_ret] at h
    split at h
    · split at h
      · cases h; exact fun v hv => by cases hv; exact am_vw_l _ _
      · cases h
    · cases h
  | areturn =>
    dsimp only [am_ret] at h
    split at h
    · split at h
      · cases h; exact fun v hv => by cases hv; exact (am_ws_cons.mp hs).1
      · cases h
    · split at h
      · cases h; exact fun v hv => by cases hv; exact (am_ws_cons.mp hs).1
      · cases h
    · cases h
  | _ => cases h
theorem am_lvargs_w {N : Nat} : ∀ (as : List Value) (k : Nat), am_ws N as → am_wl N (lv_args k as)
  | [], k, _ => fun q hq => by cases hq
  | v :: as, k, h => by
    intro q hq
    rcases List.mem_cons.mp (show q ∈ (k, v) :: lv_args _ as from hq) with rfl | h2
    · exact (am_ws_cons.mp h).1
    · exact am_lvargs_w as _ (am_ws_cons.mp h).2 q h2
theorem am_wexec {G : am_G} {call : Nat → List Value → am_H → Option (Option Value × am_H)} (hk : am_keeps call) {M : am_M} : ∀ (f pc : Nat) (lv : am_L) (st : List Value) (H H' : am_H) (r : Option Value), am_exec G call M f pc lv st H = some (r, H') → am_hw H → am_wl H.length lv → am_ws H.length st → am_gro H H' ∧ ∀ v, r = some v → am_vw H'.length v := by
  intro f
  induction f with
  | zero => intro pc lv st H H' r h; cases h
  | succ f ih =>
    intro pc lv st H H' r h hw hl hs
    unfold am_exec at h
    split at h
    · rename_i i n hrow
      split at h
      · rename_i pc1 lv1 st1 H1 h1
        unfold am_one at h1
        split at h1
        · rename_i hA
          cases h1
          obtain ⟨a1, a2⟩ := am_wA hA hl hs
          exact ih _ _ _ _ _ _ h hw a1 a2
        · split at h1
          · rename_i hB
            cases h1
            exact ih _ _ _ _ _ _ h hw hl (am_wB hB hs)
          · split at h1
            · rename_i hC
              cases h1
              obtain ⟨a1, a2⟩ := am_wC hC hw hs
              obtain ⟨b1, b2⟩ := ih _ _ _ _ _ _ h a1.1 (am_wl_mono a1.2.1 hl) a2
              exact ⟨am_gro_tr a1 b1, b2⟩
            · split at h1
              · rename_i hD
                cases h1
                obtain ⟨a1, a2⟩ := am_wD hk hD hw hs
                obtain ⟨b1, b2⟩ := ih _ _ _ _ _ _ h a1.1 (am_wl_mono a1.2.1 hl) a2
                exact ⟨am_gro_tr a1 b1, b2⟩
              · split at h1
                · cases h1
                · cases h1
      · rename_i h1
        cases h
        unfold am_one at h1
        split at h1
        · cases h1
        · split at h1
          · cases h1
          · split at h1
            · cases h1
            · split at h1
              · cases h1
              · split at h1
                · rename_i hR
                  cases h1
                  exact ⟨am_gro_rf hw, am_wret hR hs⟩
                · cases h1
      · cases h
    · cases h
theorem am_wcall (G : am_G) (fuel : Nat) : ∀ d, am_keeps (am_call G fuel d) := by
  intro d
  induction d with
  | zero => intro j as H H' r h; cases h
  | succ d ih =>
    intro j as H H' r h hw hs
    unfold am_call at h
    split at h
    · split at h
      · exact am_wexec ih _ _ _ _ _ _ _ h hw (am_lvargs_w as 0 hs) (am_ws_nil _)
      · cases h
    · cases h
end
section
/-- what the methods and the calls are, in the tables' words -/
def am_okm (G : am_G) (Ts nst : List Cond) : Prop :=
  (∀ (j : Nat) (M : am_M), G.2.2.2.1[j]? = some M → Cond.code M.1 M.2.1 M.2.2.1 M.2.2.2.1 ∈ Ts ∧ Cond.initialized M.1.cls ∈ Ts ∧ (M.1.cls ≠ "java/lang/invoke/MethodHandle" ∧ M.1.cls ≠ "java/lang/invoke/VarHandle" ∧ (parseMethodDescriptor M.1.desc).map (fun d => d.parameters.length) = some M.2.2.2.2.1) ∧ plainName M.1.cls = true ∧ ∀ q ∈ M.2.2.2.2.2, decode M.2.1 q.1 = .ok q.2)
  ∧ (∀ own idx j z M, G.2.2.1 own idx = some (1, j, 0, z) → G.2.2.2.1[j]? = some M → Cond.methodLink own idx M.1 ∈ Ts ∧ Cond.instanceMethod M.1 ∈ Ts ∧ Cond.selects M.1.cls M.1 M.1 ∈ Ts)
  ∧ (∀ own idx j z M, G.2.2.1 own idx = some (1, j, 1, z) → G.2.2.2.1[j]? = some M → Cond.methodLink own idx M.1 ∈ Ts ∧ Cond.instanceMethod M.1 ∈ Ts ∧ M.1.name = "<init>" ∧ M.2.2.2.1 = none)
  ∧ (∀ own idx j z M, G.2.2.1 own idx = some (1, j, 2, z) → G.2.2.2.1[j]? = some M → (∃ host, Cond.methodLinkNest own idx M.1 host ∈ nst) ∧ Cond.instanceMethod M.1 ∈ Ts ∧ M.1.name = "<init>" ∧ M.2.2.2.1 = none)
  ∧ (∀ own idx j z M, G.2.2.1 own idx = some (1, j, 3, z) → G.2.2.2.1[j]? = some M → Cond.methodLink own idx M.1 ∈ Ts ∧ Cond.static M.1 ∈ Ts)
  ∧ (∀ own idx j z M, G.2.2.1 own idx = some (1, j, 4, z) → G.2.2.2.1[j]? = some M → (∃ host, Cond.methodLinkNest own idx M.1 host ∈ nst) ∧ Cond.static M.1 ∈ Ts)
  ∧ (∀ own idx j k z, G.2.2.1 own idx = some (5, j, k, z) → Cond.methodLink own idx Lib.objectInit ∈ Ts ∧ Cond.instanceMethod Lib.objectInit ∈ Ts ∧ Cond.code Lib.objectInit ⟨#[0xb1]⟩ 1 none ∈ Ts)
  ∧ (∀ own idx j k z, G.2.2.1 own idx = some (4, j, k, z) → Cond.methodLink own idx arraycopyName ∈ Ts ∧ Cond.native arraycopyName ∈ Ts ∧ Cond.static arraycopyName ∈ Ts ∧ Cond.initialized "java/lang/System" ∈ Ts)
  ∧ (∀ w ∈ Ts, goodWord w = true)
  ∧ (∀ w ∈ nst, ∃ a i y h, w = Cond.methodLinkNest a i y h)
  ∧ (∀ own idx j k z, G.2.2.1 own idx = some (8, j, k, z) → Cond.methodLink own idx Lib.Math.max.name ∈ Ts ∧ Cond.static Lib.Math.max.name ∈ Ts ∧ Cond.initialized "java/lang/Math" ∈ Ts ∧ Cond.code Lib.Math.max.name Lib.Math.max.code 2 (some .int) ∈ Ts)
  ∧ (∀ own idx j k z, G.2.2.1 own idx = some (9, j, k, z) → Cond.methodLink own idx Lib.Math.min.name ∈ Ts ∧ Cond.static Lib.Math.min.name ∈ Ts ∧ Cond.initialized "java/lang/Math" ∈ Ts ∧ Cond.code Lib.Math.min.name Lib.Math.min.code 2 (some .int) ∈ Ts)
def am_env2 (G : am_G) (nst : List Cond) (D : va_G) (ca : FieldType → ClassId) (s : State) : Prop := am_env G D ca s ∧ ∀ w ∈ nst, va_Nw w s
def am_rm (d mc ms : Nat) : Room := { frames := d, cells := mc, slots := ms, locals := d * 64 }
def am_Pc (G : am_G) (nst : List Cond) (D : va_G) (ca : FieldType → ClassId) (ad : Nat → Nat) (sz : Nat) (as : List Value) (AH : am_H) : Array Value → State → Prop :=
  va_Pc (as.map (am_v ad)) (fun U => U.heap.size = sz ∧ va_P D G.1 (am_w ad ca AH) U.heap ∧ am_env2 G nst D ca U ∧ va_D (fun _ => True) (am_w ad ca AH))
def am_Qc (G : am_G) (D : va_G) (ca : FieldType → ClassId) (ad : Nat → Nat) (sz : Nat) (r : Option Value) (AH AH' : am_H) : Array Value → State → Outcome → State → Prop := fun _ st oc t =>
  (∃ ad' : Nat → Nat, am_agree AH.length ad ad' ∧ oc = .returned (r.map (am_v ad')) ∧ va_P D G.1 (am_w ad' ca AH') t.heap ∧ va_D (va_A (am_w ad ca AH) sz) (am_w ad' ca AH')) ∧ va_F (va_A (am_w ad ca AH) sz) st t
theorem am_env2_warm {G : am_G} {nst : List Cond} {D : va_G} {ca : FieldType → ClassId} {s U : State} (hn : ∀ w ∈ nst, ∃ a i y h, w = Cond.methodLinkNest a i y h) (hW : s.WarmedH U.vm) (h : am_env2 G nst D ca s) : am_env2 G nst D ca U :=
  ⟨⟨va_K.moved hW.alike h.1.1, fun C hC => va_AO.moved hW.alike (h.1.2 C hC)⟩, fun w hw => by
    obtain ⟨a, i, y, hh, rfl⟩ := hn w hw
    exact va_Nw.warmM hW (h.2 _ hw)⟩
theorem am_env2_same {G : am_G} {nst : List Cond} {D : va_G} {ca : FieldType → ClassId} {s U : State} (hn : ∀ w ∈ nst, ∃ a i y h, w = Cond.methodLinkNest a i y h) (e : s.vm = U.vm) (h : am_env2 G nst D ca s) : am_env2 G nst D ca U :=
  ⟨⟨va_K.moved (by rw [e]; exact Vm.Alike.refl _) h.1.1, fun C hC => va_AO.moved (by rw [e]; exact Vm.Alike.refl _) (h.1.2 C hC)⟩, fun w hw => by
    obtain ⟨a, i, y, hh, rfl⟩ := hn w hw
    exact va_Nw.same rfl e (h.2 _ hw)⟩
theorem am_blind {G : am_G} {nst : List Cond} {D : va_G} {ca : FieldType → ClassId} {ad : Nat → Nat} {sz : Nat} {as : List Value} {AH : am_H} (hn : ∀ w ∈ nst, ∃ a i y h, w = Cond.methodLinkNest a i y h) : FrameBlind (am_Pc G nst D ca ad sz as AH) := fun a U g mk q => by
  obtain ⟨q0, q1, qP, qE, qD⟩ := q
  exact ⟨q0, q1, qP, am_env2_same (s := U) (U := U.calling g mk a) hn rfl qE, qD⟩
section AME
variable {p : Program} {l : Launch} {e : Env} {R : Room} {s : State} {m : MethodId} {args : Array Value} {below : List Frame} {meth : Method} {c : Code} {H : Heap} {locs : List Loc} {cells slots : Nat} {Q : State → Prop}
variable {cc : ByteArray} {pc : Nat} {ls : Array Slot} {ad : Nat → Nat} {G : am_G} {Ts nst : List Cond} {D : va_G} {ca : FieldType → ClassId} {A : Nat → Prop} {H0 : Heap} {own : String}
theorem am_AA {AH : am_H} (hD : va_D A (am_w ad ca AH)) (hS : va_S A H0 H locs) (hA : ∀ q, H0.size ≤ q → A q) : ∀ q, va_A (am_w ad ca AH) H.size q → A q := by
  intro q h
  rcases h with ⟨k, e, h⟩ | h
  · exact hD.2 k (q, e) h
  · exact hA q (Nat.le_trans hS.1 h)
/-- behind a call -/
theorem am_goon {AH AH' : am_H} {r : Option Value} {mc ms : Nat} {st0 rest : List Value} {a : Array Value} (hr : va_Run p l e R s m args below meth c H locs cells slots mc ms (F0 m pc ls st0) rest (am_Qc G D ca ad H.size r AH AH' a) (va_A (am_w ad ca AH) H.size))
    (hD : va_D A (am_w ad ca AH)) (hS : va_S A H0 H locs) (hA : ∀ q, H0.size ≤ q → A q)
    (kk : ∀ (ad' : Nat → Nat) (H1 : Heap) (locs1 : List Loc), am_agree AH.length ad ad' → va_P D G.1 (am_w ad' ca AH') H1 → va_D A (am_w ad' ca AH') → va_S A H0 H1 locs1 → W p l e R s m args below meth c H1 locs1 (cells + mc) (slots + ms) Q (F0 m (pc + 3) ls ((r.map (am_v ad')).toList ++ rest))) :
    W p l e R s m args below meth c H locs cells slots Q (F0 m pc ls st0) := by
  have hAA := am_AA hD hS hA
  intro T hT X
  obtain ⟨v, st₀, t, T', L, h0, X', hL, e1, e2, ⟨⟨ad', hag, hv, hp, hd⟩, hz, hk⟩, st⟩ := hr T hT X
  cases hv
  rw [h0] at hz hk
  obtain ⟨t2, a1, b1⟩ := kk ad' T'.heap (locs ++ L) hag (by rw [e1]; exact hp) (hd.weaken (fun k q _ h => hAA q.1 h))
    ⟨Nat.le_trans hS.1 (by rw [e1]; exact hz), fun q h1 h2 => by rw [e1, hk q (Nat.lt_of_lt_of_le h1 hS.1) (fun z => h2 (hAA q z))]; exact hS.2.1 q h1 h2, fun q hq => by
      rcases List.mem_append.mp hq with h | h
      · exact hS.2.2 q h
      · exact hAA _ (hL q h)⟩ T' rfl X'
  exact ⟨t2, st t2 a1, b1⟩
theorem am_call_M {fuel d j : Nat} {as : List Value} {AH : am_H} {x : Option Value × am_H} {M : am_M} (h : am_call G fuel d j as AH = some x) (hM : G.2.2.2.1[j]? = some M) : M.2.2.1 ≤ 45 := by
  cases d with
  | zero => cases h
  | succ d =>
    unfold am_call at h
    rw [hM] at h
    dsimp only at h
    split at h
    · rename_i hc; exact hc.2
    · cases h
theorem am_stk (ad : Nat → Nat) {st r : List Value} {k : Nat} {v : Value} (h : st.drop k = v :: r) : st.map (am_v ad) = (((st.take k).reverse).map (am_v ad)).reverse ++ am_v ad v :: r.map (am_v ad) := by
  conv => lhs; rw [← List.take_append_drop k st, h]
  rw [List.map_append, List.map_cons, List.map_reverse, List.reverse_reverse]
theorem am_stk2 (ad : Nat → Nat) {st : List Value} (k : Nat) : st.map (am_v ad) = (((st.take k).reverse).map (am_v ad)).reverse ++ (st.drop k).map (am_v ad) := by
  conv => lhs; rw [← List.take_append_drop k st]
  rw [List.map_append, List.map_reverse, List.reverse_reverse]
theorem am_cats (ad : Nat → Nat) (r : List Value) : ((r.map (am_v ad)).map fun v => v.category).sum = (r.map fun v => v.category).sum := by
  rw [List.map_map]
  congr 1
  apply List.map_congr_left
  intro v _
  exact am_v_cat ad v
theorem am_kret {AH' : am_H} {v : Option Value} {r : List Value} {n : Nat} {ad' : Nat → Nat} {N : Nat} (hag : am_agree N ad ad') (hr : am_ws N r) (hv : (v.toList ++ r).map (am_v ad') = (v.map (am_v ad')).toList ++ r.map (am_v ad)) : True := trivial
theorem am_tl (ad ad' : Nat → Nat) (v : Option Value) (r : List Value) (h : r.map (am_v ad') = r.map (am_v ad)) : (v.toList ++ r).map (am_v ad') = (v.map (am_v ad')).toList ++ r.map (am_v ad) := by
  rw [List.map_append, h]
  cases v <;> rfl
/-- contracts of all calls at a depth -/
def am_snd (l : Launch) (G : am_G) (Ts nst : List Cond) (D : va_G) (ca : FieldType → ClassId) (fuel d : Nat) : Prop := ∀ (j : Nat) (as : List Value) (AH AH' : am_H) (r : Option Value) (M : am_M), am_call G fuel d j as AH = some (r, AH') → G.2.2.2.1[j]? = some M → am_hw AH → am_ws AH.length as → ∀ (ad : Nat → Nat) (sz : Nat),
  Met l M.1 (Cond.code M.1 M.2.1 M.2.2.1 M.2.2.2.1 :: Ts) (am_rm d (AH'.length - AH.length) (am_sz AH' - am_sz AH)) (am_Pc G nst D ca ad sz as AH) (am_Qc G D ca ad sz r AH AH') (AH'.length - AH.length) (am_sz AH' - am_sz AH) (va_A (am_w ad ca AH) sz)
theorem am_good {M : am_M} (hm : am_okm G Ts nst) {j : Nat} (hM : G.2.2.2.1[j]? = some M) : GoodIn Ts (Cond.code M.1 M.2.1 M.2.2.1 M.2.2.2.1 :: Ts) := by
  have hg := hm.2.2.2.2.2.2.2.2.1
  intro w hw
  rcases List.mem_cons.mp hw with rfl | h
  · exact ⟨(hm.1 j M hM).1, good_of_word (hg _ (hm.1 j M hM).1)⟩
  · exact ⟨h, good_of_word (hg w h)⟩
theorem am_isC_inv {AH : am_H} {b : Nat} {C : String} (h : am_isC G AH b C = true) : ∃ ci fs q, AH[b]? = some (.inr (ci, fs)) ∧ G.1[ci]? = some q ∧ q.1 = C := by
  unfold am_isC at h
  split at h
  · split at h
    · exact ⟨_, _, _, by assumption, by assumption, by simpa using h⟩
    · cases h
  · cases h
set_option maxHeartbeats 4000000 in
/-- the machine follows: a call -/
theorem am_sD {fuel d nL n : Nat} {i : Instr} {st st' : List Value} {AH AH' : am_H} (hsnd : am_snd l G Ts nst D ca fuel d) (hok : am_ok G Ts) (hm : am_okm G Ts nst) (h : am_stD G (am_call G fuel d) own i n st AH = some (st', AH')) (hx : p.tables.exec = Jvm.exec) (hb : c.code = cc) (hml : c.maxLocals = nL) (hlsz : ls.size = nL) (hdg : decode cc pc = .ok (i, n)) (hown : s.vm.findClass own = some m.cls) (hts : ∀ w ∈ Ts, w.before args s = true) (henv : am_env2 G nst D ca s)
    (hP : va_P D G.1 (am_w ad ca AH) H) (hD : va_D A (am_w ad ca AH)) (hS : va_S A H0 H locs) (hA : ∀ q, H0.size ≤ q → A q) (hw : am_hw AH) (hsv : am_ws AH.length st) (hcl : cells + (AH'.length - AH.length) ≤ R.cells) (hsl : slots + (am_sz AH' - am_sz AH) ≤ R.slots) (hRf : d + 1 ≤ R.frames) (hRl : (d + 1) * 64 ≤ R.locals)
    (kk : ∀ (ad' : Nat → Nat) (H1 : Heap) (locs1 : List Loc), am_agree AH.length ad ad' → va_P D G.1 (am_w ad' ca AH') H1 → va_D A (am_w ad' ca AH') → va_S A H0 H1 locs1 → W p l e R s m args below meth c H1 locs1 (cells + (AH'.length - AH.length)) (slots + (am_sz AH' - am_sz AH)) Q (F0 m (pc + n) ls (st'.map (am_v ad')))) :
    W p l e R s m args below meth c H locs cells slots Q (F0 m pc ls (st.map (am_v ad))) := by
  have hroom : ∀ {j : Nat} {as : List Value} {x : Option Value × am_H} {M : am_M}, am_call G fuel d j as AH = some x → G.2.2.2.1[j]? = some M → (am_rm d (AH'.length - AH.length) (am_sz AH' - am_sz AH)).frames + 1 ≤ R.frames ∧ 8 + (M.2.2.1 + 11) + (am_rm d (AH'.length - AH.length) (am_sz AH' - am_sz AH)).locals ≤ R.locals := by
    intro j as x M h1 h2
    have h3 := am_call_M h1 h2
    refine ⟨hRf, ?_⟩
    show 8 + (M.2.2.1 + 11) + d * 64 ≤ R.locals
    omega
  have hnst := hm.2.2.2.2.2.2.2.2.2.1
  have hpre : ∀ (as : List Value), PreS s H (am_Pc G nst D ca ad H.size as AH) (as.map (am_v ad)) := fun as => ⟨am_blind hnst, fun U hU hW => ⟨rfl, by rw [hU], by rw [hU]; exact hP, am_env2_warm hnst hW henv, hD.weaken (fun _ _ _ _ => trivial)⟩⟩
  cases i with
  | invokevirtual idx =>
    dsimp only [am_stD] at h
    split at h
    · rename_i j z hk
      obtain ⟨M, b, r, v, hM, hdr, rfl, hnp, hcat, hchk, hcl1, rfl⟩ := am_cv_inv h
      obtain ⟨hcode, hini, hd3, hpl, -⟩ := hm.1 j M hM
      obtain ⟨hlk, hin, hsel⟩ := hm.2.1 own idx j z M hk hM
      have hwr := am_ws_drop M.2.2.2.2.1 hsv
      rw [hdr] at hwr
      have hMet := hsnd j _ AH AH' v M hcl1 hM hw (am_ws_cons.mpr ⟨(am_ws_cons.mp hwr).1, am_ws_take _ hsv⟩) ad H.size
      have cb : CallW R s args own M.1.cls idx M.1 M.2.1 M.2.2.1 M.2.2.2.1 (Cond.code M.1 M.2.1 M.2.2.1 M.2.2.2.1 :: Ts) (am_rm d (AH'.length - AH.length) (am_sz AH' - am_sz AH)) (AH'.length - AH.length) (am_sz AH' - am_sz AH) M.2.2.2.2.1 :=
        ⟨callB_of M.2.2.2.2.1 hts (am_good hm hM) rfl rfl rfl (hts _ hini) (hts _ hlk) hd3 (hroom hcl1 hM), hts _ hin, hts _ hsel⟩
      obtain ⟨ci, fs, q, hb1, hb2, hb3⟩ := am_isC_inv (hchk rfl)
      have hrec := va_recv henv.1.1 hP hb2 (am_w_get (ad := ad) (ca := ca) hb1)
      rw [hb3] at hrec
      have hpv : PreV s H M.1.cls (ad b) (am_Pc G nst D ca ad H.size (.ref b :: (st.take M.2.2.2.2.1).reverse) AH) (((st.take M.2.2.2.2.1).reverse).map (am_v ad)) := ⟨am_blind hnst, hrec, (hpre (.ref b :: (st.take M.2.2.2.2.1).reverse)).2⟩
      have hrun := va_runV (p := p) (e := e) (below := below) (meth := meth) (locs := locs) (cells := cells) (slots := slots) (rest := r.map (am_v ad)) (g := F0 m pc ls (st.map (am_v ad))) ⟨hx, hb, hml, hown, hts⟩ hMet cb hpv rfl (by rw [List.length_map, List.length_reverse, List.length_take]; omega) hlsz (am_stk ad hdr) (lv_room (by rw [am_cats]; exact hcat)) hdg ⟨hcl, hsl⟩
      refine am_goon hrun hD hS hA (fun ad' H1 locs1 hag hP1 hD1 hS1 => ?_)
      have k1 := kk ad' H1 locs1 hag hP1 hD1 hS1
      rw [am_tl ad ad' v r (am_st_agree hag (am_ws_cons.mp hwr).2)] at k1
      exact k1
    · cases h
  | invokespecial idx =>
    dsimp only [am_stD] at h
    split at h
    · rename_i j z hk
      obtain ⟨M, b, r, v, hM, hdr, rfl, hnp, hcat, hchk, hcl1, rfl⟩ := am_cv_inv h
      obtain ⟨hcode, hini, hd3, hpl, -⟩ := hm.1 j M hM
      obtain ⟨hlk, hin, hnm, hret⟩ := hm.2.2.1 own idx j z M hk hM
      have hwr := am_ws_drop M.2.2.2.2.1 hsv
      rw [hdr] at hwr
      have hMet := hsnd j _ AH AH' v M hcl1 hM hw (am_ws_cons.mpr ⟨(am_ws_cons.mp hwr).1, am_ws_take _ hsv⟩) ad H.size
      have cb := callB_of (own := own) (index := idx) M.2.2.2.2.1 hts (am_good hm hM) rfl rfl rfl (hts _ hini) (hts _ hlk) hd3 (hroom hcl1 hM)
      rw [hret] at hMet cb
      have hrun := va_runI (p := p) (e := e) (below := below) (meth := meth) (locs := locs) (cells := cells) (slots := slots) (b := ad b) (As := ((st.take M.2.2.2.2.1).reverse).map (am_v ad)) (rest := r.map (am_v ad)) (g := F0 m pc ls (st.map (am_v ad))) ⟨hx, hb, hml, hown, hts⟩ hMet ⟨cb, hnm, hts _ hin⟩ (hpre (.ref b :: (st.take M.2.2.2.2.1).reverse)) rfl (by rw [List.length_map, List.length_reverse, List.length_take]; omega) hlsz (am_stk ad hdr) (lv_room (by rw [am_cats]; exact hcat)) hdg ⟨hcl, hsl⟩
      refine am_goon hrun hD hS hA (fun ad' H1 locs1 hag hP1 hD1 hS1 => ?_)
      have k1 := kk ad' H1 locs1 hag hP1 hD1 hS1
      rw [am_tl ad ad' v r (am_st_agree hag (am_ws_cons.mp hwr).2)] at k1
      exact k1
    · rename_i j z hk
      obtain ⟨M, b, r, v, hM, hdr, rfl, hnp, hcat, hchk, hcl1, rfl⟩ := am_cv_inv h
      obtain ⟨hcode, hini, hd3, hpl, -⟩ := hm.1 j M hM
      obtain ⟨⟨host, hlk⟩, hin, hnm, hret⟩ := hm.2.2.2.1 own idx j z M hk hM
      have hwr := am_ws_drop M.2.2.2.2.1 hsv
      rw [hdr] at hwr
      have hMet := hsnd j _ AH AH' v M hcl1 hM hw (am_ws_cons.mpr ⟨(am_ws_cons.mp hwr).1, am_ws_take _ hsv⟩) ad H.size
      have cb := va_cnB (own := own) (index := idx) (host := host) M.2.2.2.2.1 hts (am_good hm hM) rfl rfl rfl (henv.2 _ hlk) (hts _ hini) hd3 (hroom hcl1 hM)
      rw [hret] at hMet cb
      have hrun := va_runIN (p := p) (e := e) (below := below) (meth := meth) (locs := locs) (cells := cells) (slots := slots) (b := ad b) (As := ((st.take M.2.2.2.2.1).reverse).map (am_v ad)) (rest := r.map (am_v ad)) (g := F0 m pc ls (st.map (am_v ad))) ⟨hx, hb, hml, hown, hts⟩ hMet ⟨cb, hnm, hts _ hin⟩ (hpre (.ref b :: (st.take M.2.2.2.2.1).reverse)) rfl (by rw [List.length_map, List.length_reverse, List.length_take]; omega) hlsz (am_stk ad hdr) (lv_room (by rw [am_cats]; exact hcat)) hdg ⟨hcl, hsl⟩
      refine am_goon hrun hD hS hA (fun ad' H1 locs1 hag hP1 hD1 hS1 => ?_)
      have k1 := kk ad' H1 locs1 hag hP1 hD1 hS1
      rw [am_tl ad ad' v r (am_st_agree hag (am_ws_cons.mp hwr).2)] at k1
      exact k1
    · rename_i j k z hk
      split at h
      · rename_i a r
        split at h
        · rename_i hc
          obtain ⟨rfl, hcat⟩ := hc
          cases h
          obtain ⟨h1, h2, h3⟩ := hm.2.2.2.2.2.2.1 own idx j k z hk
          refine W.objInit (a := ad a) (rest := st'.map (am_v ad)) hx hb hown (hts _ h1) (hts _ h2) (hts _ h3) rfl (by rw [hml]; exact hlsz) rfl hdg (by omega) (by show 2 * 0 + _ + 12 ≤ _; rw [am_cats]; omega) ?_
          exact am_kid (st' := st') (n := 3) hP hD hS kk
        · cases h
      · cases h
    · cases h
  | invokestatic idx =>
    dsimp only [am_stD] at h
    split at h
    · rename_i j z hk
      obtain ⟨M, v, hM, rfl, hnp, hcat, hcl1, rfl⟩ := am_cs_inv h
      obtain ⟨hcode, hini, hd3, hpl, -⟩ := hm.1 j M hM
      obtain ⟨hlk, hstt⟩ := hm.2.2.2.2.1 own idx j z M hk hM
      have hwr := am_ws_drop M.2.2.2.2.1 hsv
      have hMet := hsnd j _ AH AH' v M hcl1 hM hw (am_ws_take _ hsv) ad H.size
      have cb := callB_of (own := own) (index := idx) M.2.2.2.2.1 hts (am_good hm hM) rfl rfl rfl (hts _ hini) (hts _ hlk) hd3 (hroom hcl1 hM)
      have hrun := va_runS (p := p) (e := e) (below := below) (meth := meth) (locs := locs) (cells := cells) (slots := slots) (As := ((st.take M.2.2.2.2.1).reverse).map (am_v ad)) (rest := (st.drop M.2.2.2.2.1).map (am_v ad)) (g := F0 m pc ls (st.map (am_v ad))) ⟨hx, hb, hml, hown, hts⟩ hMet ⟨cb, hts _ hstt⟩ (hpre (st.take M.2.2.2.2.1).reverse) rfl (by rw [List.length_map, List.length_reverse, List.length_take]; omega) hlsz (am_stk2 ad _) (lv_room (by rw [am_cats]; exact hcat)) hdg ⟨hcl, hsl⟩
      refine am_goon hrun hD hS hA (fun ad' H1 locs1 hag hP1 hD1 hS1 => ?_)
      have k1 := kk ad' H1 locs1 hag hP1 hD1 hS1
      rw [am_tl ad ad' v _ (am_st_agree hag hwr)] at k1
      exact k1
    · rename_i j z hk
      obtain ⟨M, v, hM, rfl, hnp, hcat, hcl1, rfl⟩ := am_cs_inv h
      obtain ⟨hcode, hini, hd3, hpl, -⟩ := hm.1 j M hM
      obtain ⟨⟨host, hlk⟩, hstt⟩ := hm.2.2.2.2.2.1 own idx j z M hk hM
      have hwr := am_ws_drop M.2.2.2.2.1 hsv
      have hMet := hsnd j _ AH AH' v M hcl1 hM hw (am_ws_take _ hsv) ad H.size
      have cb := va_cnB (own := own) (index := idx) (host := host) M.2.2.2.2.1 hts (am_good hm hM) rfl rfl rfl (henv.2 _ hlk) (hts _ hini) hd3 (hroom hcl1 hM)
      have hrun := va_runSN (p := p) (e := e) (below := below) (meth := meth) (locs := locs) (cells := cells) (slots := slots) (As := ((st.take M.2.2.2.2.1).reverse).map (am_v ad)) (rest := (st.drop M.2.2.2.2.1).map (am_v ad)) (g := F0 m pc ls (st.map (am_v ad))) ⟨hx, hb, hml, hown, hts⟩ hMet ⟨cb, hts _ hstt, trivial⟩ (hpre (st.take M.2.2.2.2.1).reverse) rfl (by rw [List.length_map, List.length_reverse, List.length_take]; omega) hlsz (am_stk2 ad _) (lv_room (by rw [am_cats]; exact hcat)) hdg ⟨hcl, hsl⟩
      refine am_goon hrun hD hS hA (fun ad' H1 locs1 hag hP1 hD1 hS1 => ?_)
      have k1 := kk ad' H1 locs1 hag hP1 hD1 hS1
      rw [am_tl ad ad' v _ (am_st_agree hag hwr)] at k1
      exact k1
    · rename_i j k z hk
      obtain ⟨h1, h2, h3, h4⟩ := hm.2.2.2.2.2.2.2.1 own idx j k z hk
      have hnw : nativeFrameWords "java/lang/System" "arraycopy" 5 + 11 ≤ 56 := by decide +kernel
      unfold am_cpy at h
      split at h
      · rename_i w dp a sp a0 r
        split at h
        · rename_i n0 f n1 g hf0 hf1
          split at h
          · rename_i hc
            obtain ⟨rfl, hcat, c1, c2, c3, c4, c5⟩ := hc
            cases h
            obtain ⟨t0, ht⟩ := am_ty (ca := ca) hok.2.2.2.2.2.2.1.1
            exact va_copyi hx hb (by rw [hml, hlsz]) hown (hts _ h1) (hts _ h2) (hts _ h3) (hts _ h4) henv.1.1 hP hD hS a0 a t0 t0 (am_w_get hf0) (am_w_get hf1) ht ht rfl c1 c2 c3 c4 c5 (fun _ _ => rfl) (by omega) (by rw [am_cats]; omega) hdg (am_kset (c1 := .inl (.int, n1, .inl (va_cpy f g sp.toNatClampNeg dp.toNatClampNeg w.toNatClampNeg))) (n := 3) hf1 rfl kk)
          · cases h
        · rename_i n0 f n1 g hf0 hf1
          split at h
          · rename_i hc
            obtain ⟨rfl, hcat, c1, c2, c3, c4, c5⟩ := hc
            cases h
            obtain ⟨t0, ht⟩ := am_ty (ca := ca) hok.2.2.2.2.2.2.1.2.1
            exact va_copyl hx hb (by rw [hml, hlsz]) hown (hts _ h1) (hts _ h2) (hts _ h3) (hts _ h4) henv.1.1 hP hD hS a0 a t0 t0 (am_w_get hf0) (am_w_get hf1) ht ht rfl c1 c2 c3 c4 c5 (fun _ _ => rfl) (by omega) (by rw [am_cats]; omega) hdg (am_kset (c1 := .inl (.long, n1, .inr (.inl (va_cpy f g sp.toNatClampNeg dp.toNatClampNeg w.toNatClampNeg)))) (n := 3) hf1 rfl kk)
          · cases h
        · cases h
      · cases h
    · rename_i j k z hk
      split at h
      · rename_i y x r
        split at h
        · rename_i hc
          obtain ⟨rfl, hcat⟩ := hc
          cases h
          obtain ⟨h1, h2, h3, h4⟩ := hm.2.2.2.2.2.2.2.2.2.2.1 own idx j k z hk
          exact va_mmax (rest := r.map (am_v ad)) hx hb (by rw [hml, hlsz]) hown (hts _ h1) (hts _ h2) (hts _ h3) (hts _ h4) (by omega) (by rw [am_cats]; omega) (by omega) (by omega) hdg (am_kid (st' := .int (if x < y then y else x) :: r) (n := 3) hP hD hS kk)
        · cases h
      · cases h
    · rename_i j k z hk
      split at h
      · rename_i y x r
        split at h
        · rename_i hc
          obtain ⟨rfl, hcat⟩ := hc
          cases h
          obtain ⟨h1, h2, h3, h4⟩ := hm.2.2.2.2.2.2.2.2.2.2.2 own idx j k z hk
          exact va_mmin (rest := r.map (am_v ad)) hx hb (by rw [hml, hlsz]) hown (hts _ h1) (hts _ h2) (hts _ h3) (hts _ h4) (by omega) (by rw [am_cats]; omega) (by omega) (by omega) hdg (am_kid (st' := .int (if y < x then y else x) :: r) (n := 3) hP hD hS kk)
        · cases h
      · cases h
    · cases h
  | _ => cases h
end AME
end
section
section AMF
variable {p : Program} {l : Launch} {e : Env} {R : Room} {s : State} {m : MethodId} {args : Array Value} {below : List Frame} {meth : Method} {c : Code} {H : Heap} {locs : List Loc} {cells slots : Nat} {Q : State → Prop}
variable {cc : ByteArray} {pc : Nat} {ls : Array Slot} {ad : Nat → Nat} {G : am_G} {Ts nst : List Cond} {D : va_G} {ca : FieldType → ClassId} {A : Nat → Prop} {H0 : Heap} {own : String} {isI : Bool}
set_option maxHeartbeats 4000000 in
theorem am_sC {n : Nat} {i : Instr} {st st' : List Value} {AH AH' : am_H} (hok : am_ok G Ts) (h : am_stC G own isI i n st AH = some (st', AH')) (hx : p.tables.exec = Jvm.exec) (hb : c.code = cc) (hdg : decode cc pc = .ok (i, n)) (hown : s.vm.findClass own = some m.cls) (hts : ∀ w ∈ Ts, w.before args s = true) (hI : isI = true → meth.name = "<init>") (henv : am_env G D ca s)
    (hP : va_P D G.1 (am_w ad ca AH) H) (hD : va_D A (am_w ad ca AH)) (hS : va_S A H0 H locs) (hA : ∀ q, H0.size ≤ q → A q) (hw : am_hw AH) (hsv : am_ws AH.length st) (hcl : cells + (AH'.length - AH.length) ≤ R.cells) (hsl : slots + (am_sz AH' - am_sz AH) ≤ R.slots)
    (kk : ∀ (ad' : Nat → Nat) (H1 : Heap) (locs1 : List Loc), am_agree AH.length ad ad' → va_P D G.1 (am_w ad' ca AH') H1 → va_D A (am_w ad' ca AH') → va_S A H0 H1 locs1 → W p l e R s m args below meth c H1 locs1 (cells + (AH'.length - AH.length)) (slots + (am_sz AH' - am_sz AH)) Q (F0 m (pc + n) ls (st'.map (am_v ad')))) :
    W p l e R s m args below meth c H locs cells slots Q (F0 m pc ls (st.map (am_v ad))) := by
  cases i with
  | getfield idx => exact am_sC_get hok h hx hb hdg hown hts henv hP hD hS kk
  | putfield idx => exact am_sC_put hok h hx hb hdg hown hts hI henv hP hD hS kk
  | iaload => exact am_sC_iald hok h hx hb hdg henv hP hD hS kk
  | baload => exact am_sC_zald hok h hx hb hdg henv hP hD hS kk
  | laload => exact am_sC_lald hok h hx hb hdg henv hP hD hS kk
  | aaload => exact am_sC_aald hok h hx hb hdg henv hP hD hS kk
  | iastore => exact am_sC_iast hok h hx hb hdg henv hP hD hS kk
  | bastore => exact am_sC_zast hok h hx hb hdg henv hP hD hS kk
  | lastore => exact am_sC_last hok h hx hb hdg henv hP hD hS kk
  | aastore => exact am_sC_aast hok h hx hb hdg henv hP hD hS kk
  | arraylength => exact am_sC_alen hok h hx hb hdg henv hP hD hS kk
  | new idx => exact am_sC_new hok h hx hb hdg hown hts henv hA hw hsv hcl hsl hP hD hS kk
  | newarray aty => exact am_sC_newa hok h hx hb hdg hown hts henv hA hw hsv hcl hsl hP hD hS kk
  | anewarray idx => exact am_sC_newq hok h hx hb hdg hown hts henv hA hw hsv hcl hsl hP hD hS kk
  | ldc idx => exact am_sC_ldc hok h hx hb hdg hown hts hP hD hS kk
  | ldc2_w idx => exact am_sC_ldc2 hok h hx hb hdg hown hts hP hD hS kk
  | _ => cases h
set_option maxHeartbeats 4000000 in
theorem am_sR {n : Nat} {i : Instr} {ret : Option FieldType} {st : List Value} {r : Option Value} {Qc : Array Value → State → Outcome → State → Prop} {free : Addr → Prop} (h : am_ret ret i n st = some r) (hx : p.tables.exec = Jvm.exec) (hb : c.code = cc) (hr : meth.sig.returnType = ret) (hlocks : meth.locks = false) (hdg : decode cc pc = .ok (i, n))
    (hq : ∀ t : State, t.heap = H → s.WarmedH t.vm → Qc args s (.returned (r.map (am_v ad))) t) (hf : ∀ q ∈ locs, free q.base) : W p l e R s m args below meth c H locs cells slots (MQ below Qc args s cells slots free) (F0 m pc ls (st.map (am_v ad))) := by
  cases i with
  | return_ =>
    dsimp only [am_ret] at h
    split at h
    · split at h
      · rename_i h1
        subst h1
        cases h
        exact W.vret hx hb hr hq hf hdg hlocks
      · cases h
    · cases h
  | ireturn =>
    dsimp only [am_ret] at h
    split at h
    · split at h
      · rename_i h1
        obtain ⟨rfl, h2⟩ := h1
        cases h
        exact W.zret hx hb hr (am_okv_inv h2).1 hq hf hdg hlocks
      · cases h
    · cases h
  | lreturn =>
    dsimp only [am_ret] at h
    split at h
    · split at h
      · rename_i h1
        subst h1
        cases h
        exact W.lret hx hb hr hq hf hdg hlocks
      · cases h
    · cases h
  | areturn =>
    dsimp only [am_ret] at h
    split at h
    · split at h
      · rename_i h1
        subst h1
        cases h
        exact W.aret hx hb hr (Or.inl ⟨_, rfl⟩) (Or.inr ⟨_, rfl⟩) hq hf hdg hlocks
      · cases h
    · split at h
      · rename_i h1
        subst h1
        cases h
        exact W.aret hx hb hr (Or.inr ⟨_, rfl⟩) (Or.inr ⟨_, rfl⟩) hq hf hdg hlocks
      · cases h
    · cases h
  | _ => cases h
theorem am_row_in {M : am_M} {pc : Nat} {q : Instr × Nat} (h : am_row M pc = some q) : (pc, q) ∈ M.2.2.2.2.2 := by
  unfold am_row at h
  cases hf : M.2.2.2.2.2.find? (fun q => q.1 == pc) with
  | none => rw [hf] at h; cases h
  | some x =>
    rw [hf] at h
    cases h
    have h1 := List.mem_of_find?_eq_some hf
    have h2 : x.1 = pc := by simpa using List.find?_some hf
    rw [← h2]
    exact h1
set_option maxHeartbeats 4000000 in
/-- a method's body, from any of its places -/
theorem am_sx {fuel d j mc ms : Nat} {M : am_M} {AH0 AH' : am_H} {ad0 : Nat → Nat} {sz : Nat} {r : Option Value} (hsnd : am_snd l G Ts nst D ca fuel d) (hok : am_ok G Ts) (hm : am_okm G Ts nst) (hM : G.2.2.2.1[j]? = some M)
    (hx : p.tables.exec = Jvm.exec) (hb : c.code = M.2.1) (hml : c.maxLocals = M.2.2.1) (hr : meth.sig.returnType = M.2.2.2.1) (hlocks : meth.locks = false) (hown : s.vm.findClass M.1.cls = some m.cls) (hnm : meth.name = M.1.name) (hts : ∀ w ∈ Ts, w.before args s = true) (henv : am_env2 G nst D ca s) (hA : ∀ q, s.heap.size ≤ q → va_A (am_w ad0 ca AH0) sz q) (hRc : R.cells = mc) (hRs : R.slots = ms) (hRf : d + 1 ≤ R.frames) (hRl : (d + 1) * 64 ≤ R.locals) (emc : mc = AH'.length - AH0.length) (ems : ms = am_sz AH' - am_sz AH0) :
    ∀ (f pc : Nat) (lv : am_L) (st : List Value) (AH : am_H) (H : Heap) (ls : Array Slot) (locs : List Loc) (cells slots : Nat) (ad : Nat → Nat), am_exec G (am_call G fuel d) M f pc lv st AH = some (r, AH') → am_hw AH → am_wl AH.length lv → am_ws AH.length st → lv_has ls M.2.2.1 (lv.map (am_q ad)) → va_P D G.1 (am_w ad ca AH) H → va_D (va_A (am_w ad0 ca AH0) sz) (am_w ad ca AH) → va_S (va_A (am_w ad0 ca AH0) sz) s.heap H locs → am_agree AH0.length ad0 ad → AH0.length ≤ AH.length → am_sz AH0 ≤ am_sz AH → cells = AH.length - AH0.length → slots = am_sz AH - am_sz AH0 →
      W p l e R s m args below meth c H locs cells slots (MQ below (am_Qc G D ca ad0 sz r AH0 AH') args s mc ms (va_A (am_w ad0 ca AH0) sz)) (F0 m pc ls (st.map (am_v ad))) := by
  have hkeep := am_wcall G fuel d
  intro f
  induction f with
  | zero => intro pc lv st AH H ls locs cells slots ad h; cases h
  | succ f ih =>
    intro pc lv st AH H ls locs cells slots ad h hw hwl hws hl hP hD hS hag hle hlz ec es
    unfold am_exec at h
    split at h
    · rename_i i n hrow
      have hdg := (hm.1 j M hM).2.2.2.2 (pc, (i, n)) (am_row_in hrow)
      dsimp only at hdg
      split at h
      · rename_i pc1 lv1 st1 AH1 h1
        unfold am_one at h1
        split at h1
        · rename_i hA1
          cases h1
          obtain ⟨a1, a2⟩ := am_wA hA1 hwl hws
          exact am_sA hA1 hx hb hdg hl (fun ls' hl' => ih _ _ _ _ _ _ _ _ _ _ h hw a1 a2 hl' hP hD hS hag hle hlz ec es)
        · split at h1
          · rename_i hB1
            cases h1
            exact am_sB hB1 hx hb hdg (ih _ _ _ _ _ _ _ _ _ _ h hw hwl (am_wB hB1 hws) hl hP hD hS hag hle hlz ec es)
          · split at h1
            · rename_i hC1
              cases h1
              obtain ⟨a1, a2⟩ := am_wC hC1 hw hws
              have g1 := (am_wexec hkeep _ _ _ _ _ _ _ h a1.1 (am_wl_mono a1.2.1 hwl) a2).1
              have x1 := a1.2.1
              have x2 := a1.2.2
              have x3 := g1.2.1
              have x4 := g1.2.2
              refine am_sC hok hC1 hx hb hdg hown hts (fun hi => by rw [hnm]; simpa using hi) henv.1 hP hD hS hA hw hws (by omega) (by omega) (fun ad' H1 locs1 hag1 hP1 hD1 hS1 => ?_)
              refine ih _ _ _ _ _ _ _ _ _ _ h a1.1 (am_wl_mono a1.2.1 hwl) a2 (by rw [am_lv_agree hag1 hwl]; exact hl) hP1 hD1 hS1 (fun k hk => (hag1 k (by omega)).trans (hag k hk)) (by omega) (by omega) (by omega) (by omega)
            · split at h1
              · rename_i hD1
                cases h1
                obtain ⟨a1, a2⟩ := am_wD hkeep hD1 hw hws
                have g1 := (am_wexec hkeep _ _ _ _ _ _ _ h a1.1 (am_wl_mono a1.2.1 hwl) a2).1
                have x1 := a1.2.1
                have x2 := a1.2.2
                have x3 := g1.2.1
                have x4 := g1.2.2
                refine am_sD hsnd hok hm hD1 hx hb hml hl.1 hdg hown hts henv hP hD hS hA hw hws (by omega) (by omega) hRf hRl (fun ad' H1 locs1 hag1 hP1 hD1 hS1 => ?_)
                refine ih _ _ _ _ _ _ _ _ _ _ h a1.1 (am_wl_mono a1.2.1 hwl) a2 (by rw [am_lv_agree hag1 hwl]; exact hl) hP1 hD1 hS1 (fun k hk => (hag1 k (by omega)).trans (hag k hk)) (by omega) (by omega) (by omega) (by omega)
              · split at h1
                · cases h1
                · cases h1
      · rename_i h1
        cases h
        unfold am_one at h1
        split at h1
        · cases h1
        · split at h1
          · cases h1
          · split at h1
            · cases h1
            · split at h1
              · cases h1
              · split at h1
                · rename_i hR
                  cases h1
                  have e1 : cells = mc := by omega
                  have e2 : slots = ms := by omega
                  subst e1
                  subst e2
                  exact am_sR hR hx hb hr hlocks hdg (fun t ht hW => ⟨⟨ad, hag, rfl, by rw [ht]; exact hP, hD⟩, hS.F ht⟩) hS.2.2
                · cases h1
      · cases h
    · cases h
theorem am_lvargs_map (ad : Nat → Nat) : ∀ (as : List Value) (k : Nat), lv_args k (as.map (am_v ad)) = (lv_args k as).map (am_q ad)
  | [], k => rfl
  | v :: as, k => by
    rw [List.map_cons]
    unfold lv_args
    rw [am_v_cat, am_lvargs_map ad as, List.map_cons]
    rfl
theorem am_sl_len (ad : Nat → Nat) (as : List Value) : (lg_sl (as.map (am_v ad))).length = (lg_sl as).length := by
  unfold lg_sl
  induction as with
  | nil => rfl
  | cons v as ih =>
    rw [List.map_cons, List.flatMap_cons, List.flatMap_cons, List.length_append, List.length_append, ih, am_v_cat]
    by_cases h : v.category = 2
    · rw [if_pos h, if_pos h]; rfl
    · rw [if_neg h, if_neg h]; rfl
set_option maxHeartbeats 4000000 in
/-- THE MACHINE FOLLOWS THE ABSTRACT ONE -/
theorem am_sound (l : Launch) (hok : am_ok G Ts) (hm : am_okm G Ts nst) (fuel : Nat) : ∀ d, am_snd l G Ts nst D ca fuel d := by
  intro d
  induction d with
  | zero => intro j as AH AH' r M h; cases h
  | succ d ih =>
    intro j as AH AH' r M h hM hw hws ad sz
    unfold am_call at h
    rw [hM] at h
    dsimp only at h
    split at h
    · rename_i hlen
      obtain ⟨-, -, -, hpl, -⟩ := hm.1 j M hM
      refine Met.ofW (cc := M.2.1) (maxL := M.2.2.1) (ret := M.2.2.2.1) hpl rfl ?_
      intro p e s m args below meth c s₁ B hml hv
      obtain ⟨rfl, hsz, hP, henv, hD0⟩ := hv
      have hts0 := atoms_spec (ws := Cond.code M.1 M.2.1 M.2.2.1 M.2.2.2.1 :: Ts) B.pre
      have hown : s.vm.findClass M.1.cls = some m.cls := findClass_of_methodNamed B.named
      subst hsz
      have hl := lv_entry (as.map (am_v ad)) (n := M.2.2.1) (by rw [am_sl_len]; exact hlen.1)
      rw [lg_entry_eq]
      rw [am_lvargs_map] at hl
      exact am_sx (j := j) ih hok hm hM B.exec B.bytes hml B.returns B.notSynchronized hown (name_of_methodNamed B.named B.method).1 (fun w hw => hts0 w (List.mem_cons_of_mem _ hw)) henv (fun q hq => Or.inr hq) rfl rfl (Nat.le_refl _) (Nat.le_refl _) rfl rfl fuel 0 (lv_args 0 as) [] AH s.heap _ [] 0 0 ad h hw (am_lvargs_w as 0 hws) (am_ws_nil _) hl hP hD0.self va_S.rf (fun _ _ => rfl) (Nat.le_refl _) (Nat.le_refl _) (Nat.sub_self _).symm (Nat.sub_self _).symm
    · cases h
end AMF
end
section
/-! the data against the tables, by program -/
def am_at (B : List Cond) (k : Nat) (w : Cond) : Bool := decide (B[k]? = some w) && goodWord w
theorem am_at_in {B : List Cond} {k : Nat} {w : Cond} (h : am_at B k w = true) : w ∈ B.filter goodWord := by
  unfold am_at at h
  rw [Bool.and_eq_true, decide_eq_true_eq] at h
  exact List.mem_filter.mpr ⟨List.mem_of_getElem? h.1, h.2⟩
def am_isNest : Cond → Bool
  | .methodLinkNest _ _ _ _ => true
  | _ => false
def am_nestAt (B : List Cond) (k : Nat) (own : String) (idx : Nat) (y : MethodName) : Bool := match B[k]? with
  | some (.methodLinkNest a i z _) => decide (a = own) && decide (i = idx) && decide (z = y)
  | _ => false
theorem am_nestAt_in {B : List Cond} {k idx : Nat} {own : String} {y : MethodName} (h : am_nestAt B k own idx y = true) : ∃ host, Cond.methodLinkNest own idx y host ∈ B.filter am_isNest := by
  unfold am_nestAt at h
  split at h
  · rename_i a i z hh hk
    simp only [Bool.and_eq_true, decide_eq_true_eq] at h
    obtain ⟨⟨rfl, rfl⟩, rfl⟩ := h
    exact ⟨hh, List.mem_filter.mpr ⟨List.mem_of_getElem? hk, rfl⟩⟩
  · cases h
def am_chkM1 (B : List Cond) (own : String) (idx : Nat) (M : am_M) (kind : Nat) (pl : List Nat) : Bool := match kind with
  | 0 => am_at B (pl.getD 0 0) (.methodLink own idx M.1) && am_at B (pl.getD 1 0) (.instanceMethod M.1) && am_at B (pl.getD 2 0) (.selects M.1.cls M.1 M.1)
  | 1 => am_at B (pl.getD 0 0) (.methodLink own idx M.1) && am_at B (pl.getD 1 0) (.instanceMethod M.1) && decide (M.1.name = "<init>") && M.2.2.2.1.isNone
  | 2 => am_nestAt B (pl.getD 0 0) own idx M.1 && am_at B (pl.getD 1 0) (.instanceMethod M.1) && decide (M.1.name = "<init>") && M.2.2.2.1.isNone
  | 3 => am_at B (pl.getD 0 0) (.methodLink own idx M.1) && am_at B (pl.getD 1 0) (.static M.1)
  | 4 => am_nestAt B (pl.getD 0 0) own idx M.1 && am_at B (pl.getD 1 0) (.static M.1)
  | _ => true
def am_chk (cl : List vw_C) (ms : List am_M) (B : List Cond) (own : String) (q : Nat × am_K × List Nat) : Bool := match q.2.1.1 with
  | 0 => match cl[q.2.1.2.1]? with
    | some (_, T, N) => decide (q.2.1.2.2.1 < N) && am_at B (q.2.2.getD 0 0) (.fieldLink own q.1 (T q.2.1.2.2.1).1 (T q.2.1.2.2.1).2.1 (T q.2.1.2.2.1).2.2.1)
    | none => false
  | 1 => match ms[q.2.1.2.1]? with
    | some M => am_chkM1 B own q.1 M q.2.1.2.2.1 q.2.2
    | none => false
  | 2 => match cl[q.2.1.2.1]? with
    | some (C, _, N) => am_at B (q.2.2.getD 0 0) (.classLink own q.1 C) && am_at B (q.2.2.getD 1 0) (.instantiable C N) && am_at B (q.2.2.getD 2 0) (.initialized C)
    | none => false
  | 3 => match cl[q.2.1.2.1]? with
    | some (C, _, _) => am_at B (q.2.2.getD 0 0) (.classLink own q.1 C)
    | none => false
  | 4 => am_at B (q.2.2.getD 0 0) (.methodLink own q.1 arraycopyName) && am_at B (q.2.2.getD 1 0) (.native arraycopyName) && am_at B (q.2.2.getD 2 0) (.static arraycopyName) && am_at B (q.2.2.getD 3 0) (.initialized "java/lang/System")
  | 5 => am_at B (q.2.2.getD 0 0) (.methodLink own q.1 Lib.objectInit) && am_at B (q.2.2.getD 1 0) (.instanceMethod Lib.objectInit) && am_at B (q.2.2.getD 2 0) (.code Lib.objectInit ⟨#[0xb1]⟩ 1 none)
  | 6 => am_at B (q.2.2.getD 0 0) (.constant own q.1 q.2.1.2.2.2.toInt32)
  | 7 => am_at B (q.2.2.getD 0 0) (.constantLong own q.1 q.2.1.2.2.2)
  | 8 => am_at B (q.2.2.getD 0 0) (.methodLink own q.1 Lib.Math.max.name) && am_at B (q.2.2.getD 1 0) (.static Lib.Math.max.name) && am_at B (q.2.2.getD 2 0) (.initialized "java/lang/Math") && am_at B (q.2.2.getD 3 0) (.code Lib.Math.max.name Lib.Math.max.code 2 (some .int))
  | 9 => am_at B (q.2.2.getD 0 0) (.methodLink own q.1 Lib.Math.min.name) && am_at B (q.2.2.getD 1 0) (.static Lib.Math.min.name) && am_at B (q.2.2.getD 2 0) (.initialized "java/lang/Math") && am_at B (q.2.2.getD 3 0) (.code Lib.Math.min.name Lib.Math.min.code 2 (some .int))
  | _ => true
def am_chkC (B : List Cond) (ty : Nat → FieldType) (C : String) (T : u_T) (N : Nat) (pl : List Nat) : Bool :=
  (List.range N).all (fun k => am_at B (pl.getD k 0) (u_lay C T k) && decide (parseFieldDescriptor (T k).2.2.1 = some (ty k))) && (List.range N).all (fun a => (List.range N).all (fun b => decide (a = b) || decide ((T a).2.1 ≠ (T b).2.1)))
def am_chkM (B : List Cond) (M : am_M) (pl : Nat × Nat) : Bool :=
  am_at B pl.2 (.initialized M.1.cls) && decide (M.1.cls ≠ "java/lang/invoke/MethodHandle" ∧ M.1.cls ≠ "java/lang/invoke/VarHandle" ∧ (parseMethodDescriptor M.1.desc).map (fun d => d.parameters.length) = some M.2.2.2.2.1) && plainName M.1.cls
def am_lkof (owns : List (String × List (Nat × am_K × List Nat))) (own : String) (idx : Nat) : Option am_K := match owns.find? (fun q => q.1 == own) with
  | some o => (o.2.find? (fun q => q.1 == idx)).map (fun q => q.2.1)
  | none => none
theorem am_lkof_in {owns : List (String × List (Nat × am_K × List Nat))} {own : String} {idx : Nat} {K : am_K} (h : am_lkof owns own idx = some K) : ∃ o ∈ owns, o.1 = own ∧ ∃ q ∈ o.2, q.1 = idx ∧ q.2.1 = K := by
  unfold am_lkof at h
  split at h
  · rename_i o ho
    cases hq : o.2.find? (fun q => q.1 == idx) with
    | none => rw [hq] at h; cases h
    | some q =>
      rw [hq] at h
      cases h
      exact ⟨o, List.mem_of_find?_eq_some ho, by simpa using List.find?_some ho, q, List.mem_of_find?_eq_some hq, by simpa using List.find?_some hq, rfl⟩
  · cases h
theorem am_ok_of {cl : List vw_C} {ty : Nat → Nat → FieldType} {owns : List (String × List (Nat × am_K × List Nat))} {ms : List am_M} {ats : List FieldType} {B : List Cond} {fps : List (List Nat)}
    (h1 : ∀ o ∈ owns, ∀ q ∈ o.2, am_chk cl ms B o.1 q = true) (h2 : ∀ (ci : Nat) (C : String) (T : u_T) (N : Nat), cl[ci]? = some (C, T, N) → am_chkC B (ty ci) C T N (fps.getD ci []) = true)
    (h3 : FieldType.int ∈ ats ∧ FieldType.long ∈ ats ∧ FieldType.boolean ∈ ats) (h4 : ∀ aty, newarray.typeOf aty ∈ ats → Cond.arrayClass (newarray.typeOf aty) ∈ B.filter goodWord) :
    am_ok (cl, ty, am_lkof owns, ms, ats) (B.filter goodWord) := by
  have key : ∀ own idx K, am_lkof owns own idx = some K → ∃ pl, am_chk cl ms B own (idx, K, pl) = true := by
    intro own idx K h
    obtain ⟨o, ho, rfl, q, hq, rfl, rfl⟩ := am_lkof_in h
    exact ⟨q.2.2, h1 o ho q hq⟩
  refine ⟨?_, ?_, ?_, ?_, ?_, ?_, h3, h4⟩
  · intro own idx ci k z h
    obtain ⟨pl, hc⟩ := key own idx _ h
    simp only [am_chk] at hc
    split at hc
    · rename_i C T N hcl
      rw [Bool.and_eq_true, decide_eq_true_eq] at hc
      exact ⟨C, T, N, hcl, hc.1, am_at_in hc.2⟩
    · cases hc
  · intro ci C T N hcl
    have hc := h2 ci C T N hcl
    unfold am_chkC at hc
    simp only [Bool.and_eq_true, List.all_eq_true, List.mem_range, decide_eq_true_eq, Bool.or_eq_true] at hc
    refine ⟨fun w hw => ?_, fun k hk => (hc.1 k hk).2, fun a ha b hb hab => ((hc.2 a ha b hb).resolve_left hab)⟩
    obtain ⟨k, hk, rfl⟩ := List.mem_map.mp hw
    exact am_at_in (hc.1 k (List.mem_range.mp hk)).1
  · intro own idx ci k z h
    obtain ⟨pl, hc⟩ := key own idx _ h
    simp only [am_chk] at hc
    split at hc
    · rename_i C T N hcl
      simp only [Bool.and_eq_true] at hc
      exact ⟨C, T, N, hcl, am_at_in hc.1.1, am_at_in hc.1.2, am_at_in hc.2⟩
    · cases hc
  · intro own idx ci k z h
    obtain ⟨pl, hc⟩ := key own idx _ h
    simp only [am_chk] at hc
    split at hc
    · rename_i C T N hcl
      exact ⟨C, T, N, hcl, am_at_in hc⟩
    · cases hc
  · intro own idx ci k z h
    obtain ⟨pl, hc⟩ := key own idx _ h
    exact am_at_in hc
  · intro own idx ci k z h
    obtain ⟨pl, hc⟩ := key own idx _ h
    exact am_at_in hc
theorem am_okm_of {cl : List vw_C} {ty : Nat → Nat → FieldType} {owns : List (String × List (Nat × am_K × List Nat))} {ms : List am_M} {ats : List FieldType} {B : List Cond} {mp : List (Nat × Nat)}
    (h1 : ∀ o ∈ owns, ∀ q ∈ o.2, am_chk cl ms B o.1 q = true) (h2 : (List.range ms.length).all (fun j => match ms[j]? with | some M => am_chkM B M (mp.getD j (0, 0)) | none => false) = true)
    (h3 : ∀ M ∈ ms, M.2.2.2.2.2.all (fun q => decide (decode M.2.1 q.1 = .ok q.2)) = true) (h4 : ∀ M ∈ ms, Cond.code M.1 M.2.1 M.2.2.1 M.2.2.2.1 ∈ B) :
    am_okm (cl, ty, am_lkof owns, ms, ats) (B.filter goodWord) (B.filter am_isNest) := by
  have key : ∀ own idx K, am_lkof owns own idx = some K → ∃ pl, am_chk cl ms B own (idx, K, pl) = true := by
    intro own idx K h
    obtain ⟨o, ho, rfl, q, hq, rfl, rfl⟩ := am_lkof_in h
    exact ⟨q.2.2, h1 o ho q hq⟩
  have kM : ∀ own idx j kind z (M : am_M), am_lkof owns own idx = some (1, j, kind, z) → ms[j]? = some M → ∃ pl, am_chkM1 B own idx M kind pl = true := by
    intro own idx j kind z M h hM
    obtain ⟨pl, hc⟩ := key own idx _ h
    unfold am_chk at hc
    dsimp only at hc
    rw [hM] at hc
    exact ⟨pl, hc⟩
  refine ⟨?_, ?_, ?_, ?_, ?_, ?_, ?_, ?_, ?_, ?_, ?_, ?_⟩
  · intro j M hM
    have hM : ms[j]? = some M := hM
    have hj : j < ms.length := (List.getElem?_eq_some_iff.mp hM).1
    have hc := List.all_eq_true.mp h2 j (List.mem_range.mpr hj)
    rw [hM] at hc
    dsimp only at hc
    unfold am_chkM at hc
    simp only [Bool.and_eq_true, decide_eq_true_eq] at hc
    refine ⟨List.mem_filter.mpr ⟨h4 M (List.mem_of_getElem? hM), rfl⟩, am_at_in hc.1.1, hc.1.2, hc.2, fun q hq => ?_⟩
    exact of_decide_eq_true (List.all_eq_true.mp (h3 M (List.mem_of_getElem? hM)) q hq)
  · intro own idx j z M h hM
    obtain ⟨pl, hc⟩ := kM own idx j 0 z M h hM
    unfold am_chkM1 at hc
    simp only [Bool.and_eq_true] at hc
    exact ⟨am_at_in hc.1.1, am_at_in hc.1.2, am_at_in hc.2⟩
  · intro own idx j z M h hM
    obtain ⟨pl, hc⟩ := kM own idx j 1 z M h hM
    unfold am_chkM1 at hc
    simp only [Bool.and_eq_true, decide_eq_true_eq, Option.isNone_iff_eq_none] at hc
    exact ⟨am_at_in hc.1.1.1, am_at_in hc.1.1.2, hc.1.2, hc.2⟩
  · intro own idx j z M h hM
    obtain ⟨pl, hc⟩ := kM own idx j 2 z M h hM
    unfold am_chkM1 at hc
    simp only [Bool.and_eq_true, decide_eq_true_eq, Option.isNone_iff_eq_none] at hc
    exact ⟨am_nestAt_in hc.1.1.1, am_at_in hc.1.1.2, hc.1.2, hc.2⟩
  · intro own idx j z M h hM
    obtain ⟨pl, hc⟩ := kM own idx j 3 z M h hM
    unfold am_chkM1 at hc
    simp only [Bool.and_eq_true] at hc
    exact ⟨am_at_in hc.1, am_at_in hc.2⟩
  · intro own idx j z M h hM
    obtain ⟨pl, hc⟩ := kM own idx j 4 z M h hM
    unfold am_chkM1 at hc
    simp only [Bool.and_eq_true] at hc
    exact ⟨am_nestAt_in hc.1, am_at_in hc.2⟩
  · intro own idx j k z h
    obtain ⟨pl, hc⟩ := key own idx _ h
    unfold am_chk at hc
    simp only [Bool.and_eq_true] at hc
    exact ⟨am_at_in hc.1.1, am_at_in hc.1.2, am_at_in hc.2⟩
  · intro own idx j k z h
    obtain ⟨pl, hc⟩ := key own idx _ h
    unfold am_chk at hc
    simp only [Bool.and_eq_true] at hc
    exact ⟨am_at_in hc.1.1.1, am_at_in hc.1.1.2, am_at_in hc.1.2, am_at_in hc.2⟩
  · intro w hw
    exact (List.mem_filter.mp hw).2
  · intro w hw
    have hn := (List.mem_filter.mp hw).2
    unfold am_isNest at hn
    split at hn
    · exact ⟨_, _, _, _, rfl⟩
    · cases hn
  · intro own idx j k z h
    obtain ⟨pl, hc⟩ := key own idx _ h
    unfold am_chk at hc
    simp only [Bool.and_eq_true] at hc
    exact ⟨am_at_in hc.1.1.1, am_at_in hc.1.1.2, am_at_in hc.1.2, am_at_in hc.2⟩
  · intro own idx j k z h
    obtain ⟨pl, hc⟩ := key own idx _ h
    unfold am_chk at hc
    simp only [Bool.and_eq_true] at hc
    exact ⟨am_at_in hc.1.1.1, am_at_in hc.1.1.2, am_at_in hc.1.2, am_at_in hc.2⟩
end
section
/-! the claim's own data for the abstract machine, written by wip/gx.py -/
def gx_f0 : List (String × String × String × Bool) := [("GrammarStream$Counts", "ofSymbol", "[J", true), ("GrammarStream$Counts", "ofTail", "[J", true), ("GrammarStream$Counts", "order", "[I", true), ("GrammarStream$Counts", "ordered", "I", false), ("GrammarStream$Counts", "known", "I", false)]
def gx_T0 : u_T := fun k => gx_f0.getD k ("", "", "", false)
def gx_f1 : List (String × String × String × Bool) := [("GrammarStream$Grammar", "machine", "LGrammarStream$Machine;", true), ("GrammarStream$Grammar", "tokenCount", "I", false), ("GrammarStream$Grammar", "symbolCount", "I", false), ("GrammarStream$Grammar", "ruleCount", "I", false), ("GrammarStream$Grammar", "skipped", "[Z", true), ("GrammarStream$Grammar", "ruleSymbol", "[I", true), ("GrammarStream$Grammar", "ruleLength", "[I", true), ("GrammarStream$Grammar", "items", "[I", true), ("GrammarStream$Grammar", "empties", "I", false), ("GrammarStream$Grammar", "firsts", "[I", true), ("GrammarStream$Grammar", "follows", "[I", true), ("GrammarStream$Grammar", "cells", "[I", true)]
def gx_T1 : u_T := fun k => gx_f1.getD k ("", "", "", false)
def gx_f2 : List (String × String × String × Bool) := [("GrammarStream$Machine", "placeCount", "I", false), ("GrammarStream$Machine", "stateCount", "I", false), ("GrammarStream$Machine", "hopefulCount", "I", false), ("GrammarStream$Machine", "kindCount", "I", false), ("GrammarStream$Machine", "kindOf", "[I", true), ("GrammarStream$Machine", "ways", "[I", true), ("GrammarStream$Machine", "finds", "[I", true), ("GrammarStream$Machine", "shortest", "[I", true)]
def gx_T2 : u_T := fun k => gx_f2.getD k ("", "", "", false)
def gx_f3 : List (String × String × String × Bool) := [("GrammarStream$MachineMaker", "sets", "[J", true), ("GrammarStream$MachineMaker", "depths", "[I", true), ("GrammarStream$MachineMaker", "bucketHead", "[I", true), ("GrammarStream$MachineMaker", "bucketNext", "[I", true), ("GrammarStream$MachineMaker", "hopeful", "[Z", true), ("GrammarStream$MachineMaker", "sampleKind", "[I", true), ("GrammarStream$MachineMaker", "coming", "[J", true), ("GrammarStream$MachineMaker", "reached", "[J", true), ("GrammarStream$MachineMaker", "words", "I", false)]
def gx_T3 : u_T := fun k => gx_f3.getD k ("", "", "", false)
def gx_f4 : List (String × String × String × Bool) := [("GrammarStream$Names", "places", "[I", true), ("GrammarStream$Names", "lengths", "[I", true), ("GrammarStream$Names", "size", "I", false)]
def gx_T4 : u_T := fun k => gx_f4.getD k ("", "", "", false)
def gx_f5 : List (String × String × String × Bool) := [("GrammarStream$Outline", "tokens", "LGrammarStream$Names;", true), ("GrammarStream$Outline", "skipped", "[Z", true), ("GrammarStream$Outline", "symbols", "LGrammarStream$Names;", true), ("GrammarStream$Outline", "items", "LGrammarStream$Names;", true), ("GrammarStream$Outline", "itemValue", "[I", true), ("GrammarStream$Outline", "ruleSymbol", "[I", true), ("GrammarStream$Outline", "ruleStart", "[I", true), ("GrammarStream$Outline", "ruleLength", "[I", true), ("GrammarStream$Outline", "ruleCount", "I", false)]
def gx_T5 : u_T := fun k => gx_f5.getD k ("", "", "", false)
def gx_f6 : List (String × String × String × Bool) := [("GrammarStream$Parser", "grammar", "LGrammarStream$Grammar;", false), ("GrammarStream$Parser", "items", "[I", true), ("GrammarStream$Parser", "parents", "[I", true), ("GrammarStream$Parser", "spots", "[I", true), ("GrammarStream$Parser", "height", "I", false), ("GrammarStream$Parser", "keptItems", "[I", true), ("GrammarStream$Parser", "keptParents", "[I", true), ("GrammarStream$Parser", "keptSpots", "[I", true), ("GrammarStream$Parser", "notedRule", "[I", true), ("GrammarStream$Parser", "notedParent", "[I", true), ("GrammarStream$Parser", "notedSpot", "[I", true), ("GrammarStream$Parser", "notedGone", "[I", true), ("GrammarStream$Parser", "notedCount", "I", false), ("GrammarStream$Parser", "gone", "I", false)]
def gx_T6 : u_T := fun k => gx_f6.getD k ("", "", "", false)
def gx_f7 : List (String × String × String × Bool) := [("GrammarStream$Piece", "takesNothing", "Z", false), ("GrammarStream$Piece", "heads", "[J", true), ("GrammarStream$Piece", "tails", "[J", true)]
def gx_T7 : u_T := fun k => gx_f7.getD k ("", "", "", false)
def gx_f8 : List (String × String × String × Bool) := [("GrammarStream$Places", "size", "I", false), ("GrammarStream$Places", "takers", "[J", true), ("GrammarStream$Places", "nexts", "[J", true), ("GrammarStream$Places", "heads", "[J", true), ("GrammarStream$Places", "endOf", "[I", true)]
def gx_T8 : u_T := fun k => gx_f8.getD k ("", "", "", false)
def gx_f9 : List (String × String × String × Bool) := [("GrammarStream$Reading", "grammar", "LGrammarStream$Grammar;", false), ("GrammarStream$Reading", "parser", "LGrammarStream$Parser;", true), ("GrammarStream$Reading", "bytes", "[I", true), ("GrammarStream$Reading", "length", "I", false), ("GrammarStream$Reading", "begin", "I", false), ("GrammarStream$Reading", "look", "I", false), ("GrammarStream$Reading", "state", "I", false), ("GrammarStream$Reading", "lastEnd", "I", false), ("GrammarStream$Reading", "lastToken", "I", false), ("GrammarStream$Reading", "error", "I", false), ("GrammarStream$Reading", "errorPlace", "I", false), ("GrammarStream$Reading", "finished", "Z", false), ("GrammarStream$Reading", "foundToken", "[I", true), ("GrammarStream$Reading", "foundBegin", "[I", true), ("GrammarStream$Reading", "foundEnd", "[I", true), ("GrammarStream$Reading", "foundCount", "I", false)]
def gx_T9 : u_T := fun k => gx_f9.getD k ("", "", "", false)
def gx_f10 : List (String × String × String × Bool) := [("GrammarStream$TextReader", "faultNumber", "I", false), ("GrammarStream$TextReader", "faultPlace", "I", false), ("GrammarStream$TextReader", "outline", "LGrammarStream$Outline;", true), ("GrammarStream$TextReader", "places", "LGrammarStream$Places;", true), ("GrammarStream$TextReader", "tape", "[I", false), ("GrammarStream$TextReader", "length", "I", false), ("GrammarStream$TextReader", "at", "I", false), ("GrammarStream$TextReader", "wholes", "[LGrammarStream$Piece;", true), ("GrammarStream$TextReader", "parts", "[LGrammarStream$Piece;", true), ("GrammarStream$TextReader", "ones", "[LGrammarStream$Piece;", true), ("GrammarStream$TextReader", "taken", "[Z", true)]
def gx_T10 : u_T := fun k => gx_f10.getD k ("", "", "", false)
def gx_f11 : List (String × String × String × Bool) := [("GrammarStream", "tape", "[I", true), ("GrammarStream", "typed", "I", false), ("GrammarStream", "clash", "[I", true), ("GrammarStream", "clashed", "Z", false), ("GrammarStream", "reader", "LGrammarStream$TextReader;", false), ("GrammarStream", "maker", "LGrammarStream$MachineMaker;", false), ("GrammarStream", "made", "LGrammarStream$Grammar;", false), ("GrammarStream", "spare", "LGrammarStream$Grammar;", false), ("GrammarStream", "reading", "LGrammarStream$Reading;", false), ("GrammarStream", "counts", "LGrammarStream$Counts;", false)]
def gx_T11 : u_T := fun k => gx_f11.getD k ("", "", "", false)
def gx_f12 : List (String × String × String × Bool) := [("GrammarStreamModel", "tape", "[I", true), ("GrammarStreamModel", "size", "I", false), ("GrammarStreamModel", "at", "I", false), ("GrammarStreamModel", "wrongKind", "I", false), ("GrammarStreamModel", "wrongPlace", "I", false), ("GrammarStreamModel", "faultKind", "I", false), ("GrammarStreamModel", "faultPlace", "I", false), ("GrammarStreamModel", "tokens", "I", false), ("GrammarStreamModel", "tokenFrom", "[I", true), ("GrammarStreamModel", "tokenTo", "[I", true), ("GrammarStreamModel", "skipped", "[Z", true), ("GrammarStreamModel", "symbols", "I", false), ("GrammarStreamModel", "symbolFrom", "[I", true), ("GrammarStreamModel", "symbolTo", "[I", true), ("GrammarStreamModel", "rules", "I", false), ("GrammarStreamModel", "ruleSymbol", "[I", true), ("GrammarStreamModel", "ruleStart", "[I", true), ("GrammarStreamModel", "ruleSize", "[I", true), ("GrammarStreamModel", "items", "I", false), ("GrammarStreamModel", "itemFrom", "[I", true), ("GrammarStreamModel", "itemTo", "[I", true), ("GrammarStreamModel", "itemIs", "[I", true), ("GrammarStreamModel", "nameFrom", "I", false), ("GrammarStreamModel", "nameTo", "I", false), ("GrammarStreamModel", "altAny", "[Z", true), ("GrammarStreamModel", "altNull", "[Z", true), ("GrammarStreamModel", "altFirst", "[J", true), ("GrammarStreamModel", "altLast", "[J", true), ("GrammarStreamModel", "partAny", "[Z", true), ("GrammarStreamModel", "partNull", "[Z", true), ("GrammarStreamModel", "partFirst", "[J", true), ("GrammarStreamModel", "partLast", "[J", true), ("GrammarStreamModel", "level", "I", false), ("GrammarStreamModel", "oneNull", "Z", false), ("GrammarStreamModel", "oneFirst", "[J", true), ("GrammarStreamModel", "oneLast", "[J", true), ("GrammarStreamModel", "places", "I", false), ("GrammarStreamModel", "lowBytes", "[J", true), ("GrammarStreamModel", "highBytes", "[J", true), ("GrammarStreamModel", "placeToken", "[I", true), ("GrammarStreamModel", "behind", "[J", true), ("GrammarStreamModel", "begins", "[J", true), ("GrammarStreamModel", "endsWith", "[J", true), ("GrammarStreamModel", "low", "J", false), ("GrammarStreamModel", "high", "J", false), ("GrammarStreamModel", "sign", "I", false), ("GrammarStreamModel", "ends", "[Z", true), ("GrammarStreamModel", "states", "I", false), ("GrammarStreamModel", "sets", "[J", true), ("GrammarStreamModel", "steps", "[I", true), ("GrammarStreamModel", "finds", "[I", true), ("GrammarStreamModel", "live", "[Z", true), ("GrammarStreamModel", "shortest", "[I", true), ("GrammarStreamModel", "next", "[J", true), ("GrammarStreamModel", "made", "[J", true), ("GrammarStreamModel", "depths", "[I", true), ("GrammarStreamModel", "empties", "[Z", true), ("GrammarStreamModel", "firsts", "[I", true), ("GrammarStreamModel", "follows", "[I", true), ("GrammarStreamModel", "reached", "[Z", true), ("GrammarStreamModel", "cells", "[I", true), ("GrammarStreamModel", "conflicts", "Z", false), ("GrammarStreamModel", "clash", "[I", true), ("GrammarStreamModel", "isMade", "Z", false), ("GrammarStreamModel", "wasConflict", "Z", false), ("GrammarStreamModel", "myTokens", "I", false), ("GrammarStreamModel", "mySkipped", "[Z", true), ("GrammarStreamModel", "myShortest", "[I", true), ("GrammarStreamModel", "mySymbols", "I", false), ("GrammarStreamModel", "myRules", "I", false), ("GrammarStreamModel", "mySymbol", "[I", true), ("GrammarStreamModel", "mySize", "[I", true), ("GrammarStreamModel", "myItems", "[I", true), ("GrammarStreamModel", "myPlaces", "I", false), ("GrammarStreamModel", "myStates", "I", false), ("GrammarStreamModel", "myLive", "I", false), ("GrammarStreamModel", "mySteps", "[I", true), ("GrammarStreamModel", "myFinds", "[I", true), ("GrammarStreamModel", "myEmpties", "[Z", true), ("GrammarStreamModel", "myReached", "[Z", true), ("GrammarStreamModel", "myFirsts", "[I", true), ("GrammarStreamModel", "myFollows", "[I", true), ("GrammarStreamModel", "myCells", "[I", true), ("GrammarStreamModel", "counted", "Z", false), ("GrammarStreamModel", "counts", "[J", true), ("GrammarStreamModel", "ways", "[J", true), ("GrammarStreamModel", "longer", "[J", true), ("GrammarStreamModel", "stream", "[I", true), ("GrammarStreamModel", "streamSize", "I", false), ("GrammarStreamModel", "error", "I", false), ("GrammarStreamModel", "errorPlace", "I", false), ("GrammarStreamModel", "finished", "Z", false), ("GrammarStreamModel", "begin", "I", false), ("GrammarStreamModel", "looked", "I", false), ("GrammarStreamModel", "state", "I", false), ("GrammarStreamModel", "bestEnd", "I", false), ("GrammarStreamModel", "bestToken", "I", false), ("GrammarStreamModel", "foundCount", "I", false), ("GrammarStreamModel", "foundToken", "[I", true), ("GrammarStreamModel", "foundBegin", "[I", true), ("GrammarStreamModel", "foundEnd", "[I", true), ("GrammarStreamModel", "notedCount", "I", false), ("GrammarStreamModel", "notedRule", "[I", true), ("GrammarStreamModel", "notedBy", "[I", true), ("GrammarStreamModel", "notedPlace", "[I", true), ("GrammarStreamModel", "notedGone", "[I", true), ("GrammarStreamModel", "gone", "I", false), ("GrammarStreamModel", "pileSize", "I", false), ("GrammarStreamModel", "pile", "[I", true), ("GrammarStreamModel", "pileBy", "[I", true), ("GrammarStreamModel", "pilePlace", "[I", true), ("GrammarStreamModel", "trial", "[I", true)]
def gx_T12 : u_T := fun k => gx_f12.getD k ("", "", "", false)
def gx_cl : List vw_C := [("GrammarStream$Counts", gx_T0, 5), ("GrammarStream$Grammar", gx_T1, 12), ("GrammarStream$Machine", gx_T2, 8), ("GrammarStream$MachineMaker", gx_T3, 9), ("GrammarStream$Names", gx_T4, 3), ("GrammarStream$Outline", gx_T5, 9), ("GrammarStream$Parser", gx_T6, 14), ("GrammarStream$Piece", gx_T7, 3), ("GrammarStream$Places", gx_T8, 5), ("GrammarStream$Reading", gx_T9, 16), ("GrammarStream$TextReader", gx_T10, 11), ("GrammarStream", gx_T11, 10), ("GrammarStreamModel", gx_T12, 112)]
def gx_tys : List (List FieldType) := [[.array .long, .array .long, .array .int, .int, .int], [.object "GrammarStream$Machine", .int, .int, .int, .array .boolean, .array .int, .array .int, .array .int, .int, .array .int, .array .int, .array .int], [.int, .int, .int, .int, .array .int, .array .int, .array .int, .array .int], [.array .long, .array .int, .array .int, .array .int, .array .boolean, .array .int, .array .long, .array .long, .int], [.array .int, .array .int, .int], [.object "GrammarStream$Names", .array .boolean, .object "GrammarStream$Names", .object "GrammarStream$Names", .array .int, .array .int, .array .int, .array .int, .int], [.object "GrammarStream$Grammar", .array .int, .array .int, .array .int, .int, .array .int, .array .int, .array .int, .array .int, .array .int, .array .int, .array .int, .int, .int], [.boolean, .array .long, .array .long], [.int, .array .long, .array .long, .array .long, .array .int], [.object "GrammarStream$Grammar", .object "GrammarStream$Parser", .array .int, .int, .int, .int, .int, .int, .int, .int, .int, .boolean, .array .int, .array .int, .array .int, .int], [.int, .int, .object "GrammarStream$Outline", .object "GrammarStream$Places", .array .int, .int, .int, .array (.object "GrammarStream$Piece"), .array (.object "GrammarStream$Piece"), .array (.object "GrammarStream$Piece"), .array .boolean], [.array .int, .int, .array .int, .boolean, .object "GrammarStream$TextReader", .object "GrammarStream$MachineMaker", .object "GrammarStream$Grammar", .object "GrammarStream$Grammar", .object "GrammarStream$Reading", .object "GrammarStream$Counts"], [.array .int, .int, .int, .int, .int, .int, .int, .int, .array .int, .array .int, .array .boolean, .int, .array .int, .array .int, .int, .array .int, .array .int, .array .int, .int, .array .int, .array .int, .array .int, .int, .int, .array .boolean, .array .boolean, .array .long, .array .long, .array .boolean, .array .boolean, .array .long, .array .long, .int, .boolean, .array .long, .array .long, .int, .array .long, .array .long, .array .int, .array .long, .array .long, .array .long, .long, .long, .int, .array .boolean, .int, .array .long, .array .int, .array .int, .array .boolean, .array .int, .array .long, .array .long, .array .int, .array .boolean, .array .int, .array .int, .array .boolean, .array .int, .boolean, .array .int, .boolean, .boolean, .int, .array .boolean, .array .int, .int, .int, .array .int, .array .int, .array .int, .int, .int, .int, .array .int, .array .int, .array .boolean, .array .boolean, .array .int, .array .int, .array .int, .boolean, .array .long, .array .long, .array .long, .array .int, .int, .int, .int, .boolean, .int, .int, .int, .int, .int, .int, .array .int, .array .int, .array .int, .int, .array .int, .array .int, .array .int, .array .int, .int, .int, .array .int, .array .int, .array .int, .array .int]]
def gx_ty (ci k : Nat) : FieldType := (gx_tys.getD ci []).getD k .int
def gx_ats : List FieldType := [.int, .long, .boolean, .object "GrammarStream$Piece"]
def gx_fp0 : List Nat := [1001, 1003, 1005, 1007, 1009]
def gx_fp1 : List Nat := [463, 465, 467, 469, 471, 473, 475, 477, 479, 481, 483, 485]
def gx_fp2 : List Nat := [414, 416, 418, 420, 422, 424, 426, 428]
def gx_fp3 : List Nat := [362, 364, 366, 368, 370, 372, 374, 376, 378]
def gx_fp4 : List Nat := [205, 207, 209]
def gx_fp5 : List Nat := [236, 238, 240, 242, 244, 246, 248, 250, 252]
def gx_fp6 : List Nat := [827, 829, 831, 833, 835, 837, 839, 841, 843, 845, 847, 849, 851, 853]
def gx_fp7 : List Nat := [302, 304, 306]
def gx_fp8 : List Nat := [272, 274, 276, 278, 280]
def gx_fp9 : List Nat := [881, 883, 885, 887, 889, 891, 893, 895, 897, 899, 901, 903, 905, 907, 909, 911]
def gx_fp10 : List Nat := [324, 326, 328, 330, 332, 334, 336, 338, 340, 342, 344]
def gx_fp11 : List Nat := [138, 140, 142, 144, 146, 148, 150, 152, 154, 156]
def gx_fp12 : List Nat := [1241, 1243, 1245, 1247, 1249, 1251, 1253, 1255, 1257, 1259, 1261, 1263, 1265, 1267, 1269, 1271, 1273, 1275, 1277, 1279, 1281, 1283, 1285, 1287, 1289, 1291, 1293, 1295, 1297, 1299, 1301, 1303, 1305, 1307, 1309, 1311, 1313, 1315, 1317, 1319, 1321, 1323, 1325, 1327, 1329, 1331, 1333, 1335, 1337, 1339, 1341, 1343, 1345, 1347, 1349, 1351, 1353, 1355, 1357, 1359, 1361, 1363, 1365, 1367, 1369, 1371, 1373, 1375, 1377, 1379, 1381, 1383, 1385, 1387, 1389, 1391, 1393, 1395, 1397, 1399, 1401, 1403, 1405, 1407, 1409, 1411, 1413, 1415, 1417, 1419, 1421, 1423, 1425, 1427, 1429, 1431, 1433, 1435, 1437, 1439, 1441, 1443, 1445, 1447, 1449, 1451, 1453, 1455, 1457, 1459, 1461, 1463]
def gx_fps : List (List Nat) := [gx_fp0, gx_fp1, gx_fp2, gx_fp3, gx_fp4, gx_fp5, gx_fp6, gx_fp7, gx_fp8, gx_fp9, gx_fp10, gx_fp11, gx_fp12]
def gx_l0 : List (Nat × am_K × List Nat) := [(1, (5, 0, 0, 0), [1127, 126, 127]), (7, (0, 12, 0, 0), [1129]), (13, (0, 12, 8, 0), [1137]), (16, (0, 12, 9, 0), [1138]), (19, (0, 12, 10, 0), [1139]), (23, (0, 12, 12, 0), [1141]), (26, (0, 12, 13, 0), [1142]), (29, (0, 12, 15, 0), [1144]), (32, (0, 12, 16, 0), [1145]), (35, (0, 12, 17, 0), [1146]), (38, (0, 12, 19, 0), [1148]), (41, (0, 12, 20, 0), [1149]), (44, (0, 12, 21, 0), [1150]), (47, (0, 12, 24, 0), [1153]), (50, (0, 12, 25, 0), [1154]), (53, (0, 12, 26, 0), [1155]), (57, (0, 12, 27, 0), [1156]), (60, (0, 12, 28, 0), [1157]), (63, (0, 12, 29, 0), [1158]), (66, (0, 12, 30, 0), [1159]), (69, (0, 12, 31, 0), [1160]), (72, (0, 12, 34, 0), [1163]), (75, (0, 12, 35, 0), [1164]), (78, (0, 12, 37, 0), [1166]), (81, (0, 12, 38, 0), [1167]), (84, (0, 12, 39, 0), [1168]), (87, (0, 12, 40, 0), [1169]), (90, (0, 12, 41, 0), [1170]), (93, (0, 12, 42, 0), [1171]), (96, (0, 12, 46, 0), [1175]), (99, (0, 12, 48, 0), [1177]), (102, (6, 0, 0, 51200), [1128]), (103, (0, 12, 49, 0), [1178]), (106, (0, 12, 50, 0), [1179]), (109, (0, 12, 51, 0), [1180]), (112, (0, 12, 52, 0), [1181]), (115, (0, 12, 53, 0), [1182]), (118, (0, 12, 54, 0), [1183]), (121, (0, 12, 55, 0), [1184]), (124, (0, 12, 56, 0), [1185]), (127, (0, 12, 57, 0), [1186]), (130, (0, 12, 58, 0), [1187]), (133, (0, 12, 59, 0), [1188]), (136, (0, 12, 60, 0), [1189]), (139, (0, 12, 62, 0), [1191]), (142, (0, 12, 66, 0), [1195]), (145, (0, 12, 67, 0), [1196]), (148, (0, 12, 70, 0), [1199]), (151, (0, 12, 71, 0), [1200]), (154, (0, 12, 72, 0), [1201]), (157, (0, 12, 76, 0), [1205]), (160, (0, 12, 77, 0), [1206]), (163, (0, 12, 78, 0), [1207]), (166, (0, 12, 79, 0), [1208]), (169, (0, 12, 80, 0), [1209]), (172, (0, 12, 81, 0), [1210]), (175, (0, 12, 82, 0), [1211]), (178, (0, 12, 84, 0), [1213]), (181, (0, 12, 85, 0), [1214]), (184, (0, 12, 86, 0), [1215]), (187, (0, 12, 87, 0), [1216]), (190, (0, 12, 98, 0), [1227]), (193, (0, 12, 99, 0), [1228]), (196, (0, 12, 100, 0), [1229]), (199, (0, 12, 102, 0), [1231]), (202, (0, 12, 103, 0), [1232]), (205, (0, 12, 104, 0), [1233]), (208, (0, 12, 105, 0), [1234]), (211, (0, 12, 108, 0), [1237]), (214, (0, 12, 109, 0), [1238]), (217, (0, 12, 110, 0), [1239]), (220, (0, 12, 111, 0), [1240]), (223, (0, 12, 1, 0), [1130]), (227, (7, 0, 0, 255), [1470]), (229, (0, 12, 2, 0), [1131]), (232, (1, 142, 0, 0), [1487, 1489, 53]), (236, (1, 143, 0, 0), [1491, 1493, 54]), (240, (0, 12, 3, 0), [1132]), (243, (0, 12, 4, 0), [1133]), (246, (0, 12, 22, 0), [1151]), (249, (1, 144, 0, 0), [1495, 1497, 55]), (252, (1, 147, 0, 0), [1507, 1509, 58]), (255, (1, 148, 0, 0), [1511, 1513, 59]), (258, (1, 149, 0, 0), [1515, 1517, 60]), (261, (0, 12, 23, 0), [1152]), (264, (0, 12, 7, 0), [1136]), (267, (1, 151, 0, 0), [1523, 1525, 62]), (271, (0, 12, 11, 0), [1140]), (274, (1, 141, 0, 0), [1483, 1485, 52]), (277, (0, 12, 14, 0), [1143]), (280, (0, 12, 18, 0), [1147]), (283, (0, 12, 36, 0), [1165]), (286, (1, 145, 0, 0), [1499, 1501, 56]), (290, (1, 155, 0, 0), [1539, 1541, 66]), (293, (1, 146, 0, 0), [1503, 1505, 57]), (296, (1, 156, 0, 0), [1543, 1545, 67]), (300, (1, 153, 0, 0), [1531, 1533, 64]), (304, (1, 152, 0, 0), [1527, 1529, 63]), (307, (1, 157, 0, 0), [1547, 1549, 68]), (310, (1, 150, 0, 0), [1519, 1521, 61]), (313, (1, 154, 0, 0), [1535, 1537, 65]), (316, (0, 12, 32, 0), [1161]), (319, (1, 158, 0, 0), [1551, 1553, 69]), (322, (1, 159, 0, 0), [1555, 1557, 70]), (325, (1, 160, 0, 0), [1559, 1561, 71]), (328, (0, 12, 33, 0), [1162]), (332, (1, 161, 0, 0), [1563, 1565, 72]), (335, (1, 166, 0, 0), [1583, 1585, 77]), (339, (1, 167, 0, 0), [1587, 1589, 78]), (342, (1, 169, 0, 0), [1595, 1597, 80]), (345, (1, 168, 0, 0), [1591, 1593, 79]), (348, (0, 12, 43, 0), [1172]), (352, (0, 12, 44, 0), [1173]), (355, (0, 12, 45, 0), [1174]), (358, (1, 162, 0, 0), [1567, 1569, 73]), (360, (1, 165, 0, 0), [1579, 1581, 76]), (363, (1, 164, 0, 0), [1575, 1577, 75]), (366, (1, 163, 0, 0), [1571, 1573, 74]), (369, (0, 12, 47, 0), [1176]), (372, (1, 173, 0, 0), [1611, 1613, 84]), (375, (1, 174, 0, 0), [1615, 1617, 85]), (379, (1, 175, 0, 0), [1619, 1621, 86]), (382, (1, 176, 0, 0), [1623, 1625, 87]), (385, (1, 178, 0, 0), [1631, 1633, 89]), (388, (1, 179, 0, 0), [1635, 1637, 90]), (391, (1, 180, 0, 0), [1639, 1641, 91]), (394, (1, 181, 0, 0), [1643, 1645, 92]), (397, (0, 12, 61, 0), [1190]), (400, (1, 139, 0, 0), [1475, 1477, 50]), (403, (0, 12, 5, 0), [1134]), (406, (0, 12, 6, 0), [1135]), (409, (0, 12, 64, 0), [1193]), (412, (1, 140, 0, 0), [1479, 1481, 51]), (415, (1, 170, 0, 0), [1599, 1601, 81]), (418, (1, 171, 0, 0), [1603, 1605, 82]), (421, (1, 172, 0, 0), [1607, 1609, 83]), (424, (1, 177, 0, 0), [1627, 1629, 88]), (427, (1, 182, 0, 0), [1647, 1649, 93]), (430, (0, 12, 63, 0), [1192]), (433, (0, 12, 65, 0), [1194]), (436, (0, 12, 68, 0), [1197]), (439, (0, 12, 69, 0), [1198]), (442, (0, 12, 73, 0), [1202]), (445, (0, 12, 74, 0), [1203]), (448, (0, 12, 75, 0), [1204]), (451, (0, 12, 83, 0), [1212]), (454, (1, 183, 0, 0), [1651, 1653, 94]), (457, (1, 187, 0, 0), [1667, 1669, 95]), (460, (1, 188, 0, 0), [1671, 1673, 96]), (463, (1, 190, 0, 0), [1679, 1681, 97]), (466, (1, 198, 0, 0), [1712, 1714, 99]), (470, (7, 0, 0, -1), [1707]), (472, (1, 197, 0, 0), [1708, 1710, 98]), (475, (0, 12, 88, 0), [1217]), (478, (0, 12, 89, 0), [1218]), (481, (0, 12, 90, 0), [1219]), (484, (0, 12, 91, 0), [1220]), (487, (0, 12, 92, 0), [1221]), (490, (0, 12, 93, 0), [1222]), (493, (0, 12, 94, 0), [1223]), (496, (0, 12, 95, 0), [1224]), (499, (0, 12, 97, 0), [1226]), (502, (0, 12, 101, 0), [1230]), (505, (0, 12, 106, 0), [1235]), (508, (0, 12, 107, 0), [1236]), (511, (0, 12, 96, 0), [1225]), (514, (1, 201, 0, 0), [1724, 1726, 101]), (517, (1, 202, 0, 0), [1728, 1730, 102]), (520, (1, 200, 0, 0), [1720, 1722, 100])]
def gx_l1 : List (Nat × am_K × List Nat) := [(3, (5, 0, 0, 0), [180, 126, 127]), (9, (0, 10, 0, 0), [309]), (15, (0, 10, 1, 0), [311]), (18, (2, 5, 0, 0), [181, 182, 107]), (20, (1, 6, 2, 0), [183, 184]), (21, (0, 10, 2, 0), [313]), (25, (2, 8, 0, 0), [256, 257, 110]), (27, (1, 8, 2, 0), [258, 259]), (28, (0, 10, 3, 0), [315]), (32, (0, 10, 4, 0), [317]), (36, (0, 10, 5, 0), [318]), (39, (0, 10, 6, 0), [319]), (42, (1, 9, 3, 0), [284, 285]), (46, (0, 10, 7, 0), [320]), (50, (0, 10, 8, 0), [321]), (53, (0, 10, 9, 0), [322]), (56, (0, 10, 10, 0), [323]), (60, (2, 7, 0, 0), [287, 289, 111]), (62, (1, 10, 2, 0), [290, 291]), (63, (1, 15, 0, 0), [492, 494, 1]), (67, (1, 19, 0, 0), [510, 512, 2]), (71, (1, 20, 4, 0), [514, 515]), (75, (1, 21, 0, 0), [517, 519, 3]), (79, (1, 23, 4, 0), [525, 526]), (82, (1, 53, 0, 0), [640, 642, 16]), (86, (1, 27, 0, 0), [539, 540, 541]), (90, (1, 58, 0, 0), [661, 663, 19]), (93, (0, 5, 2, 0), [220]), (97, (0, 4, 2, 0), [204]), (102, (9, 0, 0, 0), [496, 497, 109, 498]), (108, (1, 16, 0, 0), [499, 500, 501]), (111, (1, 17, 0, 0), [503, 504, 505]), (112, (1, 22, 0, 0), [521, 523, 4]), (115, (1, 24, 0, 0), [528, 530, 5]), (119, (1, 30, 0, 0), [551, 553, 6]), (122, (1, 31, 0, 0), [555, 557, 7]), (125, (0, 7, 0, 0), [295]), (129, (1, 52, 0, 0), [636, 637, 638]), (133, (0, 5, 0, 0), [214]), (136, (1, 25, 0, 0), [532, 533, 534]), (140, (1, 28, 0, 0), [543, 544, 545]), (144, (1, 54, 0, 0), [644, 646, 17]), (147, (1, 55, 0, 0), [649, 651, 18]), (150, (1, 29, 0, 0), [648, 548, 549]), (153, (1, 56, 0, 0), [653, 654, 655]), (157, (0, 5, 8, 0), [235]), (160, (1, 57, 0, 0), [657, 658, 659]), (163, (0, 5, 3, 0), [223]), (166, (0, 4, 0, 0), [197]), (168, (0, 4, 1, 0), [200]), (171, (0, 5, 1, 0), [217]), (174, (0, 5, 4, 0), [226]), (177, (1, 32, 0, 0), [559, 560, 561]), (180, (1, 33, 0, 0), [564, 565, 566]), (184, (1, 35, 3, 0), [571, 572]), (187, (1, 36, 0, 0), [574, 576, 8]), (191, (0, 7, 2, 0), [301]), (195, (0, 7, 1, 0), [298]), (198, (1, 47, 0, 0), [617, 618, 619]), (202, (1, 51, 0, 0), [632, 633, 634]), (205, (1, 37, 0, 0), [578, 580, 9]), (208, (1, 38, 0, 0), [582, 584, 10]), (211, (1, 39, 0, 0), [586, 588, 11]), (214, (1, 40, 0, 0), [590, 592, 12]), (217, (1, 41, 0, 0), [594, 596, 13]), (220, (1, 43, 0, 0), [601, 603, 14]), (224, (1, 45, 0, 0), [609, 610, 611]), (227, (1, 46, 0, 0), [613, 614, 615]), (230, (1, 42, 3, 0), [598, 599]), (233, (1, 44, 0, 0), [605, 607, 15])]
def gx_l2 : List (Nat × am_K × List Nat) := [(3, (5, 0, 0, 0), [125, 126, 127]), (9, (0, 11, 0, 0), [128]), (13, (0, 11, 1, 0), [129]), (17, (0, 11, 2, 0), [130]), (20, (0, 11, 3, 0), [131]), (24, (0, 11, 4, 0), [132]), (28, (0, 11, 5, 0), [133]), (32, (0, 11, 6, 0), [134]), (36, (0, 11, 7, 0), [135]), (39, (0, 11, 8, 0), [136]), (43, (0, 11, 9, 0), [137]), (47, (1, 2, 3, 0), [164, 165]), (51, (1, 4, 0, 0), [171, 173, 0]), (54, (1, 14, 0, 0), [488, 489, 490]), (55, (2, 10, 0, 0), [175, 176, 106]), (60, (1, 59, 3, 0), [665, 666]), (64, (0, 10, 1, 0), [312]), (67, (0, 10, 3, 0), [316]), (71, (0, 1, 0, 0), [432]), (72, (2, 1, 0, 0), [381, 382, 113]), (77, (1, 66, 0, 0), [696, 697, 698]), (78, (2, 3, 0, 0), [347, 348, 112]), (83, (1, 80, 0, 0), [758, 759, 760]), (86, (1, 86, 0, 0), [783, 784, 785]), (90, (1, 88, 0, 0), [791, 793, 38]), (94, (0, 10, 0, 0), [310]), (97, (1, 98, 0, 0), [942, 943, 944]), (101, (1, 99, 0, 0), [946, 947, 948]), (104, (0, 1, 9, 0), [459]), (107, (1, 65, 3, 0), [950, 693]), (111, (1, 101, 0, 0), [955, 956, 957]), (114, (0, 1, 10, 0), [461]), (117, (0, 1, 8, 0), [457]), (120, (1, 104, 0, 0), [968, 969, 970]), (124, (0, 1, 1, 0), [437]), (127, (0, 1, 2, 0), [440]), (130, (0, 1, 3, 0), [443]), (133, (0, 2, 0, 0), [395]), (138, (0, 2, 1, 0), [398]), (141, (0, 2, 2, 0), [400]), (144, (0, 1, 5, 0), [449]), (147, (0, 1, 6, 0), [453]), (150, (1, 64, 0, 0), [980, 689, 690]), (153, (0, 1, 4, 0), [446]), (157, (0, 2, 7, 0), [413]), (160, (7, 0, 0, -1), [989]), (162, (2, 0, 0, 0), [990, 991, 119]), (164, (1, 109, 2, 0), [992, 993]), (165, (1, 110, 0, 0), [1012, 1013, 1014]), (169, (0, 9, 11, 0), [872]), (170, (2, 9, 0, 0), [795, 796, 117]), (174, (0, 9, 3, 0), [861]), (177, (1, 118, 0, 0), [1046, 1047, 1048]), (181, (1, 119, 0, 0), [1050, 1051, 1052]), (184, (0, 9, 9, 0), [868]), (187, (1, 129, 0, 0), [1092, 1093, 1094]), (190, (1, 91, 0, 0), [914, 915, 916]), (193, (0, 9, 10, 0), [870]), (196, (0, 9, 15, 0), [880]), (199, (0, 9, 1, 0), [858]), (203, (0, 6, 12, 0), [825]), (208, (0, 6, 4, 0), [812]), (211, (0, 9, 12, 0), [874]), (214, (0, 9, 13, 0), [876]), (217, (0, 9, 14, 0), [878]), (220, (0, 6, 8, 0), [817]), (223, (0, 6, 9, 0), [819]), (226, (0, 6, 10, 0), [821]), (229, (0, 6, 11, 0), [823]), (232, (1, 135, 0, 0), [1116, 1117, 1118]), (235, (1, 5, 2, 0), [177, 178]), (236, (1, 11, 2, 0), [349, 350]), (237, (1, 12, 2, 0), [383, 384]), (238, (0, 10, 2, 0), [314]), (242, (1, 60, 0, 0), [668, 669, 670]), (246, (1, 61, 0, 0), [676, 677, 678]), (250, (0, 5, 2, 0), [221]), (256, (0, 4, 0, 0), [198]), (260, (1, 27, 0, 0), [695, 540, 541]), (264, (1, 89, 1, 0), [797, 798]), (266, (1, 94, 0, 0), [926, 927, 928])]
def gx_l3 : List (Nat × am_K × List Nat) := [(3, (5, 0, 0, 0), [386, 126, 127]), (9, (2, 2, 0, 0), [387, 388, 114]), (11, (1, 13, 2, 0), [389, 390]), (12, (0, 1, 0, 0), [431]), (18, (0, 1, 1, 0), [434]), (22, (0, 1, 2, 0), [438]), (25, (0, 1, 3, 0), [441]), (28, (0, 1, 4, 0), [444]), (32, (0, 1, 5, 0), [447]), (36, (0, 1, 6, 0), [450]), (39, (0, 1, 7, 0), [454]), (42, (0, 1, 8, 0), [455]), (45, (0, 1, 9, 0), [458]), (48, (0, 1, 10, 0), [460]), (51, (0, 1, 11, 0), [462]), (54, (0, 5, 0, 0), [213]), (60, (0, 4, 2, 0), [203]), (65, (9, 0, 0, 0), [672, 497, 109, 498]), (71, (0, 5, 2, 0), [219]), (74, (0, 5, 8, 0), [234]), (75, (0, 5, 1, 0), [216]), (76, (0, 5, 5, 0), [228]), (77, (0, 5, 7, 0), [232]), (78, (0, 5, 4, 0), [225]), (81, (0, 5, 6, 0), [230]), (84, (4, 0, 0, 0), [673, 675, 674, 116]), (90, (1, 98, 0, 0), [959, 943, 944]), (94, (1, 62, 0, 0), [680, 682, 20]), (98, (1, 65, 4, 0), [692, 693]), (102, (1, 81, 0, 0), [762, 764, 33]), (105, (1, 83, 0, 0), [771, 773, 35]), (108, (1, 63, 0, 0), [684, 686, 21]), (112, (1, 64, 0, 0), [688, 689, 690]), (115, (1, 68, 3, 0), [766, 706]), (121, (1, 82, 0, 0), [767, 769, 34]), (124, (1, 84, 0, 0), [775, 777, 36]), (127, (1, 85, 0, 0), [779, 780, 781]), (130, (1, 87, 0, 0), [787, 789, 37])]
def gx_l4 : List (Nat × am_K × List Nat) := [(3, (5, 0, 0, 0), [352, 126, 127]), (9, (0, 3, 0, 0), [353]), (15, (0, 3, 1, 0), [354]), (19, (0, 3, 2, 0), [355]), (22, (0, 3, 3, 0), [356]), (25, (0, 3, 4, 0), [357]), (29, (0, 3, 5, 0), [358]), (32, (0, 3, 6, 0), [359]), (35, (0, 3, 7, 0), [360]), (38, (0, 3, 8, 0), [361]), (42, (0, 8, 0, 0), [263]), (47, (1, 49, 0, 0), [700, 626, 627]), (51, (1, 67, 0, 0), [701, 702, 703]), (57, (1, 69, 0, 0), [708, 710, 22]), (61, (1, 68, 3, 0), [720, 706]), (67, (0, 2, 6, 0), [409]), (70, (0, 2, 1, 0), [397]), (73, (1, 72, 0, 0), [721, 723, 25]), (77, (1, 78, 0, 0), [750, 752, 31]), (81, (1, 70, 0, 0), [712, 714, 23]), (85, (0, 2, 3, 0), [403]), (88, (1, 71, 0, 0), [716, 718, 24]), (92, (0, 2, 4, 0), [405]), (95, (0, 8, 1, 0), [265]), (98, (1, 73, 0, 0), [725, 727, 26]), (102, (1, 74, 0, 0), [732, 734, 27]), (106, (0, 2, 5, 0), [407]), (109, (0, 8, 3, 0), [269]), (112, (4, 0, 0, 0), [729, 675, 674, 116]), (118, (1, 18, 3, 0), [730, 508]), (121, (1, 50, 3, 0), [731, 630]), (125, (0, 8, 2, 0), [267]), (128, (7, 0, 0, -7046029254386353131), [736]), (130, (7, 0, 0, 1023), [737]), (132, (1, 75, 0, 0), [738, 740, 28]), (136, (1, 76, 0, 0), [742, 744, 29]), (139, (1, 77, 0, 0), [746, 748, 30]), (143, (0, 2, 7, 0), [412]), (146, (0, 8, 4, 0), [271]), (149, (1, 79, 0, 0), [754, 756, 32]), (153, (0, 2, 2, 0), [401])]
def gx_l5 : List (Nat × am_K × List Nat) := [(3, (5, 0, 0, 0), [995, 126, 127]), (11, (0, 0, 0, 0), [996]), (15, (0, 0, 1, 0), [997]), (18, (0, 0, 2, 0), [998]), (22, (0, 0, 3, 0), [999]), (26, (0, 0, 4, 0), [1000]), (29, (1, 18, 3, 0), [1016, 508]), (35, (1, 111, 0, 0), [1017, 1019, 40]), (39, (1, 114, 0, 0), [1030, 1032, 41]), (43, (0, 1, 2, 0), [439]), (48, (1, 65, 4, 0), [1021, 693]), (52, (1, 112, 3, 0), [1022, 1023]), (56, (0, 1, 3, 0), [442]), (59, (0, 1, 5, 0), [448]), (62, (1, 113, 3, 0), [1025, 1026]), (65, (0, 1, 6, 0), [452]), (68, (1, 64, 0, 0), [1028, 689, 690]), (72, (1, 85, 0, 0), [1029, 780, 781]), (75, (0, 1, 8, 0), [456]), (78, (1, 115, 0, 0), [1034, 1036, 42]), (82, (1, 116, 0, 0), [1038, 1040, 43])]
def gx_l6 : List (Nat × am_K × List Nat) := [(3, (5, 0, 0, 0), [806, 126, 127]), (9, (0, 6, 1, 0), [808]), (15, (0, 6, 2, 0), [809]), (18, (0, 6, 3, 0), [810]), (21, (0, 6, 4, 0), [811]), (25, (0, 6, 5, 0), [813]), (28, (0, 6, 6, 0), [814]), (31, (0, 6, 7, 0), [815]), (34, (0, 6, 8, 0), [816]), (37, (0, 6, 9, 0), [818]), (40, (0, 6, 10, 0), [820]), (43, (0, 6, 11, 0), [822]), (46, (0, 6, 12, 0), [824]), (49, (0, 6, 13, 0), [826]), (52, (0, 6, 0, 0), [807]), (56, (0, 1, 1, 0), [435]), (61, (1, 126, 0, 0), [1078, 1080, 48]), (65, (1, 104, 0, 0), [1082, 969, 970]), (68, (0, 1, 6, 0), [451]), (71, (1, 127, 0, 0), [1083, 1085, 49]), (75, (1, 64, 0, 0), [1087, 689, 690]), (78, (4, 0, 0, 0), [1120, 675, 674, 116]), (84, (1, 125, 0, 0), [1121, 1075, 1076])]
def gx_l7 : List (Nat × am_K × List Nat) := [(3, (5, 0, 0, 0), [800, 126, 127]), (9, (0, 9, 2, 0), [859]), (15, (0, 9, 3, 0), [860]), (19, (0, 9, 4, 0), [862]), (22, (0, 9, 5, 0), [863]), (25, (0, 9, 6, 0), [864]), (28, (0, 9, 7, 0), [865]), (31, (0, 9, 8, 0), [866]), (34, (0, 9, 9, 0), [867]), (37, (0, 9, 10, 0), [869]), (40, (0, 9, 11, 0), [871]), (44, (0, 9, 12, 0), [873]), (47, (0, 9, 13, 0), [875]), (50, (0, 9, 14, 0), [877]), (53, (0, 9, 15, 0), [879]), (56, (0, 9, 0, 0), [856]), (60, (2, 6, 0, 0), [801, 802, 118]), (62, (1, 90, 1, 0), [803, 804]), (65, (0, 9, 1, 0), [857]), (69, (1, 92, 0, 0), [918, 919, 920]), (72, (1, 93, 0, 0), [922, 924, 39]), (76, (1, 120, 0, 0), [1054, 1056, 44]), (80, (0, 1, 1, 0), [436]), (85, (1, 124, 0, 0), [1070, 1072, 47]), (89, (1, 121, 0, 0), [1058, 1060, 45]), (93, (1, 123, 0, 0), [1066, 1068, 46]), (96, (0, 1, 0, 0), [433]), (100, (1, 122, 0, 0), [1062, 1063, 1064]), (106, (0, 2, 6, 0), [410]), (109, (0, 1, 4, 0), [445]), (113, (1, 125, 0, 0), [1074, 1075, 1076])]
def gx_l8 : List (Nat × am_K × List Nat) := [(3, (5, 0, 0, 0), [261, 126, 127]), (9, (0, 8, 0, 0), [262]), (15, (0, 8, 1, 0), [264]), (19, (0, 8, 2, 0), [266]), (22, (0, 8, 3, 0), [268]), (25, (0, 8, 4, 0), [270]), (29, (1, 18, 3, 0), [507, 508]), (35, (1, 48, 0, 0), [621, 622, 623]), (39, (1, 49, 0, 0), [625, 626, 627]), (42, (1, 50, 3, 0), [629, 630]), (46, (0, 7, 1, 0), [297]), (49, (0, 7, 2, 0), [300])]
def gx_l9 : List (Nat × am_K × List Nat) := [(3, (5, 0, 0, 0), [186, 126, 127]), (9, (2, 4, 0, 0), [187, 188, 108]), (11, (1, 7, 1, 0), [189, 190]), (14, (0, 5, 0, 0), [212]), (20, (0, 5, 1, 0), [215]), (24, (0, 5, 2, 0), [218]), (27, (0, 5, 3, 0), [222]), (30, (0, 5, 4, 0), [224]), (34, (0, 5, 5, 0), [227]), (37, (0, 5, 6, 0), [229]), (40, (0, 5, 7, 0), [231]), (43, (0, 5, 8, 0), [233]), (47, (0, 4, 2, 0), [202]), (50, (1, 29, 0, 0), [547, 548, 549])]
def gx_l10 : List (Nat × am_K × List Nat) := [(3, (5, 0, 0, 0), [293, 126, 127]), (9, (0, 7, 0, 0), [294]), (15, (0, 7, 1, 0), [296]), (19, (0, 7, 2, 0), [299]), (22, (1, 18, 3, 0), [563, 508]), (28, (1, 34, 3, 0), [568, 569])]
def gx_l11 : List (Nat × am_K × List Nat) := [(1, (5, 0, 0, 0), [192, 126, 127]), (7, (0, 4, 2, 0), [201]), (13, (8, 0, 0, 0), [193, 194, 109, 195]), (19, (0, 4, 0, 0), [196]), (23, (0, 4, 1, 0), [199]), (26, (1, 26, 3, 0), [536, 537])]
def gx_l12 : List (Nat × am_K × List Nat) := [(3, (5, 0, 0, 0), [392, 126, 127]), (9, (0, 2, 0, 0), [394]), (15, (0, 2, 1, 0), [396]), (18, (0, 2, 2, 0), [399]), (21, (0, 2, 3, 0), [402]), (24, (0, 2, 4, 0), [404]), (28, (6, 0, 0, 47200), [393]), (29, (0, 2, 5, 0), [406]), (32, (0, 2, 6, 0), [408]), (35, (0, 2, 7, 0), [411]), (38, (1, 68, 3, 0), [705, 706])]
def gx_l13 : List (Nat × am_K × List Nat) := [(7, (2, 11, 0, 0), [120, 121, 104]), (9, (1, 0, 1, 0), [122, 123]), (10, (2, 12, 0, 0), [1122, 1123, 105]), (12, (1, 136, 1, 0), [1124, 1125]), (13, (7, 0, 0, 4294967295), [1756]), (15, (1, 1, 0, 0), [160, 161, 162]), (19, (1, 137, 0, 0), [1466, 1467, 1468]), (20, (1, 3, 0, 0), [167, 168, 169]), (24, (1, 138, 0, 0), [1471, 1472, 1473]), (25, (1, 95, 0, 0), [930, 931, 932]), (29, (1, 184, 0, 0), [1655, 1656, 1657]), (30, (1, 96, 0, 0), [934, 935, 936]), (33, (1, 185, 0, 0), [1659, 1660, 1661]), (34, (1, 97, 0, 0), [938, 939, 940]), (38, (1, 186, 0, 0), [1663, 1664, 1665]), (39, (1, 100, 0, 0), [951, 952, 953]), (42, (1, 189, 0, 0), [1675, 1676, 1677]), (43, (1, 102, 0, 0), [960, 961, 962]), (47, (1, 191, 0, 0), [1683, 1684, 1685]), (48, (1, 103, 0, 0), [964, 965, 966]), (52, (1, 192, 0, 0), [1687, 1688, 1689]), (53, (1, 105, 0, 0), [972, 973, 974]), (56, (1, 193, 0, 0), [1691, 1692, 1693]), (57, (1, 106, 0, 0), [976, 977, 978]), (60, (1, 194, 0, 0), [1695, 1696, 1697]), (61, (1, 107, 0, 0), [981, 982, 983]), (64, (1, 195, 0, 0), [1699, 1700, 1701]), (65, (1, 108, 0, 0), [985, 986, 987]), (69, (1, 196, 0, 0), [1703, 1704, 1705]), (70, (1, 117, 0, 0), [1042, 1043, 1044]), (73, (1, 199, 0, 0), [1716, 1717, 1718]), (74, (1, 128, 0, 0), [1088, 1089, 1090]), (77, (1, 203, 0, 0), [1732, 1733, 1734]), (78, (1, 130, 0, 0), [1096, 1097, 1098]), (81, (1, 204, 0, 0), [1736, 1737, 1738]), (82, (1, 131, 0, 0), [1100, 1101, 1102]), (85, (1, 205, 0, 0), [1740, 1741, 1742]), (86, (1, 132, 0, 0), [1104, 1105, 1106]), (89, (1, 206, 0, 0), [1744, 1745, 1746]), (90, (1, 133, 0, 0), [1108, 1109, 1110]), (93, (1, 207, 0, 0), [1748, 1749, 1750]), (94, (1, 134, 0, 0), [1112, 1113, 1114]), (97, (1, 208, 0, 0), [1752, 1753, 1754])]
def gx_owns : List (String × List (Nat × am_K × List Nat)) := [("GrammarStreamModel", gx_l0), ("GrammarStream$TextReader", gx_l1), ("GrammarStream", gx_l2), ("GrammarStream$Grammar", gx_l3), ("GrammarStream$MachineMaker", gx_l4), ("GrammarStream$Counts", gx_l5), ("GrammarStream$Parser", gx_l6), ("GrammarStream$Reading", gx_l7), ("GrammarStream$Places", gx_l8), ("GrammarStream$Outline", gx_l9), ("GrammarStream$Piece", gx_l10), ("GrammarStream$Names", gx_l11), ("GrammarStream$Machine", gx_l12), ("GrammarStreamLaw", gx_l13)]
end
section
def gx_ms : List am_M := [gx_m0, gx_m1, gx_m2, gx_m3, gx_m4, gx_m5, gx_m6, gx_m7, gx_m8, gx_m9, gx_m10, gx_m11, gx_m12, gx_m13, gx_m14, gx_m15, gx_m16, gx_m17, gx_m18, gx_m19, gx_m20, gx_m21, gx_m22, gx_m23, gx_m24, gx_m25, gx_m26, gx_m27, gx_m28, gx_m29, gx_m30, gx_m31, gx_m32, gx_m33, gx_m34, gx_m35, gx_m36, gx_m37, gx_m38, gx_m39, gx_m40, gx_m41, gx_m42, gx_m43, gx_m44, gx_m45, gx_m46, gx_m47, gx_m48, gx_m49, gx_m50, gx_m51, gx_m52, gx_m53, gx_m54, gx_m55, gx_m56, gx_m57, gx_m58, gx_m59, gx_m60, gx_m61, gx_m62, gx_m63, gx_m64, gx_m65, gx_m66, gx_m67, gx_m68, gx_m69, gx_m70, gx_m71, gx_m72, gx_m73, gx_m74, gx_m75, gx_m76, gx_m77, gx_m78, gx_m79, gx_m80, gx_m81, gx_m82, gx_m83, gx_m84, gx_m85, gx_m86, gx_m87, gx_m88, gx_m89, gx_m90, gx_m91, gx_m92, gx_m93, gx_m94, gx_m95, gx_m96, gx_m97, gx_m98, gx_m99, gx_m100, gx_m101, gx_m102, gx_m103, gx_m104, gx_m105, gx_m106, gx_m107, gx_m108, gx_m109, gx_m110, gx_m111, gx_m112, gx_m113, gx_m114, gx_m115, gx_m116, gx_m117, gx_m118, gx_m119, gx_m120, gx_m121, gx_m122, gx_m123, gx_m124, gx_m125, gx_m126, gx_m127, gx_m128, gx_m129, gx_m130, gx_m131, gx_m132, gx_m133, gx_m134, gx_m135, gx_m136, gx_m137, gx_m138, gx_m139, gx_m140, gx_m141, gx_m142, gx_m143, gx_m144, gx_m145, gx_m146, gx_m147, gx_m148, gx_m149, gx_m150, gx_m151, gx_m152, gx_m153, gx_m154, gx_m155, gx_m156, gx_m157, gx_m158, gx_m159, gx_m160, gx_m161, gx_m162, gx_m163, gx_m164, gx_m165, gx_m166, gx_m167, gx_m168, gx_m169, gx_m170, gx_m171, gx_m172, gx_m173, gx_m174, gx_m175, gx_m176, gx_m177, gx_m178, gx_m179, gx_m180, gx_m181, gx_m182, gx_m183, gx_m184, gx_m185, gx_m186, gx_m187, gx_m188, gx_m189, gx_m190, gx_m191, gx_m192, gx_m193, gx_m194, gx_m195, gx_m196, gx_m197, gx_m198, gx_m199, gx_m200, gx_m201, gx_m202, gx_m203, gx_m204, gx_m205, gx_m206, gx_m207, gx_m208]
def gx_mp : List (Nat × Nat) := [(124, 104), (163, 104), (166, 104), (170, 104), (174, 104), (179, 106), (185, 107), (191, 108), (260, 110), (286, 106), (292, 111), (351, 112), (385, 113), (391, 114), (491, 106), (495, 106), (502, 107), (506, 110), (509, 115), (513, 106), (516, 104), (520, 106), (524, 106), (527, 104), (531, 106), (535, 108), (538, 108), (542, 106), (546, 107), (550, 108), (554, 106), (558, 106), (562, 111), (567, 111), (570, 111), (573, 106), (577, 106), (581, 106), (585, 106), (589, 106), (593, 106), (597, 106), (600, 106), (604, 106), (608, 106), (612, 110), (616, 111), (620, 110), (624, 110), (628, 110), (631, 110), (635, 111), (639, 110), (643, 106), (647, 106), (652, 106), (656, 107), (660, 107), (664, 106), (667, 104), (671, 113), (679, 113), (683, 113), (687, 113), (691, 113), (694, 104), (699, 112), (704, 114), (707, 115), (711, 112), (715, 112), (719, 112), (724, 112), (728, 112), (735, 112), (741, 112), (745, 112), (749, 112), (753, 112), (757, 112), (761, 113), (765, 113), (770, 113), (774, 113), (778, 113), (782, 113), (786, 113), (790, 113), (794, 104), (799, 117), (805, 118), (917, 117), (921, 118), (925, 117), (929, 119), (933, 104), (937, 104), (941, 104), (945, 113), (949, 113), (954, 104), (958, 113), (963, 104), (967, 104), (971, 113), (975, 104), (979, 104), (984, 104), (988, 104), (994, 119), (1015, 119), (1020, 119), (1024, 119), (1027, 119), (1033, 119), (1037, 119), (1041, 119), (1045, 104), (1049, 117), (1053, 117), (1057, 117), (1061, 117), (1065, 114), (1069, 117), (1073, 117), (1077, 118), (1081, 118), (1086, 118), (1091, 104), (1095, 117), (1099, 104), (1103, 104), (1107, 104), (1111, 104), (1115, 104), (1119, 118), (1126, 105), (1469, 105), (1474, 105), (1478, 105), (1482, 105), (1486, 105), (1490, 105), (1494, 105), (1498, 105), (1502, 105), (1506, 105), (1510, 105), (1514, 105), (1518, 105), (1522, 105), (1526, 105), (1530, 105), (1534, 105), (1538, 105), (1542, 105), (1546, 105), (1550, 105), (1554, 105), (1558, 105), (1562, 105), (1566, 105), (1570, 105), (1574, 105), (1578, 105), (1582, 105), (1586, 105), (1590, 105), (1594, 105), (1598, 105), (1602, 105), (1606, 105), (1610, 105), (1614, 105), (1618, 105), (1622, 105), (1626, 105), (1630, 105), (1634, 105), (1638, 105), (1642, 105), (1646, 105), (1650, 105), (1654, 105), (1658, 105), (1662, 105), (1666, 105), (1670, 105), (1674, 105), (1678, 105), (1682, 105), (1686, 105), (1690, 105), (1694, 105), (1698, 105), (1702, 105), (1706, 105), (1711, 105), (1715, 105), (1719, 105), (1723, 105), (1727, 105), (1731, 105), (1735, 105), (1739, 105), (1743, 105), (1747, 105), (1751, 105), (1755, 105)]
def gx_rL : List (Nat × Instr × Nat) := [(0, .new 7, 3), (3, .dup, 1), (4, .invokespecial 9, 3), (7, .astore_n 1, 1), (8, .new 10, 3), (11, .dup, 1), (12, .invokespecial 12, 3), (15, .astore_n 2, 1), (16, .iconst 0, 1), (17, .istore_n 3, 1), (18, .iload_n 3, 1), (19, .aload_n 0, 1), (20, .arraylength, 1), (21, .iconst 4, 1), (22, .isub, 1), (23, .if_icmp .gt 665, 3), (26, .aload_n 0, 1), (27, .iload_n 3, 1), (28, .iaload, 1), (29, .bipush 31, 2), (31, .iand, 1), (32, .tableswitch 650 0 18 #[92, 155, 168, 191, 214, 247, 280, 303, 336, 359, 392, 425, 449, 512, 525, 538, 561, 594, 627], 92), (124, .aload_n 1, 1), (125, .aload_n 0, 1), (126, .iload_n 3, 1), (127, .iconst 1, 1), (128, .iadd, 1), (129, .iaload, 1), (130, .i2l, 1), (131, .bipush 32, 2), (133, .lshl, 1), (134, .aload_n 0, 1), (135, .iload_n 3, 1), (136, .iconst 2, 1), (137, .iadd, 1), (138, .iaload, 1), (139, .i2l, 1), (140, .ldc2_w 13, 3), (143, .land, 1), (144, .lor, 1), (145, .aload_n 0, 1), (146, .iload_n 3, 1), (147, .iconst 3, 1), (148, .iadd, 1), (149, .iaload, 1), (150, .invokevirtual 15, 3), (153, .aload_n 2, 1), (154, .aload_n 0, 1), (155, .iload_n 3, 1), (156, .iconst 1, 1), (157, .iadd, 1), (158, .iaload, 1), (159, .i2l, 1), (160, .bipush 32, 2), (162, .lshl, 1), (163, .aload_n 0, 1), (164, .iload_n 3, 1), (165, .iconst 2, 1), (166, .iadd, 1), (167, .iaload, 1), (168, .i2l, 1), (169, .ldc2_w 13, 3), (172, .land, 1), (173, .lor, 1), (174, .aload_n 0, 1), (175, .iload_n 3, 1), (176, .iconst 3, 1), (177, .iadd, 1), (178, .iaload, 1), (179, .invokevirtual 19, 3), (182, .if_icmp .eq 500, 3), (185, .iconst 0, 1), (186, .ireturn, 1), (187, .aload_n 1, 1), (188, .invokevirtual 20, 3), (191, .aload_n 2, 1), (192, .invokevirtual 24, 3), (195, .if_icmp .eq 487, 3), (198, .iconst 0, 1), (199, .ireturn, 1), (200, .aload_n 1, 1), (201, .aload_n 0, 1), (202, .iload_n 3, 1), (203, .iconst 1, 1), (204, .iadd, 1), (205, .iaload, 1), (206, .invokevirtual 25, 3), (209, .aload_n 2, 1), (210, .aload_n 0, 1), (211, .iload_n 3, 1), (212, .iconst 1, 1), (213, .iadd, 1), (214, .iaload, 1), (215, .invokevirtual 29, 3), (218, .if_icmp .eq 464, 3), (221, .iconst 0, 1), (222, .ireturn, 1), (223, .aload_n 1, 1), (224, .aload_n 0, 1), (225, .iload_n 3, 1), (226, .iconst 1, 1), (227, .iadd, 1), (228, .iaload, 1), (229, .invokevirtual 30, 3), (232, .aload_n 2, 1), (233, .aload_n 0, 1), (234, .iload_n 3, 1), (235, .iconst 1, 1), (236, .iadd, 1), (237, .iaload, 1), (238, .invokevirtual 33, 3), (241, .if_icmp .eq 441, 3), (244, .iconst 0, 1), (245, .ireturn, 1), (246, .aload_n 1, 1), (247, .aload_n 0, 1), (248, .iload_n 3, 1), (249, .iconst 1, 1), (250, .iadd, 1), (251, .iaload, 1), (252, .aload_n 0, 1), (253, .iload_n 3, 1), (254, .iconst 2, 1), (255, .iadd, 1), (256, .iaload, 1), (257, .invokevirtual 34, 3), (260, .aload_n 2, 1), (261, .aload_n 0, 1), (262, .iload_n 3, 1), (263, .iconst 1, 1), (264, .iadd, 1), (265, .iaload, 1), (266, .aload_n 0, 1), (267, .iload_n 3, 1), (268, .iconst 2, 1), (269, .iadd, 1), (270, .iaload, 1), (271, .invokevirtual 38, 3), (274, .if_icmp .eq 408, 3), (277, .iconst 0, 1), (278, .ireturn, 1), (279, .aload_n 1, 1), (280, .aload_n 0, 1), (281, .iload_n 3, 1), (282, .iconst 1, 1), (283, .iadd, 1), (284, .iaload, 1), (285, .aload_n 0, 1), (286, .iload_n 3, 1), (287, .iconst 2, 1), (288, .iadd, 1), (289, .iaload, 1), (290, .invokevirtual 39, 3), (293, .aload_n 2, 1), (294, .aload_n 0, 1), (295, .iload_n 3, 1), (296, .iconst 1, 1), (297, .iadd, 1), (298, .iaload, 1), (299, .aload_n 0, 1), (300, .iload_n 3, 1), (301, .iconst 2, 1), (302, .iadd, 1), (303, .iaload, 1), (304, .invokevirtual 42, 3), (307, .if_icmp .eq 375, 3), (310, .iconst 0, 1), (311, .ireturn, 1), (312, .aload_n 1, 1), (313, .aload_n 0, 1), (314, .iload_n 3, 1), (315, .iconst 1, 1), (316, .iadd, 1), (317, .iaload, 1), (318, .invokevirtual 43, 3), (321, .aload_n 2, 1), (322, .aload_n 0, 1), (323, .iload_n 3, 1), (324, .iconst 1, 1), (325, .iadd, 1), (326, .iaload, 1), (327, .invokevirtual 47, 3), (330, .if_icmp .eq 352, 3), (333, .iconst 0, 1), (334, .ireturn, 1), (335, .aload_n 1, 1), (336, .aload_n 0, 1), (337, .iload_n 3, 1), (338, .iconst 1, 1), (339, .iadd, 1), (340, .iaload, 1), (341, .aload_n 0, 1), (342, .iload_n 3, 1), (343, .iconst 2, 1), (344, .iadd, 1), (345, .iaload, 1), (346, .invokevirtual 48, 3), (349, .aload_n 2, 1), (350, .aload_n 0, 1), (351, .iload_n 3, 1), (352, .iconst 1, 1), (353, .iadd, 1), (354, .iaload, 1), (355, .aload_n 0, 1), (356, .iload_n 3, 1), (357, .iconst 2, 1), (358, .iadd, 1), (359, .iaload, 1), (360, .invokevirtual 52, 3), (363, .if_icmp .eq 319, 3), (366, .iconst 0, 1), (367, .ireturn, 1), (368, .aload_n 1, 1), (369, .aload_n 0, 1), (370, .iload_n 3, 1), (371, .iconst 1, 1), (372, .iadd, 1), (373, .iaload, 1), (374, .invokevirtual 53, 3), (377, .aload_n 2, 1), (378, .aload_n 0, 1), (379, .iload_n 3, 1), (380, .iconst 1, 1), (381, .iadd, 1), (382, .iaload, 1), (383, .invokevirtual 56, 3), (386, .if_icmp .eq 296, 3), (389, .iconst 0, 1), (390, .ireturn, 1), (391, .aload_n 1, 1), (392, .aload_n 0, 1), (393, .iload_n 3, 1), (394, .iconst 1, 1), (395, .iadd, 1), (396, .iaload, 1), (397, .aload_n 0, 1), (398, .iload_n 3, 1), (399, .iconst 2, 1), (400, .iadd, 1), (401, .iaload, 1), (402, .invokevirtual 57, 3), (405, .aload_n 2, 1), (406, .aload_n 0, 1), (407, .iload_n 3, 1), (408, .iconst 1, 1), (409, .iadd, 1), (410, .iaload, 1), (411, .aload_n 0, 1), (412, .iload_n 3, 1), (413, .iconst 2, 1), (414, .iadd, 1), (415, .iaload, 1), (416, .invokevirtual 60, 3), (419, .if_icmp .eq 263, 3), (422, .iconst 0, 1), (423, .ireturn, 1), (424, .aload_n 1, 1), (425, .aload_n 0, 1), (426, .iload_n 3, 1), (427, .iconst 1, 1), (428, .iadd, 1), (429, .iaload, 1), (430, .aload_n 0, 1), (431, .iload_n 3, 1), (432, .iconst 2, 1), (433, .iadd, 1), (434, .iaload, 1), (435, .invokevirtual 61, 3), (438, .aload_n 2, 1), (439, .aload_n 0, 1), (440, .iload_n 3, 1), (441, .iconst 1, 1), (442, .iadd, 1), (443, .iaload, 1), (444, .aload_n 0, 1), (445, .iload_n 3, 1), (446, .iconst 2, 1), (447, .iadd, 1), (448, .iaload, 1), (449, .invokevirtual 64, 3), (452, .if_icmp .eq 230, 3), (455, .iconst 0, 1), (456, .ireturn, 1), (457, .aload_n 1, 1), (458, .aload_n 0, 1), (459, .iload_n 3, 1), (460, .iconst 1, 1), (461, .iadd, 1), (462, .iaload, 1), (463, .invokevirtual 65, 3), (466, .aload_n 2, 1), (467, .aload_n 0, 1), (468, .iload_n 3, 1), (469, .iconst 1, 1), (470, .iadd, 1), (471, .iaload, 1), (472, .invokevirtual 69, 3), (475, .lcmp, 1), (476, .ifCond .eq 206, 3), (479, .iconst 0, 1), (480, .ireturn, 1), (481, .aload_n 1, 1), (482, .aload_n 0, 1), (483, .iload_n 3, 1), (484, .iconst 1, 1), (485, .iadd, 1), (486, .iaload, 1), (487, .i2l, 1), (488, .bipush 32, 2), (490, .lshl, 1), (491, .aload_n 0, 1), (492, .iload_n 3, 1), (493, .iconst 2, 1), (494, .iadd, 1), (495, .iaload, 1), (496, .i2l, 1), (497, .ldc2_w 13, 3), (500, .land, 1), (501, .lor, 1), (502, .aload_n 0, 1), (503, .iload_n 3, 1), (504, .iconst 3, 1), (505, .iadd, 1), (506, .iaload, 1), (507, .invokevirtual 70, 3), (510, .aload_n 2, 1), (511, .aload_n 0, 1), (512, .iload_n 3, 1), (513, .iconst 1, 1), (514, .iadd, 1), (515, .iaload, 1), (516, .i2l, 1), (517, .bipush 32, 2), (519, .lshl, 1), (520, .aload_n 0, 1), (521, .iload_n 3, 1), (522, .iconst 2, 1), (523, .iadd, 1), (524, .iaload, 1), (525, .i2l, 1), (526, .ldc2_w 13, 3), (529, .land, 1), (530, .lor, 1), (531, .aload_n 0, 1), (532, .iload_n 3, 1), (533, .iconst 3, 1), (534, .iadd, 1), (535, .iaload, 1), (536, .invokevirtual 73, 3), (539, .if_icmp .eq 143, 3), (542, .iconst 0, 1), (543, .ireturn, 1), (544, .aload_n 1, 1), (545, .invokevirtual 74, 3), (548, .aload_n 2, 1), (549, .invokevirtual 77, 3), (552, .if_icmp .eq 130, 3), (555, .iconst 0, 1), (556, .ireturn, 1), (557, .aload_n 1, 1), (558, .invokevirtual 78, 3), (561, .aload_n 2, 1), (562, .invokevirtual 81, 3), (565, .if_icmp .eq 117, 3), (568, .iconst 0, 1), (569, .ireturn, 1), (570, .aload_n 1, 1), (571, .aload_n 0, 1), (572, .iload_n 3, 1), (573, .iconst 1, 1), (574, .iadd, 1), (575, .iaload, 1), (576, .invokevirtual 82, 3), (579, .aload_n 2, 1), (580, .aload_n 0, 1), (581, .iload_n 3, 1), (582, .iconst 1, 1), (583, .iadd, 1), (584, .iaload, 1), (585, .invokevirtual 85, 3), (588, .if_icmp .eq 94, 3), (591, .iconst 0, 1), (592, .ireturn, 1), (593, .aload_n 1, 1), (594, .aload_n 0, 1), (595, .iload_n 3, 1), (596, .iconst 1, 1), (597, .iadd, 1), (598, .iaload, 1), (599, .aload_n 0, 1), (600, .iload_n 3, 1), (601, .iconst 2, 1), (602, .iadd, 1), (603, .iaload, 1), (604, .invokevirtual 86, 3), (607, .aload_n 2, 1), (608, .aload_n 0, 1), (609, .iload_n 3, 1), (610, .iconst 1, 1), (611, .iadd, 1), (612, .iaload, 1), (613, .aload_n 0, 1), (614, .iload_n 3, 1), (615, .iconst 2, 1), (616, .iadd, 1), (617, .iaload, 1), (618, .invokevirtual 89, 3), (621, .if_icmp .eq 61, 3), (624, .iconst 0, 1), (625, .ireturn, 1), (626, .aload_n 1, 1), (627, .aload_n 0, 1), (628, .iload_n 3, 1), (629, .iconst 1, 1), (630, .iadd, 1), (631, .iaload, 1), (632, .aload_n 0, 1), (633, .iload_n 3, 1), (634, .iconst 2, 1), (635, .iadd, 1), (636, .iaload, 1), (637, .invokevirtual 90, 3), (640, .aload_n 2, 1), (641, .aload_n 0, 1), (642, .iload_n 3, 1), (643, .iconst 1, 1), (644, .iadd, 1), (645, .iaload, 1), (646, .aload_n 0, 1), (647, .iload_n 3, 1), (648, .iconst 2, 1), (649, .iadd, 1), (650, .iaload, 1), (651, .invokevirtual 93, 3), (654, .if_icmp .eq 28, 3), (657, .iconst 0, 1), (658, .ireturn, 1), (659, .aload_n 1, 1), (660, .aload_n 0, 1), (661, .iload_n 3, 1), (662, .iconst 1, 1), (663, .iadd, 1), (664, .iaload, 1), (665, .invokevirtual 94, 3), (668, .aload_n 2, 1), (669, .aload_n 0, 1), (670, .iload_n 3, 1), (671, .iconst 1, 1), (672, .iadd, 1), (673, .iaload, 1), (674, .invokevirtual 97, 3), (677, .if_icmp .eq 5, 3), (680, .iconst 0, 1), (681, .ireturn, 1), (682, .iinc 3 4, 3), (685, .goto (-667), 3), (688, .iconst 1, 1), (689, .ireturn, 1)]
theorem gx_dL : gx_rL.all (fun q => decide (decode code q.1 = .ok q.2)) = true := by decide +kernel
def gx_G : am_G := (gx_cl, gx_ty, am_lkof gx_owns, gx_ms, gx_ats)
end
section
set_option maxRecDepth 100000 in
theorem gx_c0 : gx_l0.all (am_chk gx_cl gx_ms lw_tbl "GrammarStreamModel") = true := by decide +kernel
set_option maxRecDepth 100000 in
theorem gx_c1 : gx_l1.all (am_chk gx_cl gx_ms lw_tbl "GrammarStream$TextReader") = true := by decide +kernel
set_option maxRecDepth 100000 in
theorem gx_c2 : gx_l2.all (am_chk gx_cl gx_ms lw_tbl "GrammarStream") = true := by decide +kernel
set_option maxRecDepth 100000 in
theorem gx_c3 : gx_l3.all (am_chk gx_cl gx_ms lw_tbl "GrammarStream$Grammar") = true := by decide +kernel
set_option maxRecDepth 100000 in
theorem gx_c4 : gx_l4.all (am_chk gx_cl gx_ms lw_tbl "GrammarStream$MachineMaker") = true := by decide +kernel
set_option maxRecDepth 100000 in
theorem gx_c5 : gx_l5.all (am_chk gx_cl gx_ms lw_tbl "GrammarStream$Counts") = true := by decide +kernel
set_option maxRecDepth 100000 in
theorem gx_c6 : gx_l6.all (am_chk gx_cl gx_ms lw_tbl "GrammarStream$Parser") = true := by decide +kernel
set_option maxRecDepth 100000 in
theorem gx_c7 : gx_l7.all (am_chk gx_cl gx_ms lw_tbl "GrammarStream$Reading") = true := by decide +kernel
set_option maxRecDepth 100000 in
theorem gx_c8 : gx_l8.all (am_chk gx_cl gx_ms lw_tbl "GrammarStream$Places") = true := by decide +kernel
set_option maxRecDepth 100000 in
theorem gx_c9 : gx_l9.all (am_chk gx_cl gx_ms lw_tbl "GrammarStream$Outline") = true := by decide +kernel
set_option maxRecDepth 100000 in
theorem gx_c10 : gx_l10.all (am_chk gx_cl gx_ms lw_tbl "GrammarStream$Piece") = true := by decide +kernel
set_option maxRecDepth 100000 in
theorem gx_c11 : gx_l11.all (am_chk gx_cl gx_ms lw_tbl "GrammarStream$Names") = true := by decide +kernel
set_option maxRecDepth 100000 in
theorem gx_c12 : gx_l12.all (am_chk gx_cl gx_ms lw_tbl "GrammarStream$Machine") = true := by decide +kernel
set_option maxRecDepth 100000 in
theorem gx_c13 : gx_l13.all (am_chk gx_cl gx_ms lw_tbl "GrammarStreamLaw") = true := by decide +kernel
set_option maxRecDepth 100000 in
theorem gx_k0 : am_chkC lw_tbl (gx_ty 0) "GrammarStream$Counts" gx_T0 5 gx_fp0 = true := by decide +kernel
set_option maxRecDepth 100000 in
theorem gx_k1 : am_chkC lw_tbl (gx_ty 1) "GrammarStream$Grammar" gx_T1 12 gx_fp1 = true := by decide +kernel
set_option maxRecDepth 100000 in
theorem gx_k2 : am_chkC lw_tbl (gx_ty 2) "GrammarStream$Machine" gx_T2 8 gx_fp2 = true := by decide +kernel
set_option maxRecDepth 100000 in
theorem gx_k3 : am_chkC lw_tbl (gx_ty 3) "GrammarStream$MachineMaker" gx_T3 9 gx_fp3 = true := by decide +kernel
set_option maxRecDepth 100000 in
theorem gx_k4 : am_chkC lw_tbl (gx_ty 4) "GrammarStream$Names" gx_T4 3 gx_fp4 = true := by decide +kernel
set_option maxRecDepth 100000 in
theorem gx_k5 : am_chkC lw_tbl (gx_ty 5) "GrammarStream$Outline" gx_T5 9 gx_fp5 = true := by decide +kernel
set_option maxRecDepth 100000 in
theorem gx_k6 : am_chkC lw_tbl (gx_ty 6) "GrammarStream$Parser" gx_T6 14 gx_fp6 = true := by decide +kernel
set_option maxRecDepth 100000 in
theorem gx_k7 : am_chkC lw_tbl (gx_ty 7) "GrammarStream$Piece" gx_T7 3 gx_fp7 = true := by decide +kernel
set_option maxRecDepth 100000 in
theorem gx_k8 : am_chkC lw_tbl (gx_ty 8) "GrammarStream$Places" gx_T8 5 gx_fp8 = true := by decide +kernel
set_option maxRecDepth 100000 in
theorem gx_k9 : am_chkC lw_tbl (gx_ty 9) "GrammarStream$Reading" gx_T9 16 gx_fp9 = true := by decide +kernel
set_option maxRecDepth 100000 in
theorem gx_k10 : am_chkC lw_tbl (gx_ty 10) "GrammarStream$TextReader" gx_T10 11 gx_fp10 = true := by decide +kernel
set_option maxRecDepth 100000 in
theorem gx_k11 : am_chkC lw_tbl (gx_ty 11) "GrammarStream" gx_T11 10 gx_fp11 = true := by decide +kernel
set_option maxRecDepth 100000 in
theorem gx_k12 : am_chkC lw_tbl (gx_ty 12) "GrammarStreamModel" gx_T12 112 gx_fp12 = true := by decide +kernel
end
section
set_option maxRecDepth 100000 in
theorem gx_w0 : lw_tbl[124]? = some (Cond.code gx_m0.1 gx_m0.2.1 gx_m0.2.2.1 gx_m0.2.2.2.1) := by rfl
set_option maxRecDepth 100000 in
theorem gx_w1 : lw_tbl[163]? = some (Cond.code gx_m1.1 gx_m1.2.1 gx_m1.2.2.1 gx_m1.2.2.2.1) := by rfl
set_option maxRecDepth 100000 in
theorem gx_w2 : lw_tbl[166]? = some (Cond.code gx_m2.1 gx_m2.2.1 gx_m2.2.2.1 gx_m2.2.2.2.1) := by rfl
set_option maxRecDepth 100000 in
theorem gx_w3 : lw_tbl[170]? = some (Cond.code gx_m3.1 gx_m3.2.1 gx_m3.2.2.1 gx_m3.2.2.2.1) := by rfl
set_option maxRecDepth 100000 in
theorem gx_w4 : lw_tbl[174]? = some (Cond.code gx_m4.1 gx_m4.2.1 gx_m4.2.2.1 gx_m4.2.2.2.1) := by rfl
set_option maxRecDepth 100000 in
theorem gx_w5 : lw_tbl[179]? = some (Cond.code gx_m5.1 gx_m5.2.1 gx_m5.2.2.1 gx_m5.2.2.2.1) := by rfl
set_option maxRecDepth 100000 in
theorem gx_w6 : lw_tbl[185]? = some (Cond.code gx_m6.1 gx_m6.2.1 gx_m6.2.2.1 gx_m6.2.2.2.1) := by rfl
set_option maxRecDepth 100000 in
theorem gx_w7 : lw_tbl[191]? = some (Cond.code gx_m7.1 gx_m7.2.1 gx_m7.2.2.1 gx_m7.2.2.2.1) := by rfl
set_option maxRecDepth 100000 in
theorem gx_w8 : lw_tbl[260]? = some (Cond.code gx_m8.1 gx_m8.2.1 gx_m8.2.2.1 gx_m8.2.2.2.1) := by rfl
set_option maxRecDepth 100000 in
theorem gx_w9 : lw_tbl[286]? = some (Cond.code gx_m9.1 gx_m9.2.1 gx_m9.2.2.1 gx_m9.2.2.2.1) := by rfl
set_option maxRecDepth 100000 in
theorem gx_w10 : lw_tbl[292]? = some (Cond.code gx_m10.1 gx_m10.2.1 gx_m10.2.2.1 gx_m10.2.2.2.1) := by rfl
set_option maxRecDepth 100000 in
theorem gx_w11 : lw_tbl[351]? = some (Cond.code gx_m11.1 gx_m11.2.1 gx_m11.2.2.1 gx_m11.2.2.2.1) := by rfl
set_option maxRecDepth 100000 in
theorem gx_w12 : lw_tbl[385]? = some (Cond.code gx_m12.1 gx_m12.2.1 gx_m12.2.2.1 gx_m12.2.2.2.1) := by rfl
set_option maxRecDepth 100000 in
theorem gx_w13 : lw_tbl[391]? = some (Cond.code gx_m13.1 gx_m13.2.1 gx_m13.2.2.1 gx_m13.2.2.2.1) := by rfl
set_option maxRecDepth 100000 in
theorem gx_w14 : lw_tbl[491]? = some (Cond.code gx_m14.1 gx_m14.2.1 gx_m14.2.2.1 gx_m14.2.2.2.1) := by rfl
set_option maxRecDepth 100000 in
theorem gx_w15 : lw_tbl[495]? = some (Cond.code gx_m15.1 gx_m15.2.1 gx_m15.2.2.1 gx_m15.2.2.2.1) := by rfl
set_option maxRecDepth 100000 in
theorem gx_w16 : lw_tbl[502]? = some (Cond.code gx_m16.1 gx_m16.2.1 gx_m16.2.2.1 gx_m16.2.2.2.1) := by rfl
set_option maxRecDepth 100000 in
theorem gx_w17 : lw_tbl[506]? = some (Cond.code gx_m17.1 gx_m17.2.1 gx_m17.2.2.1 gx_m17.2.2.2.1) := by rfl
set_option maxRecDepth 100000 in
theorem gx_w18 : lw_tbl[509]? = some (Cond.code gx_m18.1 gx_m18.2.1 gx_m18.2.2.1 gx_m18.2.2.2.1) := by rfl
set_option maxRecDepth 100000 in
theorem gx_w19 : lw_tbl[513]? = some (Cond.code gx_m19.1 gx_m19.2.1 gx_m19.2.2.1 gx_m19.2.2.2.1) := by rfl
set_option maxRecDepth 100000 in
theorem gx_w20 : lw_tbl[516]? = some (Cond.code gx_m20.1 gx_m20.2.1 gx_m20.2.2.1 gx_m20.2.2.2.1) := by rfl
set_option maxRecDepth 100000 in
theorem gx_w21 : lw_tbl[520]? = some (Cond.code gx_m21.1 gx_m21.2.1 gx_m21.2.2.1 gx_m21.2.2.2.1) := by rfl
set_option maxRecDepth 100000 in
theorem gx_w22 : lw_tbl[524]? = some (Cond.code gx_m22.1 gx_m22.2.1 gx_m22.2.2.1 gx_m22.2.2.2.1) := by rfl
set_option maxRecDepth 100000 in
theorem gx_w23 : lw_tbl[527]? = some (Cond.code gx_m23.1 gx_m23.2.1 gx_m23.2.2.1 gx_m23.2.2.2.1) := by rfl
set_option maxRecDepth 100000 in
theorem gx_w24 : lw_tbl[531]? = some (Cond.code gx_m24.1 gx_m24.2.1 gx_m24.2.2.1 gx_m24.2.2.2.1) := by rfl
set_option maxRecDepth 100000 in
theorem gx_w25 : lw_tbl[535]? = some (Cond.code gx_m25.1 gx_m25.2.1 gx_m25.2.2.1 gx_m25.2.2.2.1) := by rfl
set_option maxRecDepth 100000 in
theorem gx_w26 : lw_tbl[538]? = some (Cond.code gx_m26.1 gx_m26.2.1 gx_m26.2.2.1 gx_m26.2.2.2.1) := by rfl
set_option maxRecDepth 100000 in
theorem gx_w27 : lw_tbl[542]? = some (Cond.code gx_m27.1 gx_m27.2.1 gx_m27.2.2.1 gx_m27.2.2.2.1) := by rfl
set_option maxRecDepth 100000 in
theorem gx_w28 : lw_tbl[546]? = some (Cond.code gx_m28.1 gx_m28.2.1 gx_m28.2.2.1 gx_m28.2.2.2.1) := by rfl
set_option maxRecDepth 100000 in
theorem gx_w29 : lw_tbl[550]? = some (Cond.code gx_m29.1 gx_m29.2.1 gx_m29.2.2.1 gx_m29.2.2.2.1) := by rfl
set_option maxRecDepth 100000 in
theorem gx_w30 : lw_tbl[554]? = some (Cond.code gx_m30.1 gx_m30.2.1 gx_m30.2.2.1 gx_m30.2.2.2.1) := by rfl
set_option maxRecDepth 100000 in
theorem gx_w31 : lw_tbl[558]? = some (Cond.code gx_m31.1 gx_m31.2.1 gx_m31.2.2.1 gx_m31.2.2.2.1) := by rfl
set_option maxRecDepth 100000 in
theorem gx_w32 : lw_tbl[562]? = some (Cond.code gx_m32.1 gx_m32.2.1 gx_m32.2.2.1 gx_m32.2.2.2.1) := by rfl
set_option maxRecDepth 100000 in
theorem gx_w33 : lw_tbl[567]? = some (Cond.code gx_m33.1 gx_m33.2.1 gx_m33.2.2.1 gx_m33.2.2.2.1) := by rfl
set_option maxRecDepth 100000 in
theorem gx_w34 : lw_tbl[570]? = some (Cond.code gx_m34.1 gx_m34.2.1 gx_m34.2.2.1 gx_m34.2.2.2.1) := by rfl
set_option maxRecDepth 100000 in
theorem gx_w35 : lw_tbl[573]? = some (Cond.code gx_m35.1 gx_m35.2.1 gx_m35.2.2.1 gx_m35.2.2.2.1) := by rfl
set_option maxRecDepth 100000 in
theorem gx_w36 : lw_tbl[577]? = some (Cond.code gx_m36.1 gx_m36.2.1 gx_m36.2.2.1 gx_m36.2.2.2.1) := by rfl
set_option maxRecDepth 100000 in
theorem gx_w37 : lw_tbl[581]? = some (Cond.code gx_m37.1 gx_m37.2.1 gx_m37.2.2.1 gx_m37.2.2.2.1) := by rfl
set_option maxRecDepth 100000 in
theorem gx_w38 : lw_tbl[585]? = some (Cond.code gx_m38.1 gx_m38.2.1 gx_m38.2.2.1 gx_m38.2.2.2.1) := by rfl
set_option maxRecDepth 100000 in
theorem gx_w39 : lw_tbl[589]? = some (Cond.code gx_m39.1 gx_m39.2.1 gx_m39.2.2.1 gx_m39.2.2.2.1) := by rfl
set_option maxRecDepth 100000 in
theorem gx_w40 : lw_tbl[593]? = some (Cond.code gx_m40.1 gx_m40.2.1 gx_m40.2.2.1 gx_m40.2.2.2.1) := by rfl
set_option maxRecDepth 100000 in
theorem gx_w41 : lw_tbl[597]? = some (Cond.code gx_m41.1 gx_m41.2.1 gx_m41.2.2.1 gx_m41.2.2.2.1) := by rfl
set_option maxRecDepth 100000 in
theorem gx_w42 : lw_tbl[600]? = some (Cond.code gx_m42.1 gx_m42.2.1 gx_m42.2.2.1 gx_m42.2.2.2.1) := by rfl
set_option maxRecDepth 100000 in
theorem gx_w43 : lw_tbl[604]? = some (Cond.code gx_m43.1 gx_m43.2.1 gx_m43.2.2.1 gx_m43.2.2.2.1) := by rfl
set_option maxRecDepth 100000 in
theorem gx_w44 : lw_tbl[608]? = some (Cond.code gx_m44.1 gx_m44.2.1 gx_m44.2.2.1 gx_m44.2.2.2.1) := by rfl
set_option maxRecDepth 100000 in
theorem gx_w45 : lw_tbl[612]? = some (Cond.code gx_m45.1 gx_m45.2.1 gx_m45.2.2.1 gx_m45.2.2.2.1) := by rfl
set_option maxRecDepth 100000 in
theorem gx_w46 : lw_tbl[616]? = some (Cond.code gx_m46.1 gx_m46.2.1 gx_m46.2.2.1 gx_m46.2.2.2.1) := by rfl
set_option maxRecDepth 100000 in
theorem gx_w47 : lw_tbl[620]? = some (Cond.code gx_m47.1 gx_m47.2.1 gx_m47.2.2.1 gx_m47.2.2.2.1) := by rfl
set_option maxRecDepth 100000 in
theorem gx_w48 : lw_tbl[624]? = some (Cond.code gx_m48.1 gx_m48.2.1 gx_m48.2.2.1 gx_m48.2.2.2.1) := by rfl
set_option maxRecDepth 100000 in
theorem gx_w49 : lw_tbl[628]? = some (Cond.code gx_m49.1 gx_m49.2.1 gx_m49.2.2.1 gx_m49.2.2.2.1) := by rfl
set_option maxRecDepth 100000 in
theorem gx_w50 : lw_tbl[631]? = some (Cond.code gx_m50.1 gx_m50.2.1 gx_m50.2.2.1 gx_m50.2.2.2.1) := by rfl
set_option maxRecDepth 100000 in
theorem gx_w51 : lw_tbl[635]? = some (Cond.code gx_m51.1 gx_m51.2.1 gx_m51.2.2.1 gx_m51.2.2.2.1) := by rfl
set_option maxRecDepth 100000 in
theorem gx_w52 : lw_tbl[639]? = some (Cond.code gx_m52.1 gx_m52.2.1 gx_m52.2.2.1 gx_m52.2.2.2.1) := by rfl
set_option maxRecDepth 100000 in
theorem gx_w53 : lw_tbl[643]? = some (Cond.code gx_m53.1 gx_m53.2.1 gx_m53.2.2.1 gx_m53.2.2.2.1) := by rfl
set_option maxRecDepth 100000 in
theorem gx_w54 : lw_tbl[647]? = some (Cond.code gx_m54.1 gx_m54.2.1 gx_m54.2.2.1 gx_m54.2.2.2.1) := by rfl
set_option maxRecDepth 100000 in
theorem gx_w55 : lw_tbl[652]? = some (Cond.code gx_m55.1 gx_m55.2.1 gx_m55.2.2.1 gx_m55.2.2.2.1) := by rfl
set_option maxRecDepth 100000 in
theorem gx_w56 : lw_tbl[656]? = some (Cond.code gx_m56.1 gx_m56.2.1 gx_m56.2.2.1 gx_m56.2.2.2.1) := by rfl
set_option maxRecDepth 100000 in
theorem gx_w57 : lw_tbl[660]? = some (Cond.code gx_m57.1 gx_m57.2.1 gx_m57.2.2.1 gx_m57.2.2.2.1) := by rfl
set_option maxRecDepth 100000 in
theorem gx_w58 : lw_tbl[664]? = some (Cond.code gx_m58.1 gx_m58.2.1 gx_m58.2.2.1 gx_m58.2.2.2.1) := by rfl
set_option maxRecDepth 100000 in
theorem gx_w59 : lw_tbl[667]? = some (Cond.code gx_m59.1 gx_m59.2.1 gx_m59.2.2.1 gx_m59.2.2.2.1) := by rfl
set_option maxRecDepth 100000 in
theorem gx_w60 : lw_tbl[671]? = some (Cond.code gx_m60.1 gx_m60.2.1 gx_m60.2.2.1 gx_m60.2.2.2.1) := by rfl
set_option maxRecDepth 100000 in
theorem gx_w61 : lw_tbl[679]? = some (Cond.code gx_m61.1 gx_m61.2.1 gx_m61.2.2.1 gx_m61.2.2.2.1) := by rfl
set_option maxRecDepth 100000 in
theorem gx_w62 : lw_tbl[683]? = some (Cond.code gx_m62.1 gx_m62.2.1 gx_m62.2.2.1 gx_m62.2.2.2.1) := by rfl
set_option maxRecDepth 100000 in
theorem gx_w63 : lw_tbl[687]? = some (Cond.code gx_m63.1 gx_m63.2.1 gx_m63.2.2.1 gx_m63.2.2.2.1) := by rfl
set_option maxRecDepth 100000 in
theorem gx_w64 : lw_tbl[691]? = some (Cond.code gx_m64.1 gx_m64.2.1 gx_m64.2.2.1 gx_m64.2.2.2.1) := by rfl
set_option maxRecDepth 100000 in
theorem gx_w65 : lw_tbl[694]? = some (Cond.code gx_m65.1 gx_m65.2.1 gx_m65.2.2.1 gx_m65.2.2.2.1) := by rfl
set_option maxRecDepth 100000 in
theorem gx_w66 : lw_tbl[699]? = some (Cond.code gx_m66.1 gx_m66.2.1 gx_m66.2.2.1 gx_m66.2.2.2.1) := by rfl
set_option maxRecDepth 100000 in
theorem gx_w67 : lw_tbl[704]? = some (Cond.code gx_m67.1 gx_m67.2.1 gx_m67.2.2.1 gx_m67.2.2.2.1) := by rfl
set_option maxRecDepth 100000 in
theorem gx_w68 : lw_tbl[707]? = some (Cond.code gx_m68.1 gx_m68.2.1 gx_m68.2.2.1 gx_m68.2.2.2.1) := by rfl
set_option maxRecDepth 100000 in
theorem gx_w69 : lw_tbl[711]? = some (Cond.code gx_m69.1 gx_m69.2.1 gx_m69.2.2.1 gx_m69.2.2.2.1) := by rfl
set_option maxRecDepth 100000 in
theorem gx_w70 : lw_tbl[715]? = some (Cond.code gx_m70.1 gx_m70.2.1 gx_m70.2.2.1 gx_m70.2.2.2.1) := by rfl
set_option maxRecDepth 100000 in
theorem gx_w71 : lw_tbl[719]? = some (Cond.code gx_m71.1 gx_m71.2.1 gx_m71.2.2.1 gx_m71.2.2.2.1) := by rfl
set_option maxRecDepth 100000 in
theorem gx_w72 : lw_tbl[724]? = some (Cond.code gx_m72.1 gx_m72.2.1 gx_m72.2.2.1 gx_m72.2.2.2.1) := by rfl
set_option maxRecDepth 100000 in
theorem gx_w73 : lw_tbl[728]? = some (Cond.code gx_m73.1 gx_m73.2.1 gx_m73.2.2.1 gx_m73.2.2.2.1) := by rfl
set_option maxRecDepth 100000 in
theorem gx_w74 : lw_tbl[735]? = some (Cond.code gx_m74.1 gx_m74.2.1 gx_m74.2.2.1 gx_m74.2.2.2.1) := by rfl
set_option maxRecDepth 100000 in
theorem gx_w75 : lw_tbl[741]? = some (Cond.code gx_m75.1 gx_m75.2.1 gx_m75.2.2.1 gx_m75.2.2.2.1) := by rfl
set_option maxRecDepth 100000 in
theorem gx_w76 : lw_tbl[745]? = some (Cond.code gx_m76.1 gx_m76.2.1 gx_m76.2.2.1 gx_m76.2.2.2.1) := by rfl
set_option maxRecDepth 100000 in
theorem gx_w77 : lw_tbl[749]? = some (Cond.code gx_m77.1 gx_m77.2.1 gx_m77.2.2.1 gx_m77.2.2.2.1) := by rfl
set_option maxRecDepth 100000 in
theorem gx_w78 : lw_tbl[753]? = some (Cond.code gx_m78.1 gx_m78.2.1 gx_m78.2.2.1 gx_m78.2.2.2.1) := by rfl
set_option maxRecDepth 100000 in
theorem gx_w79 : lw_tbl[757]? = some (Cond.code gx_m79.1 gx_m79.2.1 gx_m79.2.2.1 gx_m79.2.2.2.1) := by rfl
set_option maxRecDepth 100000 in
theorem gx_w80 : lw_tbl[761]? = some (Cond.code gx_m80.1 gx_m80.2.1 gx_m80.2.2.1 gx_m80.2.2.2.1) := by rfl
set_option maxRecDepth 100000 in
theorem gx_w81 : lw_tbl[765]? = some (Cond.code gx_m81.1 gx_m81.2.1 gx_m81.2.2.1 gx_m81.2.2.2.1) := by rfl
set_option maxRecDepth 100000 in
theorem gx_w82 : lw_tbl[770]? = some (Cond.code gx_m82.1 gx_m82.2.1 gx_m82.2.2.1 gx_m82.2.2.2.1) := by rfl
set_option maxRecDepth 100000 in
theorem gx_w83 : lw_tbl[774]? = some (Cond.code gx_m83.1 gx_m83.2.1 gx_m83.2.2.1 gx_m83.2.2.2.1) := by rfl
set_option maxRecDepth 100000 in
theorem gx_w84 : lw_tbl[778]? = some (Cond.code gx_m84.1 gx_m84.2.1 gx_m84.2.2.1 gx_m84.2.2.2.1) := by rfl
set_option maxRecDepth 100000 in
theorem gx_w85 : lw_tbl[782]? = some (Cond.code gx_m85.1 gx_m85.2.1 gx_m85.2.2.1 gx_m85.2.2.2.1) := by rfl
set_option maxRecDepth 100000 in
theorem gx_w86 : lw_tbl[786]? = some (Cond.code gx_m86.1 gx_m86.2.1 gx_m86.2.2.1 gx_m86.2.2.2.1) := by rfl
set_option maxRecDepth 100000 in
theorem gx_w87 : lw_tbl[790]? = some (Cond.code gx_m87.1 gx_m87.2.1 gx_m87.2.2.1 gx_m87.2.2.2.1) := by rfl
set_option maxRecDepth 100000 in
theorem gx_w88 : lw_tbl[794]? = some (Cond.code gx_m88.1 gx_m88.2.1 gx_m88.2.2.1 gx_m88.2.2.2.1) := by rfl
set_option maxRecDepth 100000 in
theorem gx_w89 : lw_tbl[799]? = some (Cond.code gx_m89.1 gx_m89.2.1 gx_m89.2.2.1 gx_m89.2.2.2.1) := by rfl
set_option maxRecDepth 100000 in
theorem gx_w90 : lw_tbl[805]? = some (Cond.code gx_m90.1 gx_m90.2.1 gx_m90.2.2.1 gx_m90.2.2.2.1) := by rfl
set_option maxRecDepth 100000 in
theorem gx_w91 : lw_tbl[917]? = some (Cond.code gx_m91.1 gx_m91.2.1 gx_m91.2.2.1 gx_m91.2.2.2.1) := by rfl
set_option maxRecDepth 100000 in
theorem gx_w92 : lw_tbl[921]? = some (Cond.code gx_m92.1 gx_m92.2.1 gx_m92.2.2.1 gx_m92.2.2.2.1) := by rfl
set_option maxRecDepth 100000 in
theorem gx_w93 : lw_tbl[925]? = some (Cond.code gx_m93.1 gx_m93.2.1 gx_m93.2.2.1 gx_m93.2.2.2.1) := by rfl
set_option maxRecDepth 100000 in
theorem gx_w94 : lw_tbl[929]? = some (Cond.code gx_m94.1 gx_m94.2.1 gx_m94.2.2.1 gx_m94.2.2.2.1) := by rfl
set_option maxRecDepth 100000 in
theorem gx_w95 : lw_tbl[933]? = some (Cond.code gx_m95.1 gx_m95.2.1 gx_m95.2.2.1 gx_m95.2.2.2.1) := by rfl
set_option maxRecDepth 100000 in
theorem gx_w96 : lw_tbl[937]? = some (Cond.code gx_m96.1 gx_m96.2.1 gx_m96.2.2.1 gx_m96.2.2.2.1) := by rfl
set_option maxRecDepth 100000 in
theorem gx_w97 : lw_tbl[941]? = some (Cond.code gx_m97.1 gx_m97.2.1 gx_m97.2.2.1 gx_m97.2.2.2.1) := by rfl
set_option maxRecDepth 100000 in
theorem gx_w98 : lw_tbl[945]? = some (Cond.code gx_m98.1 gx_m98.2.1 gx_m98.2.2.1 gx_m98.2.2.2.1) := by rfl
set_option maxRecDepth 100000 in
theorem gx_w99 : lw_tbl[949]? = some (Cond.code gx_m99.1 gx_m99.2.1 gx_m99.2.2.1 gx_m99.2.2.2.1) := by rfl
set_option maxRecDepth 100000 in
theorem gx_w100 : lw_tbl[954]? = some (Cond.code gx_m100.1 gx_m100.2.1 gx_m100.2.2.1 gx_m100.2.2.2.1) := by rfl
set_option maxRecDepth 100000 in
theorem gx_w101 : lw_tbl[958]? = some (Cond.code gx_m101.1 gx_m101.2.1 gx_m101.2.2.1 gx_m101.2.2.2.1) := by rfl
set_option maxRecDepth 100000 in
theorem gx_w102 : lw_tbl[963]? = some (Cond.code gx_m102.1 gx_m102.2.1 gx_m102.2.2.1 gx_m102.2.2.2.1) := by rfl
set_option maxRecDepth 100000 in
theorem gx_w103 : lw_tbl[967]? = some (Cond.code gx_m103.1 gx_m103.2.1 gx_m103.2.2.1 gx_m103.2.2.2.1) := by rfl
set_option maxRecDepth 100000 in
theorem gx_w104 : lw_tbl[971]? = some (Cond.code gx_m104.1 gx_m104.2.1 gx_m104.2.2.1 gx_m104.2.2.2.1) := by rfl
set_option maxRecDepth 100000 in
theorem gx_w105 : lw_tbl[975]? = some (Cond.code gx_m105.1 gx_m105.2.1 gx_m105.2.2.1 gx_m105.2.2.2.1) := by rfl
set_option maxRecDepth 100000 in
theorem gx_w106 : lw_tbl[979]? = some (Cond.code gx_m106.1 gx_m106.2.1 gx_m106.2.2.1 gx_m106.2.2.2.1) := by rfl
set_option maxRecDepth 100000 in
theorem gx_w107 : lw_tbl[984]? = some (Cond.code gx_m107.1 gx_m107.2.1 gx_m107.2.2.1 gx_m107.2.2.2.1) := by rfl
set_option maxRecDepth 100000 in
theorem gx_w108 : lw_tbl[988]? = some (Cond.code gx_m108.1 gx_m108.2.1 gx_m108.2.2.1 gx_m108.2.2.2.1) := by rfl
set_option maxRecDepth 100000 in
theorem gx_w109 : lw_tbl[994]? = some (Cond.code gx_m109.1 gx_m109.2.1 gx_m109.2.2.1 gx_m109.2.2.2.1) := by rfl
set_option maxRecDepth 100000 in
theorem gx_w110 : lw_tbl[1015]? = some (Cond.code gx_m110.1 gx_m110.2.1 gx_m110.2.2.1 gx_m110.2.2.2.1) := by rfl
set_option maxRecDepth 100000 in
theorem gx_w111 : lw_tbl[1020]? = some (Cond.code gx_m111.1 gx_m111.2.1 gx_m111.2.2.1 gx_m111.2.2.2.1) := by rfl
set_option maxRecDepth 100000 in
theorem gx_w112 : lw_tbl[1024]? = some (Cond.code gx_m112.1 gx_m112.2.1 gx_m112.2.2.1 gx_m112.2.2.2.1) := by rfl
set_option maxRecDepth 100000 in
theorem gx_w113 : lw_tbl[1027]? = some (Cond.code gx_m113.1 gx_m113.2.1 gx_m113.2.2.1 gx_m113.2.2.2.1) := by rfl
set_option maxRecDepth 100000 in
theorem gx_w114 : lw_tbl[1033]? = some (Cond.code gx_m114.1 gx_m114.2.1 gx_m114.2.2.1 gx_m114.2.2.2.1) := by rfl
set_option maxRecDepth 100000 in
theorem gx_w115 : lw_tbl[1037]? = some (Cond.code gx_m115.1 gx_m115.2.1 gx_m115.2.2.1 gx_m115.2.2.2.1) := by rfl
set_option maxRecDepth 100000 in
theorem gx_w116 : lw_tbl[1041]? = some (Cond.code gx_m116.1 gx_m116.2.1 gx_m116.2.2.1 gx_m116.2.2.2.1) := by rfl
set_option maxRecDepth 100000 in
theorem gx_w117 : lw_tbl[1045]? = some (Cond.code gx_m117.1 gx_m117.2.1 gx_m117.2.2.1 gx_m117.2.2.2.1) := by rfl
set_option maxRecDepth 100000 in
theorem gx_w118 : lw_tbl[1049]? = some (Cond.code gx_m118.1 gx_m118.2.1 gx_m118.2.2.1 gx_m118.2.2.2.1) := by rfl
set_option maxRecDepth 100000 in
theorem gx_w119 : lw_tbl[1053]? = some (Cond.code gx_m119.1 gx_m119.2.1 gx_m119.2.2.1 gx_m119.2.2.2.1) := by rfl
set_option maxRecDepth 100000 in
theorem gx_w120 : lw_tbl[1057]? = some (Cond.code gx_m120.1 gx_m120.2.1 gx_m120.2.2.1 gx_m120.2.2.2.1) := by rfl
set_option maxRecDepth 100000 in
theorem gx_w121 : lw_tbl[1061]? = some (Cond.code gx_m121.1 gx_m121.2.1 gx_m121.2.2.1 gx_m121.2.2.2.1) := by rfl
set_option maxRecDepth 100000 in
theorem gx_w122 : lw_tbl[1065]? = some (Cond.code gx_m122.1 gx_m122.2.1 gx_m122.2.2.1 gx_m122.2.2.2.1) := by rfl
set_option maxRecDepth 100000 in
theorem gx_w123 : lw_tbl[1069]? = some (Cond.code gx_m123.1 gx_m123.2.1 gx_m123.2.2.1 gx_m123.2.2.2.1) := by rfl
set_option maxRecDepth 100000 in
theorem gx_w124 : lw_tbl[1073]? = some (Cond.code gx_m124.1 gx_m124.2.1 gx_m124.2.2.1 gx_m124.2.2.2.1) := by rfl
set_option maxRecDepth 100000 in
theorem gx_w125 : lw_tbl[1077]? = some (Cond.code gx_m125.1 gx_m125.2.1 gx_m125.2.2.1 gx_m125.2.2.2.1) := by rfl
set_option maxRecDepth 100000 in
theorem gx_w126 : lw_tbl[1081]? = some (Cond.code gx_m126.1 gx_m126.2.1 gx_m126.2.2.1 gx_m126.2.2.2.1) := by rfl
set_option maxRecDepth 100000 in
theorem gx_w127 : lw_tbl[1086]? = some (Cond.code gx_m127.1 gx_m127.2.1 gx_m127.2.2.1 gx_m127.2.2.2.1) := by rfl
set_option maxRecDepth 100000 in
theorem gx_w128 : lw_tbl[1091]? = some (Cond.code gx_m128.1 gx_m128.2.1 gx_m128.2.2.1 gx_m128.2.2.2.1) := by rfl
set_option maxRecDepth 100000 in
theorem gx_w129 : lw_tbl[1095]? = some (Cond.code gx_m129.1 gx_m129.2.1 gx_m129.2.2.1 gx_m129.2.2.2.1) := by rfl
set_option maxRecDepth 100000 in
theorem gx_w130 : lw_tbl[1099]? = some (Cond.code gx_m130.1 gx_m130.2.1 gx_m130.2.2.1 gx_m130.2.2.2.1) := by rfl
set_option maxRecDepth 100000 in
theorem gx_w131 : lw_tbl[1103]? = some (Cond.code gx_m131.1 gx_m131.2.1 gx_m131.2.2.1 gx_m131.2.2.2.1) := by rfl
set_option maxRecDepth 100000 in
theorem gx_w132 : lw_tbl[1107]? = some (Cond.code gx_m132.1 gx_m132.2.1 gx_m132.2.2.1 gx_m132.2.2.2.1) := by rfl
set_option maxRecDepth 100000 in
theorem gx_w133 : lw_tbl[1111]? = some (Cond.code gx_m133.1 gx_m133.2.1 gx_m133.2.2.1 gx_m133.2.2.2.1) := by rfl
set_option maxRecDepth 100000 in
theorem gx_w134 : lw_tbl[1115]? = some (Cond.code gx_m134.1 gx_m134.2.1 gx_m134.2.2.1 gx_m134.2.2.2.1) := by rfl
set_option maxRecDepth 100000 in
theorem gx_w135 : lw_tbl[1119]? = some (Cond.code gx_m135.1 gx_m135.2.1 gx_m135.2.2.1 gx_m135.2.2.2.1) := by rfl
set_option maxRecDepth 100000 in
theorem gx_w136 : lw_tbl[1126]? = some (Cond.code gx_m136.1 gx_m136.2.1 gx_m136.2.2.1 gx_m136.2.2.2.1) := by rfl
set_option maxRecDepth 100000 in
theorem gx_w137 : lw_tbl[1469]? = some (Cond.code gx_m137.1 gx_m137.2.1 gx_m137.2.2.1 gx_m137.2.2.2.1) := by rfl
set_option maxRecDepth 100000 in
theorem gx_w138 : lw_tbl[1474]? = some (Cond.code gx_m138.1 gx_m138.2.1 gx_m138.2.2.1 gx_m138.2.2.2.1) := by rfl
set_option maxRecDepth 100000 in
theorem gx_w139 : lw_tbl[1478]? = some (Cond.code gx_m139.1 gx_m139.2.1 gx_m139.2.2.1 gx_m139.2.2.2.1) := by rfl
set_option maxRecDepth 100000 in
theorem gx_w140 : lw_tbl[1482]? = some (Cond.code gx_m140.1 gx_m140.2.1 gx_m140.2.2.1 gx_m140.2.2.2.1) := by rfl
set_option maxRecDepth 100000 in
theorem gx_w141 : lw_tbl[1486]? = some (Cond.code gx_m141.1 gx_m141.2.1 gx_m141.2.2.1 gx_m141.2.2.2.1) := by rfl
set_option maxRecDepth 100000 in
theorem gx_w142 : lw_tbl[1490]? = some (Cond.code gx_m142.1 gx_m142.2.1 gx_m142.2.2.1 gx_m142.2.2.2.1) := by rfl
set_option maxRecDepth 100000 in
theorem gx_w143 : lw_tbl[1494]? = some (Cond.code gx_m143.1 gx_m143.2.1 gx_m143.2.2.1 gx_m143.2.2.2.1) := by rfl
set_option maxRecDepth 100000 in
theorem gx_w144 : lw_tbl[1498]? = some (Cond.code gx_m144.1 gx_m144.2.1 gx_m144.2.2.1 gx_m144.2.2.2.1) := by rfl
set_option maxRecDepth 100000 in
theorem gx_w145 : lw_tbl[1502]? = some (Cond.code gx_m145.1 gx_m145.2.1 gx_m145.2.2.1 gx_m145.2.2.2.1) := by rfl
set_option maxRecDepth 100000 in
theorem gx_w146 : lw_tbl[1506]? = some (Cond.code gx_m146.1 gx_m146.2.1 gx_m146.2.2.1 gx_m146.2.2.2.1) := by rfl
set_option maxRecDepth 100000 in
theorem gx_w147 : lw_tbl[1510]? = some (Cond.code gx_m147.1 gx_m147.2.1 gx_m147.2.2.1 gx_m147.2.2.2.1) := by rfl
set_option maxRecDepth 100000 in
theorem gx_w148 : lw_tbl[1514]? = some (Cond.code gx_m148.1 gx_m148.2.1 gx_m148.2.2.1 gx_m148.2.2.2.1) := by rfl
set_option maxRecDepth 100000 in
theorem gx_w149 : lw_tbl[1518]? = some (Cond.code gx_m149.1 gx_m149.2.1 gx_m149.2.2.1 gx_m149.2.2.2.1) := by rfl
set_option maxRecDepth 100000 in
theorem gx_w150 : lw_tbl[1522]? = some (Cond.code gx_m150.1 gx_m150.2.1 gx_m150.2.2.1 gx_m150.2.2.2.1) := by rfl
set_option maxRecDepth 100000 in
theorem gx_w151 : lw_tbl[1526]? = some (Cond.code gx_m151.1 gx_m151.2.1 gx_m151.2.2.1 gx_m151.2.2.2.1) := by rfl
set_option maxRecDepth 100000 in
theorem gx_w152 : lw_tbl[1530]? = some (Cond.code gx_m152.1 gx_m152.2.1 gx_m152.2.2.1 gx_m152.2.2.2.1) := by rfl
set_option maxRecDepth 100000 in
theorem gx_w153 : lw_tbl[1534]? = some (Cond.code gx_m153.1 gx_m153.2.1 gx_m153.2.2.1 gx_m153.2.2.2.1) := by rfl
set_option maxRecDepth 100000 in
theorem gx_w154 : lw_tbl[1538]? = some (Cond.code gx_m154.1 gx_m154.2.1 gx_m154.2.2.1 gx_m154.2.2.2.1) := by rfl
set_option maxRecDepth 100000 in
theorem gx_w155 : lw_tbl[1542]? = some (Cond.code gx_m155.1 gx_m155.2.1 gx_m155.2.2.1 gx_m155.2.2.2.1) := by rfl
set_option maxRecDepth 100000 in
theorem gx_w156 : lw_tbl[1546]? = some (Cond.code gx_m156.1 gx_m156.2.1 gx_m156.2.2.1 gx_m156.2.2.2.1) := by rfl
set_option maxRecDepth 100000 in
theorem gx_w157 : lw_tbl[1550]? = some (Cond.code gx_m157.1 gx_m157.2.1 gx_m157.2.2.1 gx_m157.2.2.2.1) := by rfl
set_option maxRecDepth 100000 in
theorem gx_w158 : lw_tbl[1554]? = some (Cond.code gx_m158.1 gx_m158.2.1 gx_m158.2.2.1 gx_m158.2.2.2.1) := by rfl
set_option maxRecDepth 100000 in
theorem gx_w159 : lw_tbl[1558]? = some (Cond.code gx_m159.1 gx_m159.2.1 gx_m159.2.2.1 gx_m159.2.2.2.1) := by rfl
set_option maxRecDepth 100000 in
theorem gx_w160 : lw_tbl[1562]? = some (Cond.code gx_m160.1 gx_m160.2.1 gx_m160.2.2.1 gx_m160.2.2.2.1) := by rfl
set_option maxRecDepth 100000 in
theorem gx_w161 : lw_tbl[1566]? = some (Cond.code gx_m161.1 gx_m161.2.1 gx_m161.2.2.1 gx_m161.2.2.2.1) := by rfl
set_option maxRecDepth 100000 in
theorem gx_w162 : lw_tbl[1570]? = some (Cond.code gx_m162.1 gx_m162.2.1 gx_m162.2.2.1 gx_m162.2.2.2.1) := by rfl
set_option maxRecDepth 100000 in
theorem gx_w163 : lw_tbl[1574]? = some (Cond.code gx_m163.1 gx_m163.2.1 gx_m163.2.2.1 gx_m163.2.2.2.1) := by rfl
set_option maxRecDepth 100000 in
theorem gx_w164 : lw_tbl[1578]? = some (Cond.code gx_m164.1 gx_m164.2.1 gx_m164.2.2.1 gx_m164.2.2.2.1) := by rfl
set_option maxRecDepth 100000 in
theorem gx_w165 : lw_tbl[1582]? = some (Cond.code gx_m165.1 gx_m165.2.1 gx_m165.2.2.1 gx_m165.2.2.2.1) := by rfl
set_option maxRecDepth 100000 in
theorem gx_w166 : lw_tbl[1586]? = some (Cond.code gx_m166.1 gx_m166.2.1 gx_m166.2.2.1 gx_m166.2.2.2.1) := by rfl
set_option maxRecDepth 100000 in
theorem gx_w167 : lw_tbl[1590]? = some (Cond.code gx_m167.1 gx_m167.2.1 gx_m167.2.2.1 gx_m167.2.2.2.1) := by rfl
set_option maxRecDepth 100000 in
theorem gx_w168 : lw_tbl[1594]? = some (Cond.code gx_m168.1 gx_m168.2.1 gx_m168.2.2.1 gx_m168.2.2.2.1) := by rfl
set_option maxRecDepth 100000 in
theorem gx_w169 : lw_tbl[1598]? = some (Cond.code gx_m169.1 gx_m169.2.1 gx_m169.2.2.1 gx_m169.2.2.2.1) := by rfl
set_option maxRecDepth 100000 in
theorem gx_w170 : lw_tbl[1602]? = some (Cond.code gx_m170.1 gx_m170.2.1 gx_m170.2.2.1 gx_m170.2.2.2.1) := by rfl
set_option maxRecDepth 100000 in
theorem gx_w171 : lw_tbl[1606]? = some (Cond.code gx_m171.1 gx_m171.2.1 gx_m171.2.2.1 gx_m171.2.2.2.1) := by rfl
set_option maxRecDepth 100000 in
theorem gx_w172 : lw_tbl[1610]? = some (Cond.code gx_m172.1 gx_m172.2.1 gx_m172.2.2.1 gx_m172.2.2.2.1) := by rfl
set_option maxRecDepth 100000 in
theorem gx_w173 : lw_tbl[1614]? = some (Cond.code gx_m173.1 gx_m173.2.1 gx_m173.2.2.1 gx_m173.2.2.2.1) := by rfl
set_option maxRecDepth 100000 in
theorem gx_w174 : lw_tbl[1618]? = some (Cond.code gx_m174.1 gx_m174.2.1 gx_m174.2.2.1 gx_m174.2.2.2.1) := by rfl
set_option maxRecDepth 100000 in
theorem gx_w175 : lw_tbl[1622]? = some (Cond.code gx_m175.1 gx_m175.2.1 gx_m175.2.2.1 gx_m175.2.2.2.1) := by rfl
set_option maxRecDepth 100000 in
theorem gx_w176 : lw_tbl[1626]? = some (Cond.code gx_m176.1 gx_m176.2.1 gx_m176.2.2.1 gx_m176.2.2.2.1) := by rfl
set_option maxRecDepth 100000 in
theorem gx_w177 : lw_tbl[1630]? = some (Cond.code gx_m177.1 gx_m177.2.1 gx_m177.2.2.1 gx_m177.2.2.2.1) := by rfl
set_option maxRecDepth 100000 in
theorem gx_w178 : lw_tbl[1634]? = some (Cond.code gx_m178.1 gx_m178.2.1 gx_m178.2.2.1 gx_m178.2.2.2.1) := by rfl
set_option maxRecDepth 100000 in
theorem gx_w179 : lw_tbl[1638]? = some (Cond.code gx_m179.1 gx_m179.2.1 gx_m179.2.2.1 gx_m179.2.2.2.1) := by rfl
set_option maxRecDepth 100000 in
theorem gx_w180 : lw_tbl[1642]? = some (Cond.code gx_m180.1 gx_m180.2.1 gx_m180.2.2.1 gx_m180.2.2.2.1) := by rfl
set_option maxRecDepth 100000 in
theorem gx_w181 : lw_tbl[1646]? = some (Cond.code gx_m181.1 gx_m181.2.1 gx_m181.2.2.1 gx_m181.2.2.2.1) := by rfl
set_option maxRecDepth 100000 in
theorem gx_w182 : lw_tbl[1650]? = some (Cond.code gx_m182.1 gx_m182.2.1 gx_m182.2.2.1 gx_m182.2.2.2.1) := by rfl
set_option maxRecDepth 100000 in
theorem gx_w183 : lw_tbl[1654]? = some (Cond.code gx_m183.1 gx_m183.2.1 gx_m183.2.2.1 gx_m183.2.2.2.1) := by rfl
set_option maxRecDepth 100000 in
theorem gx_w184 : lw_tbl[1658]? = some (Cond.code gx_m184.1 gx_m184.2.1 gx_m184.2.2.1 gx_m184.2.2.2.1) := by rfl
set_option maxRecDepth 100000 in
theorem gx_w185 : lw_tbl[1662]? = some (Cond.code gx_m185.1 gx_m185.2.1 gx_m185.2.2.1 gx_m185.2.2.2.1) := by rfl
set_option maxRecDepth 100000 in
theorem gx_w186 : lw_tbl[1666]? = some (Cond.code gx_m186.1 gx_m186.2.1 gx_m186.2.2.1 gx_m186.2.2.2.1) := by rfl
set_option maxRecDepth 100000 in
theorem gx_w187 : lw_tbl[1670]? = some (Cond.code gx_m187.1 gx_m187.2.1 gx_m187.2.2.1 gx_m187.2.2.2.1) := by rfl
set_option maxRecDepth 100000 in
theorem gx_w188 : lw_tbl[1674]? = some (Cond.code gx_m188.1 gx_m188.2.1 gx_m188.2.2.1 gx_m188.2.2.2.1) := by rfl
set_option maxRecDepth 100000 in
theorem gx_w189 : lw_tbl[1678]? = some (Cond.code gx_m189.1 gx_m189.2.1 gx_m189.2.2.1 gx_m189.2.2.2.1) := by rfl
set_option maxRecDepth 100000 in
theorem gx_w190 : lw_tbl[1682]? = some (Cond.code gx_m190.1 gx_m190.2.1 gx_m190.2.2.1 gx_m190.2.2.2.1) := by rfl
set_option maxRecDepth 100000 in
theorem gx_w191 : lw_tbl[1686]? = some (Cond.code gx_m191.1 gx_m191.2.1 gx_m191.2.2.1 gx_m191.2.2.2.1) := by rfl
set_option maxRecDepth 100000 in
theorem gx_w192 : lw_tbl[1690]? = some (Cond.code gx_m192.1 gx_m192.2.1 gx_m192.2.2.1 gx_m192.2.2.2.1) := by rfl
set_option maxRecDepth 100000 in
theorem gx_w193 : lw_tbl[1694]? = some (Cond.code gx_m193.1 gx_m193.2.1 gx_m193.2.2.1 gx_m193.2.2.2.1) := by rfl
set_option maxRecDepth 100000 in
theorem gx_w194 : lw_tbl[1698]? = some (Cond.code gx_m194.1 gx_m194.2.1 gx_m194.2.2.1 gx_m194.2.2.2.1) := by rfl
set_option maxRecDepth 100000 in
theorem gx_w195 : lw_tbl[1702]? = some (Cond.code gx_m195.1 gx_m195.2.1 gx_m195.2.2.1 gx_m195.2.2.2.1) := by rfl
set_option maxRecDepth 100000 in
theorem gx_w196 : lw_tbl[1706]? = some (Cond.code gx_m196.1 gx_m196.2.1 gx_m196.2.2.1 gx_m196.2.2.2.1) := by rfl
set_option maxRecDepth 100000 in
theorem gx_w197 : lw_tbl[1711]? = some (Cond.code gx_m197.1 gx_m197.2.1 gx_m197.2.2.1 gx_m197.2.2.2.1) := by rfl
set_option maxRecDepth 100000 in
theorem gx_w198 : lw_tbl[1715]? = some (Cond.code gx_m198.1 gx_m198.2.1 gx_m198.2.2.1 gx_m198.2.2.2.1) := by rfl
set_option maxRecDepth 100000 in
theorem gx_w199 : lw_tbl[1719]? = some (Cond.code gx_m199.1 gx_m199.2.1 gx_m199.2.2.1 gx_m199.2.2.2.1) := by rfl
set_option maxRecDepth 100000 in
theorem gx_w200 : lw_tbl[1723]? = some (Cond.code gx_m200.1 gx_m200.2.1 gx_m200.2.2.1 gx_m200.2.2.2.1) := by rfl
set_option maxRecDepth 100000 in
theorem gx_w201 : lw_tbl[1727]? = some (Cond.code gx_m201.1 gx_m201.2.1 gx_m201.2.2.1 gx_m201.2.2.2.1) := by rfl
set_option maxRecDepth 100000 in
theorem gx_w202 : lw_tbl[1731]? = some (Cond.code gx_m202.1 gx_m202.2.1 gx_m202.2.2.1 gx_m202.2.2.2.1) := by rfl
set_option maxRecDepth 100000 in
theorem gx_w203 : lw_tbl[1735]? = some (Cond.code gx_m203.1 gx_m203.2.1 gx_m203.2.2.1 gx_m203.2.2.2.1) := by rfl
set_option maxRecDepth 100000 in
theorem gx_w204 : lw_tbl[1739]? = some (Cond.code gx_m204.1 gx_m204.2.1 gx_m204.2.2.1 gx_m204.2.2.2.1) := by rfl
set_option maxRecDepth 100000 in
theorem gx_w205 : lw_tbl[1743]? = some (Cond.code gx_m205.1 gx_m205.2.1 gx_m205.2.2.1 gx_m205.2.2.2.1) := by rfl
set_option maxRecDepth 100000 in
theorem gx_w206 : lw_tbl[1747]? = some (Cond.code gx_m206.1 gx_m206.2.1 gx_m206.2.2.1 gx_m206.2.2.2.1) := by rfl
set_option maxRecDepth 100000 in
theorem gx_w207 : lw_tbl[1751]? = some (Cond.code gx_m207.1 gx_m207.2.1 gx_m207.2.2.1 gx_m207.2.2.2.1) := by rfl
set_option maxRecDepth 100000 in
theorem gx_w208 : lw_tbl[1755]? = some (Cond.code gx_m208.1 gx_m208.2.1 gx_m208.2.2.1 gx_m208.2.2.2.1) := by rfl
set_option maxHeartbeats 4000000 in
set_option maxRecDepth 100000 in
theorem gx_wm : ∀ M ∈ gx_ms, Cond.code M.1 M.2.1 M.2.2.1 M.2.2.2.1 ∈ lw_tbl := List.forall_mem_cons.mpr ⟨List.mem_of_getElem? gx_w0, List.forall_mem_cons.mpr ⟨List.mem_of_getElem? gx_w1, List.forall_mem_cons.mpr ⟨List.mem_of_getElem? gx_w2, List.forall_mem_cons.mpr ⟨List.mem_of_getElem? gx_w3, List.forall_mem_cons.mpr ⟨List.mem_of_getElem? gx_w4, List.forall_mem_cons.mpr ⟨List.mem_of_getElem? gx_w5, List.forall_mem_cons.mpr ⟨List.mem_of_getElem? gx_w6, List.forall_mem_cons.mpr ⟨List.mem_of_getElem? gx_w7, List.forall_mem_cons.mpr ⟨List.mem_of_getElem? gx_w8, List.forall_mem_cons.mpr ⟨List.mem_of_getElem? gx_w9, List.forall_mem_cons.mpr ⟨List.mem_of_getElem? gx_w10, List.forall_mem_cons.mpr ⟨List.mem_of_getElem? gx_w11, List.forall_mem_cons.mpr ⟨List.mem_of_getElem? gx_w12, List.forall_mem_cons.mpr ⟨List.mem_of_getElem? gx_w13, List.forall_mem_cons.mpr ⟨List.mem_of_getElem? gx_w14, List.forall_mem_cons.mpr ⟨List.mem_of_getElem? gx_w15, List.forall_mem_cons.mpr ⟨List.mem_of_getElem? gx_w16, List.forall_mem_cons.mpr ⟨List.mem_of_getElem? gx_w17, List.forall_mem_cons.mpr ⟨List.mem_of_getElem? gx_w18, List.forall_mem_cons.mpr ⟨List.mem_of_getElem? gx_w19, List.forall_mem_cons.mpr ⟨List.mem_of_getElem? gx_w20, List.forall_mem_cons.mpr ⟨List.mem_of_getElem? gx_w21, List.forall_mem_cons.mpr ⟨List.mem_of_getElem? gx_w22, List.forall_mem_cons.mpr ⟨List.mem_of_getElem? gx_w23, List.forall_mem_cons.mpr ⟨List.mem_of_getElem? gx_w24, List.forall_mem_cons.mpr ⟨List.mem_of_getElem? gx_w25, List.forall_mem_cons.mpr ⟨List.mem_of_getElem? gx_w26, List.forall_mem_cons.mpr ⟨List.mem_of_getElem? gx_w27, List.forall_mem_cons.mpr ⟨List.mem_of_getElem? gx_w28, List.forall_mem_cons.mpr ⟨List.mem_of_getElem? gx_w29, List.forall_mem_cons.mpr ⟨List.mem_of_getElem? gx_w30, List.forall_mem_cons.mpr ⟨List.mem_of_getElem? gx_w31, List.forall_mem_cons.mpr ⟨List.mem_of_getElem? gx_w32, List.forall_mem_cons.mpr ⟨List.mem_of_getElem? gx_w33, List.forall_mem_cons.mpr ⟨List.mem_of_getElem? gx_w34, List.forall_mem_cons.mpr ⟨List.mem_of_getElem? gx_w35, List.forall_mem_cons.mpr ⟨List.mem_of_getElem? gx_w36, List.forall_mem_cons.mpr ⟨List.mem_of_getElem? gx_w37, List.forall_mem_cons.mpr ⟨List.mem_of_getElem? gx_w38, List.forall_mem_cons.mpr ⟨List.mem_of_getElem? gx_w39, List.forall_mem_cons.mpr ⟨List.mem_of_getElem? gx_w40, List.forall_mem_cons.mpr ⟨List.mem_of_getElem? gx_w41, List.forall_mem_cons.mpr ⟨List.mem_of_getElem? gx_w42, List.forall_mem_cons.mpr ⟨List.mem_of_getElem? gx_w43, List.forall_mem_cons.mpr ⟨List.mem_of_getElem? gx_w44, List.forall_mem_cons.mpr ⟨List.mem_of_getElem? gx_w45, List.forall_mem_cons.mpr ⟨List.mem_of_getElem? gx_w46, List.forall_mem_cons.mpr ⟨List.mem_of_getElem? gx_w47, List.forall_mem_cons.mpr ⟨List.mem_of_getElem? gx_w48, List.forall_mem_cons.mpr ⟨List.mem_of_getElem? gx_w49, List.forall_mem_cons.mpr ⟨List.mem_of_getElem? gx_w50, List.forall_mem_cons.mpr ⟨List.mem_of_getElem? gx_w51, List.forall_mem_cons.mpr ⟨List.mem_of_getElem? gx_w52, List.forall_mem_cons.mpr ⟨List.mem_of_getElem? gx_w53, List.forall_mem_cons.mpr ⟨List.mem_of_getElem? gx_w54, List.forall_mem_cons.mpr ⟨List.mem_of_getElem? gx_w55, List.forall_mem_cons.mpr ⟨List.mem_of_getElem? gx_w56, List.forall_mem_cons.mpr ⟨List.mem_of_getElem? gx_w57, List.forall_mem_cons.mpr ⟨List.mem_of_getElem? gx_w58, List.forall_mem_cons.mpr ⟨List.mem_of_getElem? gx_w59, List.forall_mem_cons.mpr ⟨List.mem_of_getElem? gx_w60, List.forall_mem_cons.mpr ⟨List.mem_of_getElem? gx_w61, List.forall_mem_cons.mpr ⟨List.mem_of_getElem? gx_w62, List.forall_mem_cons.mpr ⟨List.mem_of_getElem? gx_w63, List.forall_mem_cons.mpr ⟨List.mem_of_getElem? gx_w64, List.forall_mem_cons.mpr ⟨List.mem_of_getElem? gx_w65, List.forall_mem_cons.mpr ⟨List.mem_of_getElem? gx_w66, List.forall_mem_cons.mpr ⟨List.mem_of_getElem? gx_w67, List.forall_mem_cons.mpr ⟨List.mem_of_getElem? gx_w68, List.forall_mem_cons.mpr ⟨List.mem_of_getElem? gx_w69, List.forall_mem_cons.mpr ⟨List.mem_of_getElem? gx_w70, List.forall_mem_cons.mpr ⟨List.mem_of_getElem? gx_w71, List.forall_mem_cons.mpr ⟨List.mem_of_getElem? gx_w72, List.forall_mem_cons.mpr ⟨List.mem_of_getElem? gx_w73, List.forall_mem_cons.mpr ⟨List.mem_of_getElem? gx_w74, List.forall_mem_cons.mpr ⟨List.mem_of_getElem? gx_w75, List.forall_mem_cons.mpr ⟨List.mem_of_getElem? gx_w76, List.forall_mem_cons.mpr ⟨List.mem_of_getElem? gx_w77, List.forall_mem_cons.mpr ⟨List.mem_of_getElem? gx_w78, List.forall_mem_cons.mpr ⟨List.mem_of_getElem? gx_w79, List.forall_mem_cons.mpr ⟨List.mem_of_getElem? gx_w80, List.forall_mem_cons.mpr ⟨List.mem_of_getElem? gx_w81, List.forall_mem_cons.mpr ⟨List.mem_of_getElem? gx_w82, List.forall_mem_cons.mpr ⟨List.mem_of_getElem? gx_w83, List.forall_mem_cons.mpr ⟨List.mem_of_getElem? gx_w84, List.forall_mem_cons.mpr ⟨List.mem_of_getElem? gx_w85, List.forall_mem_cons.mpr ⟨List.mem_of_getElem? gx_w86, List.forall_mem_cons.mpr ⟨List.mem_of_getElem? gx_w87, List.forall_mem_cons.mpr ⟨List.mem_of_getElem? gx_w88, List.forall_mem_cons.mpr ⟨List.mem_of_getElem? gx_w89, List.forall_mem_cons.mpr ⟨List.mem_of_getElem? gx_w90, List.forall_mem_cons.mpr ⟨List.mem_of_getElem? gx_w91, List.forall_mem_cons.mpr ⟨List.mem_of_getElem? gx_w92, List.forall_mem_cons.mpr ⟨List.mem_of_getElem? gx_w93, List.forall_mem_cons.mpr ⟨List.mem_of_getElem? gx_w94, List.forall_mem_cons.mpr ⟨List.mem_of_getElem? gx_w95, List.forall_mem_cons.mpr ⟨List.mem_of_getElem? gx_w96, List.forall_mem_cons.mpr ⟨List.mem_of_getElem? gx_w97, List.forall_mem_cons.mpr ⟨List.mem_of_getElem? gx_w98, List.forall_mem_cons.mpr ⟨List.mem_of_getElem? gx_w99, List.forall_mem_cons.mpr ⟨List.mem_of_getElem? gx_w100, List.forall_mem_cons.mpr ⟨List.mem_of_getElem? gx_w101, List.forall_mem_cons.mpr ⟨List.mem_of_getElem? gx_w102, List.forall_mem_cons.mpr ⟨List.mem_of_getElem? gx_w103, List.forall_mem_cons.mpr ⟨List.mem_of_getElem? gx_w104, List.forall_mem_cons.mpr ⟨List.mem_of_getElem? gx_w105, List.forall_mem_cons.mpr ⟨List.mem_of_getElem? gx_w106, List.forall_mem_cons.mpr ⟨List.mem_of_getElem? gx_w107, List.forall_mem_cons.mpr ⟨List.mem_of_getElem? gx_w108, List.forall_mem_cons.mpr ⟨List.mem_of_getElem? gx_w109, List.forall_mem_cons.mpr ⟨List.mem_of_getElem? gx_w110, List.forall_mem_cons.mpr ⟨List.mem_of_getElem? gx_w111, List.forall_mem_cons.mpr ⟨List.mem_of_getElem? gx_w112, List.forall_mem_cons.mpr ⟨List.mem_of_getElem? gx_w113, List.forall_mem_cons.mpr ⟨List.mem_of_getElem? gx_w114, List.forall_mem_cons.mpr ⟨List.mem_of_getElem? gx_w115, List.forall_mem_cons.mpr ⟨List.mem_of_getElem? gx_w116, List.forall_mem_cons.mpr ⟨List.mem_of_getElem? gx_w117, List.forall_mem_cons.mpr ⟨List.mem_of_getElem? gx_w118, List.forall_mem_cons.mpr ⟨List.mem_of_getElem? gx_w119, List.forall_mem_cons.mpr ⟨List.mem_of_getElem? gx_w120, List.forall_mem_cons.mpr ⟨List.mem_of_getElem? gx_w121, List.forall_mem_cons.mpr ⟨List.mem_of_getElem? gx_w122, List.forall_mem_cons.mpr ⟨List.mem_of_getElem? gx_w123, List.forall_mem_cons.mpr ⟨List.mem_of_getElem? gx_w124, List.forall_mem_cons.mpr ⟨List.mem_of_getElem? gx_w125, List.forall_mem_cons.mpr ⟨List.mem_of_getElem? gx_w126, List.forall_mem_cons.mpr ⟨List.mem_of_getElem? gx_w127, List.forall_mem_cons.mpr ⟨List.mem_of_getElem? gx_w128, List.forall_mem_cons.mpr ⟨List.mem_of_getElem? gx_w129, List.forall_mem_cons.mpr ⟨List.mem_of_getElem? gx_w130, List.forall_mem_cons.mpr ⟨List.mem_of_getElem? gx_w131, List.forall_mem_cons.mpr ⟨List.mem_of_getElem? gx_w132, List.forall_mem_cons.mpr ⟨List.mem_of_getElem? gx_w133, List.forall_mem_cons.mpr ⟨List.mem_of_getElem? gx_w134, List.forall_mem_cons.mpr ⟨List.mem_of_getElem? gx_w135, List.forall_mem_cons.mpr ⟨List.mem_of_getElem? gx_w136, List.forall_mem_cons.mpr ⟨List.mem_of_getElem? gx_w137, List.forall_mem_cons.mpr ⟨List.mem_of_getElem? gx_w138, List.forall_mem_cons.mpr ⟨List.mem_of_getElem? gx_w139, List.forall_mem_cons.mpr ⟨List.mem_of_getElem? gx_w140, List.forall_mem_cons.mpr ⟨List.mem_of_getElem? gx_w141, List.forall_mem_cons.mpr ⟨List.mem_of_getElem? gx_w142, List.forall_mem_cons.mpr ⟨List.mem_of_getElem? gx_w143, List.forall_mem_cons.mpr ⟨List.mem_of_getElem? gx_w144, List.forall_mem_cons.mpr ⟨List.mem_of_getElem? gx_w145, List.forall_mem_cons.mpr ⟨List.mem_of_getElem? gx_w146, List.forall_mem_cons.mpr ⟨List.mem_of_getElem? gx_w147, List.forall_mem_cons.mpr ⟨List.mem_of_getElem? gx_w148, List.forall_mem_cons.mpr ⟨List.mem_of_getElem? gx_w149, List.forall_mem_cons.mpr ⟨List.mem_of_getElem? gx_w150, List.forall_mem_cons.mpr ⟨List.mem_of_getElem? gx_w151, List.forall_mem_cons.mpr ⟨List.mem_of_getElem? gx_w152, List.forall_mem_cons.mpr ⟨List.mem_of_getElem? gx_w153, List.forall_mem_cons.mpr ⟨List.mem_of_getElem? gx_w154, List.forall_mem_cons.mpr ⟨List.mem_of_getElem? gx_w155, List.forall_mem_cons.mpr ⟨List.mem_of_getElem? gx_w156, List.forall_mem_cons.mpr ⟨List.mem_of_getElem? gx_w157, List.forall_mem_cons.mpr ⟨List.mem_of_getElem? gx_w158, List.forall_mem_cons.mpr ⟨List.mem_of_getElem? gx_w159, List.forall_mem_cons.mpr ⟨List.mem_of_getElem? gx_w160, List.forall_mem_cons.mpr ⟨List.mem_of_getElem? gx_w161, List.forall_mem_cons.mpr ⟨List.mem_of_getElem? gx_w162, List.forall_mem_cons.mpr ⟨List.mem_of_getElem? gx_w163, List.forall_mem_cons.mpr ⟨List.mem_of_getElem? gx_w164, List.forall_mem_cons.mpr ⟨List.mem_of_getElem? gx_w165, List.forall_mem_cons.mpr ⟨List.mem_of_getElem? gx_w166, List.forall_mem_cons.mpr ⟨List.mem_of_getElem? gx_w167, List.forall_mem_cons.mpr ⟨List.mem_of_getElem? gx_w168, List.forall_mem_cons.mpr ⟨List.mem_of_getElem? gx_w169, List.forall_mem_cons.mpr ⟨List.mem_of_getElem? gx_w170, List.forall_mem_cons.mpr ⟨List.mem_of_getElem? gx_w171, List.forall_mem_cons.mpr ⟨List.mem_of_getElem? gx_w172, List.forall_mem_cons.mpr ⟨List.mem_of_getElem? gx_w173, List.forall_mem_cons.mpr ⟨List.mem_of_getElem? gx_w174, List.forall_mem_cons.mpr ⟨List.mem_of_getElem? gx_w175, List.forall_mem_cons.mpr ⟨List.mem_of_getElem? gx_w176, List.forall_mem_cons.mpr ⟨List.mem_of_getElem? gx_w177, List.forall_mem_cons.mpr ⟨List.mem_of_getElem? gx_w178, List.forall_mem_cons.mpr ⟨List.mem_of_getElem? gx_w179, List.forall_mem_cons.mpr ⟨List.mem_of_getElem? gx_w180, List.forall_mem_cons.mpr ⟨List.mem_of_getElem? gx_w181, List.forall_mem_cons.mpr ⟨List.mem_of_getElem? gx_w182, List.forall_mem_cons.mpr ⟨List.mem_of_getElem? gx_w183, List.forall_mem_cons.mpr ⟨List.mem_of_getElem? gx_w184, List.forall_mem_cons.mpr ⟨List.mem_of_getElem? gx_w185, List.forall_mem_cons.mpr ⟨List.mem_of_getElem? gx_w186, List.forall_mem_cons.mpr ⟨List.mem_of_getElem? gx_w187, List.forall_mem_cons.mpr ⟨List.mem_of_getElem? gx_w188, List.forall_mem_cons.mpr ⟨List.mem_of_getElem? gx_w189, List.forall_mem_cons.mpr ⟨List.mem_of_getElem? gx_w190, List.forall_mem_cons.mpr ⟨List.mem_of_getElem? gx_w191, List.forall_mem_cons.mpr ⟨List.mem_of_getElem? gx_w192, List.forall_mem_cons.mpr ⟨List.mem_of_getElem? gx_w193, List.forall_mem_cons.mpr ⟨List.mem_of_getElem? gx_w194, List.forall_mem_cons.mpr ⟨List.mem_of_getElem? gx_w195, List.forall_mem_cons.mpr ⟨List.mem_of_getElem? gx_w196, List.forall_mem_cons.mpr ⟨List.mem_of_getElem? gx_w197, List.forall_mem_cons.mpr ⟨List.mem_of_getElem? gx_w198, List.forall_mem_cons.mpr ⟨List.mem_of_getElem? gx_w199, List.forall_mem_cons.mpr ⟨List.mem_of_getElem? gx_w200, List.forall_mem_cons.mpr ⟨List.mem_of_getElem? gx_w201, List.forall_mem_cons.mpr ⟨List.mem_of_getElem? gx_w202, List.forall_mem_cons.mpr ⟨List.mem_of_getElem? gx_w203, List.forall_mem_cons.mpr ⟨List.mem_of_getElem? gx_w204, List.forall_mem_cons.mpr ⟨List.mem_of_getElem? gx_w205, List.forall_mem_cons.mpr ⟨List.mem_of_getElem? gx_w206, List.forall_mem_cons.mpr ⟨List.mem_of_getElem? gx_w207, List.forall_mem_cons.mpr ⟨List.mem_of_getElem? gx_w208, fun _ h => absurd h List.not_mem_nil⟩⟩⟩⟩⟩⟩⟩⟩⟩⟩⟩⟩⟩⟩⟩⟩⟩⟩⟩⟩⟩⟩⟩⟩⟩⟩⟩⟩⟩⟩⟩⟩⟩⟩⟩⟩⟩⟩⟩⟩⟩⟩⟩⟩⟩⟩⟩⟩⟩⟩⟩⟩⟩⟩⟩⟩⟩⟩⟩⟩⟩⟩⟩⟩⟩⟩⟩⟩⟩⟩⟩⟩⟩⟩⟩⟩⟩⟩⟩⟩⟩⟩⟩⟩⟩⟩⟩⟩⟩⟩⟩⟩⟩⟩⟩⟩⟩⟩⟩⟩⟩⟩⟩⟩⟩⟩⟩⟩⟩⟩⟩⟩⟩⟩⟩⟩⟩⟩⟩⟩⟩⟩⟩⟩⟩⟩⟩⟩⟩⟩⟩⟩⟩⟩⟩⟩⟩⟩⟩⟩⟩⟩⟩⟩⟩⟩⟩⟩⟩⟩⟩⟩⟩⟩⟩⟩⟩⟩⟩⟩⟩⟩⟩⟩⟩⟩⟩⟩⟩⟩⟩⟩⟩⟩⟩⟩⟩⟩⟩⟩⟩⟩⟩⟩⟩⟩⟩⟩⟩⟩⟩⟩⟩⟩⟩⟩⟩⟩⟩⟩⟩⟩⟩⟩⟩⟩⟩⟩⟩
end
section
set_option maxRecDepth 100000 in
theorem gx_cM : (List.range gx_ms.length).all (fun j => match gx_ms[j]? with | some M => am_chkM lw_tbl M (gx_mp.getD j (0, 0)) | none => false) = true := by decide +kernel
end
section
set_option maxRecDepth 100000 in
theorem gx_co : ∀ o ∈ gx_owns, ∀ q ∈ o.2, am_chk gx_cl gx_ms lw_tbl o.1 q = true := List.forall_mem_cons.mpr ⟨fun q hq => List.all_eq_true.mp gx_c0 q hq, List.forall_mem_cons.mpr ⟨fun q hq => List.all_eq_true.mp gx_c1 q hq, List.forall_mem_cons.mpr ⟨fun q hq => List.all_eq_true.mp gx_c2 q hq, List.forall_mem_cons.mpr ⟨fun q hq => List.all_eq_true.mp gx_c3 q hq, List.forall_mem_cons.mpr ⟨fun q hq => List.all_eq_true.mp gx_c4 q hq, List.forall_mem_cons.mpr ⟨fun q hq => List.all_eq_true.mp gx_c5 q hq, List.forall_mem_cons.mpr ⟨fun q hq => List.all_eq_true.mp gx_c6 q hq, List.forall_mem_cons.mpr ⟨fun q hq => List.all_eq_true.mp gx_c7 q hq, List.forall_mem_cons.mpr ⟨fun q hq => List.all_eq_true.mp gx_c8 q hq, List.forall_mem_cons.mpr ⟨fun q hq => List.all_eq_true.mp gx_c9 q hq, List.forall_mem_cons.mpr ⟨fun q hq => List.all_eq_true.mp gx_c10 q hq, List.forall_mem_cons.mpr ⟨fun q hq => List.all_eq_true.mp gx_c11 q hq, List.forall_mem_cons.mpr ⟨fun q hq => List.all_eq_true.mp gx_c12 q hq, List.forall_mem_cons.mpr ⟨fun q hq => List.all_eq_true.mp gx_c13 q hq, fun _ h => absurd h List.not_mem_nil⟩⟩⟩⟩⟩⟩⟩⟩⟩⟩⟩⟩⟩⟩
set_option maxRecDepth 100000 in
theorem gx_kc : ∀ (ci : Nat) (C : String) (T : u_T) (N : Nat), gx_cl[ci]? = some (C, T, N) → am_chkC lw_tbl (gx_ty ci) C T N (gx_fps.getD ci []) = true := by
  intro ci C T N h
  match ci, h with
  | 0, h => cases h; exact gx_k0
  | 1, h => cases h; exact gx_k1
  | 2, h => cases h; exact gx_k2
  | 3, h => cases h; exact gx_k3
  | 4, h => cases h; exact gx_k4
  | 5, h => cases h; exact gx_k5
  | 6, h => cases h; exact gx_k6
  | 7, h => cases h; exact gx_k7
  | 8, h => cases h; exact gx_k8
  | 9, h => cases h; exact gx_k9
  | 10, h => cases h; exact gx_k10
  | 11, h => cases h; exact gx_k11
  | 12, h => cases h; exact gx_k12
  | k + 13, h => simp [gx_cl] at h
set_option maxHeartbeats 4000000 in
set_option maxRecDepth 100000 in
theorem gx_dec : ∀ M ∈ gx_ms, M.2.2.2.2.2.all (fun q => decide (decode M.2.1 q.1 = .ok q.2)) = true := List.forall_mem_cons.mpr ⟨gx_d0, List.forall_mem_cons.mpr ⟨gx_d1, List.forall_mem_cons.mpr ⟨gx_d2, List.forall_mem_cons.mpr ⟨gx_d3, List.forall_mem_cons.mpr ⟨gx_d4, List.forall_mem_cons.mpr ⟨gx_d5, List.forall_mem_cons.mpr ⟨gx_d6, List.forall_mem_cons.mpr ⟨gx_d7, List.forall_mem_cons.mpr ⟨gx_d8, List.forall_mem_cons.mpr ⟨gx_d9, List.forall_mem_cons.mpr ⟨gx_d10, List.forall_mem_cons.mpr ⟨gx_d11, List.forall_mem_cons.mpr ⟨gx_d12, List.forall_mem_cons.mpr ⟨gx_d13, List.forall_mem_cons.mpr ⟨gx_d14, List.forall_mem_cons.mpr ⟨gx_d15, List.forall_mem_cons.mpr ⟨gx_d16, List.forall_mem_cons.mpr ⟨gx_d17, List.forall_mem_cons.mpr ⟨gx_d18, List.forall_mem_cons.mpr ⟨gx_d19, List.forall_mem_cons.mpr ⟨gx_d20, List.forall_mem_cons.mpr ⟨gx_d21, List.forall_mem_cons.mpr ⟨gx_d22, List.forall_mem_cons.mpr ⟨gx_d23, List.forall_mem_cons.mpr ⟨gx_d24, List.forall_mem_cons.mpr ⟨gx_d25, List.forall_mem_cons.mpr ⟨gx_d26, List.forall_mem_cons.mpr ⟨gx_d27, List.forall_mem_cons.mpr ⟨gx_d28, List.forall_mem_cons.mpr ⟨gx_d29, List.forall_mem_cons.mpr ⟨gx_d30, List.forall_mem_cons.mpr ⟨gx_d31, List.forall_mem_cons.mpr ⟨gx_d32, List.forall_mem_cons.mpr ⟨gx_d33, List.forall_mem_cons.mpr ⟨gx_d34, List.forall_mem_cons.mpr ⟨gx_d35, List.forall_mem_cons.mpr ⟨gx_d36, List.forall_mem_cons.mpr ⟨gx_d37, List.forall_mem_cons.mpr ⟨gx_d38, List.forall_mem_cons.mpr ⟨gx_d39, List.forall_mem_cons.mpr ⟨gx_d40, List.forall_mem_cons.mpr ⟨gx_d41, List.forall_mem_cons.mpr ⟨gx_d42, List.forall_mem_cons.mpr ⟨gx_d43, List.forall_mem_cons.mpr ⟨gx_d44, List.forall_mem_cons.mpr ⟨gx_d45, List.forall_mem_cons.mpr ⟨gx_d46, List.forall_mem_cons.mpr ⟨gx_d47, List.forall_mem_cons.mpr ⟨gx_d48, List.forall_mem_cons.mpr ⟨gx_d49, List.forall_mem_cons.mpr ⟨gx_d50, List.forall_mem_cons.mpr ⟨gx_d51, List.forall_mem_cons.mpr ⟨gx_d52, List.forall_mem_cons.mpr ⟨gx_d53, List.forall_mem_cons.mpr ⟨gx_d54, List.forall_mem_cons.mpr ⟨gx_d55, List.forall_mem_cons.mpr ⟨gx_d56, List.forall_mem_cons.mpr ⟨gx_d57, List.forall_mem_cons.mpr ⟨gx_d58, List.forall_mem_cons.mpr ⟨gx_d59, List.forall_mem_cons.mpr ⟨gx_d60, List.forall_mem_cons.mpr ⟨gx_d61, List.forall_mem_cons.mpr ⟨gx_d62, List.forall_mem_cons.mpr ⟨gx_d63, List.forall_mem_cons.mpr ⟨gx_d64, List.forall_mem_cons.mpr ⟨gx_d65, List.forall_mem_cons.mpr ⟨gx_d66, List.forall_mem_cons.mpr ⟨gx_d67, List.forall_mem_cons.mpr ⟨gx_d68, List.forall_mem_cons.mpr ⟨gx_d69, List.forall_mem_cons.mpr ⟨gx_d70, List.forall_mem_cons.mpr ⟨gx_d71, List.forall_mem_cons.mpr ⟨gx_d72, List.forall_mem_cons.mpr ⟨gx_d73, List.forall_mem_cons.mpr ⟨gx_d74, List.forall_mem_cons.mpr ⟨gx_d75, List.forall_mem_cons.mpr ⟨gx_d76, List.forall_mem_cons.mpr ⟨gx_d77, List.forall_mem_cons.mpr ⟨gx_d78, List.forall_mem_cons.mpr ⟨gx_d79, List.forall_mem_cons.mpr ⟨gx_d80, List.forall_mem_cons.mpr ⟨gx_d81, List.forall_mem_cons.mpr ⟨gx_d82, List.forall_mem_cons.mpr ⟨gx_d83, List.forall_mem_cons.mpr ⟨gx_d84, List.forall_mem_cons.mpr ⟨gx_d85, List.forall_mem_cons.mpr ⟨gx_d86, List.forall_mem_cons.mpr ⟨gx_d87, List.forall_mem_cons.mpr ⟨gx_d88, List.forall_mem_cons.mpr ⟨gx_d89, List.forall_mem_cons.mpr ⟨gx_d90, List.forall_mem_cons.mpr ⟨gx_d91, List.forall_mem_cons.mpr ⟨gx_d92, List.forall_mem_cons.mpr ⟨gx_d93, List.forall_mem_cons.mpr ⟨gx_d94, List.forall_mem_cons.mpr ⟨gx_d95, List.forall_mem_cons.mpr ⟨gx_d96, List.forall_mem_cons.mpr ⟨gx_d97, List.forall_mem_cons.mpr ⟨gx_d98, List.forall_mem_cons.mpr ⟨gx_d99, List.forall_mem_cons.mpr ⟨gx_d100, List.forall_mem_cons.mpr ⟨gx_d101, List.forall_mem_cons.mpr ⟨gx_d102, List.forall_mem_cons.mpr ⟨gx_d103, List.forall_mem_cons.mpr ⟨gx_d104, List.forall_mem_cons.mpr ⟨gx_d105, List.forall_mem_cons.mpr ⟨gx_d106, List.forall_mem_cons.mpr ⟨gx_d107, List.forall_mem_cons.mpr ⟨gx_d108, List.forall_mem_cons.mpr ⟨gx_d109, List.forall_mem_cons.mpr ⟨gx_d110, List.forall_mem_cons.mpr ⟨gx_d111, List.forall_mem_cons.mpr ⟨gx_d112, List.forall_mem_cons.mpr ⟨gx_d113, List.forall_mem_cons.mpr ⟨gx_d114, List.forall_mem_cons.mpr ⟨gx_d115, List.forall_mem_cons.mpr ⟨gx_d116, List.forall_mem_cons.mpr ⟨gx_d117, List.forall_mem_cons.mpr ⟨gx_d118, List.forall_mem_cons.mpr ⟨gx_d119, List.forall_mem_cons.mpr ⟨gx_d120, List.forall_mem_cons.mpr ⟨gx_d121, List.forall_mem_cons.mpr ⟨gx_d122, List.forall_mem_cons.mpr ⟨gx_d123, List.forall_mem_cons.mpr ⟨gx_d124, List.forall_mem_cons.mpr ⟨gx_d125, List.forall_mem_cons.mpr ⟨gx_d126, List.forall_mem_cons.mpr ⟨gx_d127, List.forall_mem_cons.mpr ⟨gx_d128, List.forall_mem_cons.mpr ⟨gx_d129, List.forall_mem_cons.mpr ⟨gx_d130, List.forall_mem_cons.mpr ⟨gx_d131, List.forall_mem_cons.mpr ⟨gx_d132, List.forall_mem_cons.mpr ⟨gx_d133, List.forall_mem_cons.mpr ⟨gx_d134, List.forall_mem_cons.mpr ⟨gx_d135, List.forall_mem_cons.mpr ⟨gx_d136, List.forall_mem_cons.mpr ⟨gx_d137, List.forall_mem_cons.mpr ⟨gx_d138, List.forall_mem_cons.mpr ⟨gx_d139, List.forall_mem_cons.mpr ⟨gx_d140, List.forall_mem_cons.mpr ⟨gx_d141, List.forall_mem_cons.mpr ⟨gx_d142, List.forall_mem_cons.mpr ⟨gx_d143, List.forall_mem_cons.mpr ⟨gx_d144, List.forall_mem_cons.mpr ⟨gx_d145, List.forall_mem_cons.mpr ⟨gx_d146, List.forall_mem_cons.mpr ⟨gx_d147, List.forall_mem_cons.mpr ⟨gx_d148, List.forall_mem_cons.mpr ⟨gx_d149, List.forall_mem_cons.mpr ⟨gx_d150, List.forall_mem_cons.mpr ⟨gx_d151, List.forall_mem_cons.mpr ⟨gx_d152, List.forall_mem_cons.mpr ⟨gx_d153, List.forall_mem_cons.mpr ⟨gx_d154, List.forall_mem_cons.mpr ⟨gx_d155, List.forall_mem_cons.mpr ⟨gx_d156, List.forall_mem_cons.mpr ⟨gx_d157, List.forall_mem_cons.mpr ⟨gx_d158, List.forall_mem_cons.mpr ⟨gx_d159, List.forall_mem_cons.mpr ⟨gx_d160, List.forall_mem_cons.mpr ⟨gx_d161, List.forall_mem_cons.mpr ⟨gx_d162, List.forall_mem_cons.mpr ⟨gx_d163, List.forall_mem_cons.mpr ⟨gx_d164, List.forall_mem_cons.mpr ⟨gx_d165, List.forall_mem_cons.mpr ⟨gx_d166, List.forall_mem_cons.mpr ⟨gx_d167, List.forall_mem_cons.mpr ⟨gx_d168, List.forall_mem_cons.mpr ⟨gx_d169, List.forall_mem_cons.mpr ⟨gx_d170, List.forall_mem_cons.mpr ⟨gx_d171, List.forall_mem_cons.mpr ⟨gx_d172, List.forall_mem_cons.mpr ⟨gx_d173, List.forall_mem_cons.mpr ⟨gx_d174, List.forall_mem_cons.mpr ⟨gx_d175, List.forall_mem_cons.mpr ⟨gx_d176, List.forall_mem_cons.mpr ⟨gx_d177, List.forall_mem_cons.mpr ⟨gx_d178, List.forall_mem_cons.mpr ⟨gx_d179, List.forall_mem_cons.mpr ⟨gx_d180, List.forall_mem_cons.mpr ⟨gx_d181, List.forall_mem_cons.mpr ⟨gx_d182, List.forall_mem_cons.mpr ⟨gx_d183, List.forall_mem_cons.mpr ⟨gx_d184, List.forall_mem_cons.mpr ⟨gx_d185, List.forall_mem_cons.mpr ⟨gx_d186, List.forall_mem_cons.mpr ⟨gx_d187, List.forall_mem_cons.mpr ⟨gx_d188, List.forall_mem_cons.mpr ⟨gx_d189, List.forall_mem_cons.mpr ⟨gx_d190, List.forall_mem_cons.mpr ⟨gx_d191, List.forall_mem_cons.mpr ⟨gx_d192, List.forall_mem_cons.mpr ⟨gx_d193, List.forall_mem_cons.mpr ⟨gx_d194, List.forall_mem_cons.mpr ⟨gx_d195, List.forall_mem_cons.mpr ⟨gx_d196, List.forall_mem_cons.mpr ⟨gx_d197, List.forall_mem_cons.mpr ⟨gx_d198, List.forall_mem_cons.mpr ⟨gx_d199, List.forall_mem_cons.mpr ⟨gx_d200, List.forall_mem_cons.mpr ⟨gx_d201, List.forall_mem_cons.mpr ⟨gx_d202, List.forall_mem_cons.mpr ⟨gx_d203, List.forall_mem_cons.mpr ⟨gx_d204, List.forall_mem_cons.mpr ⟨gx_d205, List.forall_mem_cons.mpr ⟨gx_d206, List.forall_mem_cons.mpr ⟨gx_d207, List.forall_mem_cons.mpr ⟨gx_d208, fun _ h => absurd h List.not_mem_nil⟩⟩⟩⟩⟩⟩⟩⟩⟩⟩⟩⟩⟩⟩⟩⟩⟩⟩⟩⟩⟩⟩⟩⟩⟩⟩⟩⟩⟩⟩⟩⟩⟩⟩⟩⟩⟩⟩⟩⟩⟩⟩⟩⟩⟩⟩⟩⟩⟩⟩⟩⟩⟩⟩⟩⟩⟩⟩⟩⟩⟩⟩⟩⟩⟩⟩⟩⟩⟩⟩⟩⟩⟩⟩⟩⟩⟩⟩⟩⟩⟩⟩⟩⟩⟩⟩⟩⟩⟩⟩⟩⟩⟩⟩⟩⟩⟩⟩⟩⟩⟩⟩⟩⟩⟩⟩⟩⟩⟩⟩⟩⟩⟩⟩⟩⟩⟩⟩⟩⟩⟩⟩⟩⟩⟩⟩⟩⟩⟩⟩⟩⟩⟩⟩⟩⟩⟩⟩⟩⟩⟩⟩⟩⟩⟩⟩⟩⟩⟩⟩⟩⟩⟩⟩⟩⟩⟩⟩⟩⟩⟩⟩⟩⟩⟩⟩⟩⟩⟩⟩⟩⟩⟩⟩⟩⟩⟩⟩⟩⟩⟩⟩⟩⟩⟩⟩⟩⟩⟩⟩⟩⟩⟩⟩⟩⟩⟩⟩⟩⟩⟩⟩⟩⟩⟩⟩⟩⟩⟩
set_option maxRecDepth 100000 in
theorem gx_aty : ∀ aty, newarray.typeOf aty ∈ gx_ats → Cond.arrayClass (newarray.typeOf aty) ∈ lw_tbl.filter goodWord := by
  intro aty h
  cases aty
  all_goals first | (exact absurd h (by decide +kernel)) | (exact List.mem_filter.mpr ⟨by decide +kernel, by decide +kernel⟩)
theorem gx_ok : am_ok gx_G (lw_tbl.filter goodWord) := am_ok_of gx_co gx_kc (by decide +kernel) gx_aty
theorem gx_okm : am_okm gx_G (lw_tbl.filter goodWord) (lw_tbl.filter am_isNest) := am_okm_of gx_co gx_cM gx_dec gx_wm
end
section
/-! the world at a start -/
theorem am_arrP {args : Array Value} {s : State} {ty : FieldType} (hp : ∀ C, ty ≠ .object C) (h : (Cond.arrayClass ty).before args s = true) : ∃ cA : ClassId, ArrOfT s cA ty ∧ va_RA s cA ty := by
  obtain ⟨cA, kA, comp, h1, h2, h3⟩ := Cond.arrayClass_spec h
  refine ⟨cA, fun n z => ⟨fun k h => (by cases h), kA, h2, comp, h3⟩, ?_⟩
  cases ty with
  | object C => exact absurd rfl (hp C)
  | _ => exact h1
theorem am_arrQ {args : Array Value} {s : State} {C : String} (h : (Cond.arrayOver (.object C)).before args s = true) : ∃ cA : ClassId, ArrOfT s cA (.object C) ∧ va_RA s cA (.object C) := by
  obtain ⟨comp, cA, kA, h1, -, h3, h4, h5⟩ := Cond.arrayOver_spec h
  exact ⟨cA, fun n z => ⟨fun k h => (by cases h), kA, h3, comp, h4⟩, kA, comp, h3, h4, h1, h5⟩
theorem am_caOf {s : State} {ats : List FieldType} (h : ∀ ty ∈ ats, ∃ cA : ClassId, ArrOfT s cA ty ∧ va_RA s cA ty) : ∃ ca : FieldType → ClassId, ∀ ty ∈ ats, ArrOfT s (ca ty) ty ∧ va_RA s (ca ty) ty := by
  have h' : ∀ ty, ∃ cA : ClassId, ty ∈ ats → ArrOfT s cA ty ∧ va_RA s cA ty := by
    intro ty
    by_cases hm : ty ∈ ats
    · obtain ⟨cA, hc⟩ := h ty hm
      exact ⟨cA, fun _ => hc⟩
    · exact ⟨0, fun q => absurd q hm⟩
  exact ⟨fun ty => Classical.choose (h' ty), fun ty hm => Classical.choose_spec (h' ty) hm⟩
theorem am_DOf {s : State} {cl : List vw_C} (h : ∀ (ci : Nat) (q : vw_C), cl[ci]? = some q → ∃ (c : ClassId) (i : Nat → Nat), u_Kn s q.1 q.2.1 q.2.2 c i) : ∃ D : va_G, ∀ (ci : Nat) (q : vw_C), cl[ci]? = some q → u_Kn s q.1 q.2.1 q.2.2 (D.1 ci) (D.2 ci) := by
  have h' : ∀ ci : Nat, ∃ y : ClassId × (Nat → Nat), ∀ q : vw_C, cl[ci]? = some q → u_Kn s q.1 q.2.1 q.2.2 y.1 y.2 := by
    intro ci
    cases hc : cl[ci]? with
    | none => exact ⟨(0, fun _ => 0), fun q hq => by cases hq⟩
    | some q =>
      obtain ⟨c, i, hk⟩ := h ci q hc
      exact ⟨(c, i), fun q' hq => by cases hq; exact hk⟩
  exact ⟨(fun ci => (Classical.choose (h' ci)).1, fun ci => (Classical.choose (h' ci)).2), fun ci q hq => Classical.choose_spec (h' ci) q hq⟩
/-- from the tables' words: the world's classes and arrays, as the machine has them -/
theorem am_start {cl : List vw_C} {ty : Nat → Nat → FieldType} {lk : String → Nat → Option am_K} {ms : List am_M} {ats : List FieldType} {B : List Cond} {args : Array Value} {s : State} (hts : ∀ w ∈ B, w.before args s = true) (hok : am_ok (cl, ty, lk, ms, ats) (B.filter goodWord)) (hin : ∀ (ci : Nat) (C : String) (T : u_T) (N : Nat), cl[ci]? = some (C, T, N) → Cond.instantiable C N ∈ B) (hat : ∀ t ∈ ats, (∀ C, t ≠ .object C) ∧ Cond.arrayClass t ∈ B ∨ ∃ C, t = .object C ∧ Cond.arrayOver (.object C) ∈ B) :
    ∃ (D : va_G) (ca : FieldType → ClassId), am_env2 (cl, ty, lk, ms, ats) (B.filter am_isNest) D ca s := by
  obtain ⟨ca, hca⟩ := am_caOf (s := s) (ats := ats) (fun t ht => by
    rcases hat t ht with ⟨h1, h2⟩ | ⟨C, rfl, h2⟩
    · exact am_arrP h1 (hts _ h2)
    · exact am_arrQ (hts _ h2))
  obtain ⟨D, hD⟩ := am_DOf (s := s) (cl := cl) (fun ci q hq => by
    obtain ⟨C, T, N⟩ := q
    exact u_known (fun w hw => hts w ((List.mem_filter.mp hw).1)) (hok.2.1 ci C T N hq).1 (hts _ (hin ci C T N hq)))
  refine ⟨D, ca, ⟨⟨hD, fun k q hk => ?_⟩, fun C hC => ?_⟩, fun w hw => ?_⟩
  · obtain ⟨t, ht, rfl⟩ := List.mem_map.mp (List.mem_of_getElem? hk)
    exact hca t ht
  · rcases hat _ hC with ⟨h1, -⟩ | ⟨C', hC', h2⟩
    · exact absurd rfl (h1 C)
    · cases hC'; exact va_AO.of (hts _ h2)
  · have h1 := List.mem_filter.mp hw
    refine va_Nw.of ?_ (hts w h1.1)
    have h2 := h1.2
    unfold am_isNest at h2
    split at h2
    · rfl
    · cases h2
end
section
/-! THE CLAIM OUT OF ONE WALK OF THE LAW'S BODY. Your part is whole_start (and what it stands on); all else here is the same for every law, but numbers. -/
def R_law : String := "GrammarStreamLaw"
def lw_P (b : Addr) (xs : List Int32) (args : Array Value) (s : State) : Prop := args = #[.ref b] ∧ s.IntsAt b xs ∧ xs.length ≤ 4 ∧ (Jvm.Cond.and given_1 narrow_1).before args s = true
def lw_Q (_ : Array Value) (s : State) (o : Outcome) (t : State) : Prop := o = .returned (some (.int 1)) ∧ Framed s o t [] 600000 7302249
def lw_Z (below : List Frame) (a : Array Value) (s : State) : State → Prop := fun t => ∃ o, t.status = .running ∧ Ended t below o ∧ lw_Q a s o t
/-- the law's own end, with 1 on the stack, nothing written that was there before, its room as the claim has it -/
theorem lw_ret {p : Program} {l : Launch} {e : Env} {s : State} {m : MethodId} {below : List Frame} {meth : Method} {c : Code} {b : Nat} (hx : p.tables.exec = Jvm.exec) (hb : c.code = code) (hr : meth.sig.returnType = ret) (hlocks : meth.locks = false) {pc : Nat} {H : Heap} {ls : Array Slot} (hdg : decode code pc = .ok (.ireturn, 1)) : W p l e room_1 s m #[Value.ref b] below meth c H [] 600000 7302249 (lw_Z below #[Value.ref b] s) (F0 m pc ls [.int 1]) := by
  intro T hT X
  obtain ⟨fs, hret, hrun, hended, hW, hframe⟩ := X.leave (v := some (.int 1)) (hlocks := hlocks) (fun h => by rw [hr] at h; cases h)
  have hmeth' : T.vm.method? m = some meth := X.method'
  refine ⟨T.setFrames fs, ?_, .returned (some (.int 1)), hrun, hended, rfl, ⟨_, rfl⟩, hW, hframe⟩
  jvm_step X.here [X.here.top, hx, hb, hdg, hmeth', hr, ret, narrow_b1]
  (try refine ⟨rfl, ?_⟩); (try refine ⟨rfl, ?_⟩)
  first | (intro acts; rw [hret _ acts rfl rfl rfl]) | rw [hret _ _ rfl rfl rfl]
  exact Steps.refl _
/-- what holds at the law's entry: the machine, the code, the tables' words (any of lw_tbl by 'hts w (by decide +kernel)'), the script of L ints xs at the cell b, what the Statement gives of the start (any of its parts by flat_of_before) -/
def lw_At (p : Program) (s : State) (m : MethodId) (meth : Method) (c : Code) (b L : Nat) (xs : Nat → Int32) : Prop :=
  p.tables.exec = Jvm.exec ∧ c.code = code ∧ meth.sig.returnType = ret ∧ c.maxLocals = 4 ∧ s.vm.findClass R_law = some m.cls ∧ (∀ w ∈ lw_tbl, w.before #[Value.ref b] s = true) ∧ va_X b L xs s s.heap ∧ b < s.heap.size ∧ meth.locks = false ∧ (Jvm.Cond.and given_1 narrow_1).before #[Value.ref b] s = true
abbrev lw_cells : Nat := 600000
abbrev lw_slots : Nat := 7302249
end
section
/-! the law's own body, on the abstract machine: it reads the script too -/
def am_stS (b L : Nat) (xs : Nat → Int32) (i : Instr) (n : Nat) (st : List Value) : Option (List Value) := match i with
  | .iaload => match st with
    | .int j :: .retAddr a :: r => if a = b ∧ n = 1 ∧ am_inb j L = true then some (.int (xs j.toNatClampNeg) :: r) else none
    | _ => none
  | .arraylength => match st with
    | .retAddr a :: r => if a = b ∧ n = 1 then some (.int (Int32.ofNat L) :: r) else none
    | _ => none
  | _ => none
def am_execL (G : am_G) (call : Nat → List Value → am_H → Option (Option Value × am_H)) (M : am_M) (b L : Nat) (xs : Nat → Int32) : Nat → Nat → am_L → List Value → am_H → Option (Option Value × am_H)
  | 0, _, _, _, _ => none
  | f + 1, pc, lv, st, H => match am_row M pc with
    | some (i, n) => match am_stS b L xs i n st with
      | some st' => am_execL G call M b L xs f (pc + n) lv st' H
      | none => match am_one G call M i n pc lv st H with
        | some (.inl (pc', lv', st', H')) => am_execL G call M b L xs f pc' lv' st' H'
        | some (.inr r) => some r
        | none => none
    | none => none
theorem am_wS {b L : Nat} {xs : Nat → Int32} {i : Instr} {n N : Nat} {st st' : List Value} (h : am_stS b L xs i n st = some st') (hs : am_ws N st) : am_ws N st' := by
  cases i with
  | iaload =>
    dsimp only [am_stS] at h
    split at h
    · split at h
      · cases h; exact am_ws_cons.mpr ⟨am_vw_i _ _, (am_ws_cons.mp (am_ws_cons.mp hs).2).2⟩
      · cases h
    · cases h
  | arraylength =>
    dsimp only [am_stS] at h
    split at h
    · split at h
      · cases h; exact am_ws_cons.mpr ⟨am_vw_i _ _, (am_ws_cons.mp hs).2⟩
      · cases h
    · cases h
  | _ => cases h
theorem am_wexecL {G : am_G} {call : Nat → List Value → am_H → Option (Option Value × am_H)} (hk : am_keeps call) {M : am_M} {b L : Nat} {xs : Nat → Int32} : ∀ (f pc : Nat) (lv : am_L) (st : List Value) (H H' : am_H) (r : Option Value), am_execL G call M b L xs f pc lv st H = some (r, H') → am_hw H → am_wl H.length lv → am_ws H.length st → am_gro H H' := by
  intro f
  induction f with
  | zero => intro pc lv st H H' r h; cases h
  | succ f ih =>
    intro pc lv st H H' r h hw hl hs
    unfold am_execL at h
    split at h
    · rename_i i n hrow
      split at h
      · rename_i st1 hS
        exact ih _ _ _ _ _ _ h hw hl (am_wS hS hs)
      · split at h
        · rename_i pc1 lv1 st1 H1 h1
          unfold am_one at h1
          split at h1
          · rename_i hA
            cases h1
            obtain ⟨a1, a2⟩ := am_wA hA hl hs
            exact ih _ _ _ _ _ _ h hw a1 a2
          · split at h1
            · rename_i hB
              cases h1
              exact ih _ _ _ _ _ _ h hw hl (am_wB hB hs)
            · split at h1
              · rename_i hC
                cases h1
                obtain ⟨a1, a2⟩ := am_wC hC hw hs
                exact am_gro_tr a1 (ih _ _ _ _ _ _ h a1.1 (am_wl_mono a1.2.1 hl) a2)
              · split at h1
                · rename_i hD
                  cases h1
                  obtain ⟨a1, a2⟩ := am_wD hk hD hw hs
                  exact am_gro_tr a1 (ih _ _ _ _ _ _ h a1.1 (am_wl_mono a1.2.1 hl) a2)
                · split at h1
                  · cases h1
                  · cases h1
        · rename_i h1
          cases h
          unfold am_one at h1
          split at h1
          · cases h1
          · split at h1
            · cases h1
            · split at h1
              · cases h1
              · split at h1
                · cases h1
                · split at h1
                  · rename_i hR
                    cases h1
                    exact am_gro_rf hw
                  · cases h1
        · cases h
    · cases h
theorem am_ret1 {ret : Option FieldType} {i : Instr} {n : Nat} {st : List Value} {v : Int32} (h : am_ret ret i n st = some (some (.int v))) : i = .ireturn ∧ n = 1 ∧ st = [.int v] := by
  cases i with
  | return_ =>
    dsimp only [am_ret] at h
    split at h
    · split at h <;> cases h
    · cases h
  | ireturn =>
    dsimp only [am_ret] at h
    split at h
    · split at h
      · rename_i hc; cases h; exact ⟨rfl, hc.1, rfl⟩
      · cases h
    · cases h
  | lreturn =>
    dsimp only [am_ret] at h
    split at h
    · split at h <;> cases h
    · cases h
  | areturn =>
    dsimp only [am_ret] at h
    split at h
    · split at h <;> cases h
    · split at h <;> cases h
    · cases h
  | _ => cases h
section AML
variable {p : Program} {l : Launch} {e : Env} {s : State} {m : MethodId} {below : List Frame} {meth : Method} {c : Code} {G : am_G} {Ts nst : List Cond} {D : va_G} {ca : FieldType → ClassId}
set_option maxHeartbeats 4000000 in
theorem am_sxL {fuel d b L : Nat} {xs : Nat → Int32} {M : am_M} {AH' : am_H} (hsnd : am_snd l G Ts nst D ca fuel d) (hok : am_ok G Ts) (hm : am_okm G Ts nst) (hrows : ∀ q ∈ M.2.2.2.2.2, decode code q.1 = .ok q.2) (hnI : (M.1.name == "<init>") = false)
    (hx : p.tables.exec = Jvm.exec) (hb : c.code = code) (hml : c.maxLocals = M.2.2.1) (hr : meth.sig.returnType = ret) (hlocks : meth.locks = false) (hown : s.vm.findClass M.1.cls = some m.cls) (hts : ∀ w ∈ Ts, w.before #[Value.ref b] s = true) (henv : am_env2 G nst D ca s) (hX : va_X b L xs s s.heap) (hbl : b < s.heap.size) (hRf : d + 1 ≤ room_1.frames) (hRl : (d + 1) * 64 ≤ room_1.locals) (hc1 : AH'.length ≤ lw_cells) (hc2 : am_sz AH' ≤ lw_slots) :
    ∀ (f pc : Nat) (lv : am_L) (st : List Value) (AH : am_H) (H : Heap) (ls : Array Slot) (locs : List Loc) (ad : Nat → Nat), am_execL G (am_call G fuel d) M b L xs f pc lv st AH = some (some (.int 1), AH') → am_hw AH → am_wl AH.length lv → am_ws AH.length st → lv_has ls M.2.2.1 (lv.map (am_q ad)) → va_P D G.1 (am_w ad ca AH) H → va_D (fun q : Nat => s.heap.size ≤ q) (am_w ad ca AH) → va_S (fun q : Nat => s.heap.size ≤ q) s.heap H locs →
      W p l e room_1 s m #[Value.ref b] below meth c H locs AH.length (am_sz AH) (lw_Z below #[Value.ref b] s) (F0 m pc ls (st.map (am_v ad))) := by
  have hkeep := am_wcall G fuel d
  have hA : ∀ q : Nat, s.heap.size ≤ q → (fun q : Nat => s.heap.size ≤ q) q := fun _ h => h
  have hbA : ¬ (fun q : Nat => s.heap.size ≤ q) b := Nat.not_le.mpr hbl
  have hcR : room_1.cells = lw_cells := rfl
  have hsR : room_1.slots = lw_slots := rfl
  intro f
  induction f with
  | zero => intro pc lv st AH H ls locs ad h; cases h
  | succ f ih =>
    intro pc lv st AH H ls locs ad h hw hwl hws hl hP hD hS
    unfold am_execL at h
    split at h
    · rename_i i n hrow
      have hdg := hrows (pc, (i, n)) (am_row_in hrow)
      dsimp only at hdg
      split at h
      · rename_i st1 hS1
        have k0 := ih _ _ _ _ _ _ _ _ h hw hwl (am_wS hS1 hws) hl hP hD hS
        cases i with
        | iaload =>
          dsimp only [am_stS] at hS1
          split at hS1
          · split at hS1
            · rename_i hc
              obtain ⟨rfl, rfl, hj⟩ := hc
              cases hS1
              exact va_sld hx hb hX hbl hbA hS (am_inb_in hj) hdg k0
            · cases hS1
          · cases hS1
        | arraylength =>
          dsimp only [am_stS] at hS1
          split at hS1
          · split at hS1
            · rename_i hc
              obtain ⟨rfl, rfl⟩ := hc
              cases hS1
              exact va_slen hx hb hX hbl hbA hS hdg k0
            · cases hS1
          · cases hS1
        | _ => cases hS1
      · split at h
        · rename_i pc1 lv1 st1 AH1 h1
          unfold am_one at h1
          split at h1
          · rename_i hA1
            cases h1
            obtain ⟨a1, a2⟩ := am_wA hA1 hwl hws
            exact am_sA hA1 hx hb hdg hl (fun ls' hl' => ih _ _ _ _ _ _ _ _ h hw a1 a2 hl' hP hD hS)
          · split at h1
            · rename_i hB1
              cases h1
              exact am_sB hB1 hx hb hdg (ih _ _ _ _ _ _ _ _ h hw hwl (am_wB hB1 hws) hl hP hD hS)
            · split at h1
              · rename_i hC1
                cases h1
                obtain ⟨a1, a2⟩ := am_wC hC1 hw hws
                have g1 := am_wexecL hkeep _ _ _ _ _ _ _ h a1.1 (am_wl_mono a1.2.1 hwl) a2
                have x1 := a1.2.1
                have x2 := a1.2.2
                have x3 := g1.2.1
                have x4 := g1.2.2
                refine am_sC hok hC1 hx hb hdg hown hts (fun hi => by rw [hnI] at hi; cases hi) henv.1 hP hD hS hA hw hws (by omega) (by omega) (fun ad' H1 locs1 hag1 hP1 hD1 hS1 => ?_)
                have k0 := ih _ _ _ _ _ _ _ _ h a1.1 (am_wl_mono a1.2.1 hwl) a2 (by rw [am_lv_agree hag1 hwl]; exact hl) hP1 hD1 hS1
                rw [show AH.length + (AH1.length - AH.length) = AH1.length by omega, show am_sz AH + (am_sz AH1 - am_sz AH) = am_sz AH1 by omega]
                exact k0
              · split at h1
                · rename_i hD1
                  cases h1
                  obtain ⟨a1, a2⟩ := am_wD hkeep hD1 hw hws
                  have g1 := am_wexecL hkeep _ _ _ _ _ _ _ h a1.1 (am_wl_mono a1.2.1 hwl) a2
                  have x1 := a1.2.1
                  have x2 := a1.2.2
                  have x3 := g1.2.1
                  have x4 := g1.2.2
                  refine am_sD hsnd hok hm hD1 hx hb hml hl.1 hdg hown hts henv hP hD hS hA hw hws (by omega) (by omega) hRf hRl (fun ad' H1 locs1 hag1 hP1 hD1 hS1 => ?_)
                  have k0 := ih _ _ _ _ _ _ _ _ h a1.1 (am_wl_mono a1.2.1 hwl) a2 (by rw [am_lv_agree hag1 hwl]; exact hl) hP1 hD1 hS1
                  rw [show AH.length + (AH1.length - AH.length) = AH1.length by omega, show am_sz AH + (am_sz AH1 - am_sz AH) = am_sz AH1 by omega]
                  exact k0
                · split at h1
                  · cases h1
                  · cases h1
        · rename_i h1
          cases h
          unfold am_one at h1
          split at h1
          · cases h1
          · split at h1
            · cases h1
            · split at h1
              · cases h1
              · split at h1
                · cases h1
                · split at h1
                  · rename_i hR
                    cases h1
                    obtain ⟨rfl, rfl, rfl⟩ := am_ret1 hR
                    refine va_forget (fun q hq => hS.2.2 q hq) ?_
                    refine W.widen (k := lw_cells) (n := lw_slots) hc1 hc2 ?_
                    exact lw_ret hx hb hr hlocks hdg
                  · cases h1
        · cases h
    · cases h
end AML
end
section
/-! a logic of runs: what holds for all fuel from some on -/
def am_le (call call' : Nat → List Value → am_H → Option (Option Value × am_H)) : Prop := ∀ (j : Nat) (as : List Value) (H : am_H) (r : Option Value × am_H), call j as H = some r → call' j as H = some r
theorem am_out_mono {r : List Value} {x x' : Option (Option Value × am_H)} {y : List Value × am_H} (h : am_out r x = some y) (hx : ∀ z, x = some z → x' = some z) : am_out r x' = some y := by
  cases x with
  | none => cases h
  | some z => rw [hx z rfl]; exact h
theorem am_cv_mono {G : am_G} {call call' : Nat → List Value → am_H → Option (Option Value × am_H)} (hle : am_le call call') {j n : Nat} {chk : Bool} {st : List Value} {H : am_H} {y : List Value × am_H} (h : am_cv G call j n chk st H = some y) : am_cv G call' j n chk st H = some y := by
  unfold am_cv at h ⊢
  cases hM : G.2.2.2.1[j]? with
  | none => rw [hM] at h; cases h
  | some M =>
    rw [hM] at h
    dsimp only at h ⊢
    cases hd : st.drop M.2.2.2.2.1 with
    | nil => rw [hd] at h; cases h
    | cons v r =>
      rw [hd] at h
      cases v with
      | ref b =>
        dsimp only at h ⊢
        split at h
        · rename_i hc; rw [if_pos hc]; exact am_out_mono h (fun z hz => hle _ _ _ _ hz)
        · cases h
      | _ => cases h
theorem am_cs_mono {G : am_G} {call call' : Nat → List Value → am_H → Option (Option Value × am_H)} (hle : am_le call call') {j n : Nat} {st : List Value} {H : am_H} {y : List Value × am_H} (h : am_cs G call j n st H = some y) : am_cs G call' j n st H = some y := by
  unfold am_cs at h ⊢
  cases hM : G.2.2.2.1[j]? with
  | none => rw [hM] at h; cases h
  | some M =>
    rw [hM] at h
    dsimp only at h ⊢
    split at h
    · rename_i hc; rw [if_pos hc]; exact am_out_mono h (fun z hz => hle _ _ _ _ hz)
    · cases h
set_option maxHeartbeats 4000000 in
theorem am_stD_mono {G : am_G} {call call' : Nat → List Value → am_H → Option (Option Value × am_H)} (hle : am_le call call') {own : String} {i : Instr} {n : Nat} {st : List Value} {H : am_H} {y : List Value × am_H} (h : am_stD G call own i n st H = some y) : am_stD G call' own i n st H = some y := by
  cases i with
  | invokevirtual idx =>
    dsimp only [am_stD] at h ⊢
    split at h
    · exact am_cv_mono hle h
    · cases h
  | invokespecial idx =>
    dsimp only [am_stD] at h ⊢
    split at h
    · exact am_cv_mono hle h
    · exact am_cv_mono hle h
    · exact h
    · cases h
  | invokestatic idx =>
    dsimp only [am_stD] at h ⊢
    split at h
    · exact am_cs_mono hle h
    · exact am_cs_mono hle h
    · exact h
    · exact h
    · exact h
    · cases h
  | _ => cases h
theorem am_stD_ret {G : am_G} {call : Nat → List Value → am_H → Option (Option Value × am_H)} {own : String} {ret : Option FieldType} {i : Instr} {n : Nat} {st : List Value} {H : am_H} {v : Option Value} (h : am_ret ret i n st = some v) : am_stD G call own i n st H = none := by
  cases i with
  | return_ => rfl
  | ireturn => rfl
  | lreturn => rfl
  | areturn => rfl
  | _ => cases h
theorem am_one_mono {G : am_G} {call call' : Nat → List Value → am_H → Option (Option Value × am_H)} (hle : am_le call call') {M : am_M} {i : Instr} {n pc : Nat} {lv : am_L} {st : List Value} {H : am_H} {y : (Nat × am_L × List Value × am_H) ⊕ (Option Value × am_H)} (h : am_one G call M i n pc lv st H = some y) : am_one G call' M i n pc lv st H = some y := by
  unfold am_one at h ⊢
  split at h
  · exact h
  · split at h
    · exact h
    · split at h
      · exact h
      · split at h
        · rename_i hD
          rw [am_stD_mono hle hD]
          exact h
        · split at h
          · rename_i hR
            rw [am_stD_ret hR]
            exact h
          · cases h
theorem am_exec_mono {G : am_G} {call call' : Nat → List Value → am_H → Option (Option Value × am_H)} (hle : am_le call call') {M : am_M} : ∀ (f f' pc : Nat) (lv : am_L) (st : List Value) (H : am_H) (r : Option Value × am_H), f ≤ f' → am_exec G call M f pc lv st H = some r → am_exec G call' M f' pc lv st H = some r := by
  intro f
  induction f with
  | zero => intro f' pc lv st H r _ h; cases h
  | succ f ih =>
    intro f' pc lv st H r hf h
    cases f' with
    | zero => omega
    | succ f' =>
      unfold am_exec at h ⊢
      cases hrow : am_row M pc with
      | none => rw [hrow] at h; cases h
      | some q =>
        obtain ⟨i, n⟩ := q
        rw [hrow] at h
        dsimp only at h ⊢
        cases h1 : am_one G call M i n pc lv st H with
        | none => rw [h1] at h; cases h
        | some y =>
          rw [h1] at h
          rw [am_one_mono hle h1]
          cases y with
          | inl z =>
            obtain ⟨pc1, lv1, st1, H1⟩ := z
            exact ih f' pc1 lv1 st1 H1 r (by omega) h
          | inr z => exact h
theorem am_call_mono {G : am_G} {fuel fuel' : Nat} (hf : fuel ≤ fuel') : ∀ (d d' : Nat), d ≤ d' → am_le (am_call G fuel d) (am_call G fuel' d') := by
  intro d
  induction d with
  | zero => intro d' _ j as H r h; cases h
  | succ d ih =>
    intro d' hd j as H r h
    cases d' with
    | zero => omega
    | succ d' =>
      unfold am_call at h ⊢
      cases hM : G.2.2.2.1[j]? with
      | none => rw [hM] at h; cases h
      | some M =>
        rw [hM] at h
        dsimp only at h ⊢
        split at h
        · rename_i hc
          rw [if_pos hc]
          exact am_exec_mono (ih d' (by omega)) _ _ _ _ _ _ _ hf h
        · cases h
/-- a call's answer and heap, whatever the fuel from some on -/
def am_R (G : am_G) (d j : Nat) (as : List Value) (H : am_H) (r : Option Value) (H' : am_H) : Prop := ∃ N, ∀ fuel, N ≤ fuel → am_call G fuel d j as H = some (r, H')
def am_X (G : am_G) (d : Nat) (M : am_M) (pc : Nat) (lv : am_L) (st : List Value) (H : am_H) (r : Option Value) (H' : am_H) : Prop := ∃ N, ∀ fuel f, N ≤ fuel → N ≤ f → am_exec G (am_call G fuel d) M f pc lv st H = some (r, H')
theorem am_R.of {G : am_G} {fuel d j : Nat} {as : List Value} {H H' : am_H} {r : Option Value} (h : am_call G fuel d j as H = some (r, H')) : am_R G d j as H r H' := ⟨fuel, fun fuel' hf => am_call_mono hf d d (Nat.le_refl _) _ _ _ _ h⟩
theorem am_R.deeper {G : am_G} {d d' j : Nat} {as : List Value} {H H' : am_H} {r : Option Value} (h : am_R G d j as H r H') (hd : d ≤ d') : am_R G d' j as H r H' := by
  obtain ⟨N, h⟩ := h
  exact ⟨N, fun fuel hf => am_call_mono (Nat.le_refl fuel) d d' hd _ _ _ _ (h fuel hf)⟩
theorem am_R.enter {G : am_G} {d j : Nat} {as : List Value} {H H' : am_H} {r : Option Value} {M : am_M} (hM : G.2.2.2.1[j]? = some M) (hc : (lg_sl as).length ≤ M.2.2.1 ∧ M.2.2.1 ≤ 45) (h : am_X G d M 0 (lv_args 0 as) [] H r H') : am_R G (d + 1) j as H r H' := by
  obtain ⟨N, h⟩ := h
  refine ⟨N, fun fuel hf => ?_⟩
  unfold am_call
  rw [hM]
  dsimp only
  rw [if_pos hc]
  exact h fuel fuel hf hf
theorem am_X.go {G : am_G} {d : Nat} {M : am_M} {pc pc' : Nat} {lv lv' : am_L} {st st' : List Value} {H H1 H' : am_H} {r : Option Value} {i : Instr} {n : Nat} (hrow : am_row M pc = some (i, n)) (h1 : ∀ call, am_one G call M i n pc lv st H = some (.inl (pc', lv', st', H1))) (k : am_X G d M pc' lv' st' H1 r H') : am_X G d M pc lv st H r H' := by
  obtain ⟨N, h⟩ := k
  refine ⟨N + 1, fun fuel f hf hf2 => ?_⟩
  cases f with
  | zero => omega
  | succ f =>
    unfold am_exec
    rw [hrow]
    dsimp only
    rw [h1]
    exact h fuel f (by omega) (by omega)
theorem am_X.goD {G : am_G} {d : Nat} {M : am_M} {pc pc' : Nat} {lv lv' : am_L} {st st' : List Value} {H H1 H' : am_H} {r : Option Value} {i : Instr} {n : Nat} (hrow : am_row M pc = some (i, n)) (h1 : ∃ N, ∀ fuel, N ≤ fuel → am_one G (am_call G fuel d) M i n pc lv st H = some (.inl (pc', lv', st', H1))) (k : am_X G d M pc' lv' st' H1 r H') : am_X G d M pc lv st H r H' := by
  obtain ⟨N, h⟩ := k
  obtain ⟨N1, h1⟩ := h1
  refine ⟨N + N1 + 1, fun fuel f hf hf2 => ?_⟩
  cases f with
  | zero => omega
  | succ f =>
    unfold am_exec
    rw [hrow]
    dsimp only
    rw [h1 fuel (by omega)]
    exact h fuel f (by omega) (by omega)
theorem am_X.ret {G : am_G} {d : Nat} {M : am_M} {pc : Nat} {lv : am_L} {st : List Value} {H : am_H} {r : Option Value} {i : Instr} {n : Nat} (hrow : am_row M pc = some (i, n)) (h1 : ∀ call, am_one G call M i n pc lv st H = some (.inr (r, H))) : am_X G d M pc lv st H r H := by
  refine ⟨1, fun fuel f hf hf2 => ?_⟩
  cases f with
  | zero => omega
  | succ f =>
    unfold am_exec
    rw [hrow]
    dsimp only
    rw [h1]
end
section
/-! the claim, out of a pure statement on the abstract machine -/
def gx_ML : am_M := (x, code, 4, ret, 1, gx_rL)
theorem gx_inst : ∀ (ci : Nat) (C : String) (T : u_T) (N : Nat), gx_cl[ci]? = some (C, T, N) → Cond.instantiable C N ∈ lw_tbl := by
  intro ci C T N h
  have h1 : ∀ q ∈ gx_cl, decide (Cond.instantiable q.1 q.2.2 ∈ lw_tbl) = true := by
    have h2 : gx_cl.all (fun q => decide (Cond.instantiable q.1 q.2.2 ∈ lw_tbl)) = true := by decide +kernel
    exact List.all_eq_true.mp h2
  exact of_decide_eq_true (h1 _ (List.mem_of_getElem? h))
theorem gx_hat : ∀ t ∈ gx_ats, (∀ C, t ≠ .object C) ∧ Cond.arrayClass t ∈ lw_tbl ∨ ∃ C, t = .object C ∧ Cond.arrayOver (.object C) ∈ lw_tbl := by
  intro t ht
  rcases List.mem_cons.mp ht with rfl | ht
  · exact Or.inl ⟨fun C h => (by cases h), by decide +kernel⟩
  rcases List.mem_cons.mp ht with rfl | ht
  · exact Or.inl ⟨fun C h => (by cases h), by decide +kernel⟩
  rcases List.mem_cons.mp ht with rfl | ht
  · exact Or.inl ⟨fun C h => (by cases h), by decide +kernel⟩
  rcases List.mem_cons.mp ht with rfl | ht
  · exact Or.inr ⟨_, rfl, by decide +kernel⟩
  cases ht
/-- what is to be shown of the abstract machine: on this script the law comes to true, within the room -/
def gx_good (b L : Nat) (xs : Nat → Int32) : Prop := ∃ (fuel d f : Nat) (AH' : am_H), d ≤ 1000 ∧ am_execL gx_G (am_call gx_G fuel d) gx_ML b L xs f 0 [(0, .retAddr b)] [] [] = some (some (.int 1), AH') ∧ AH'.length ≤ lw_cells ∧ am_sz AH' ≤ lw_slots
set_option maxHeartbeats 4000000 in
theorem gx_whole {p : Program} {e : Env} {s : State} {m : MethodId} {below : List Frame} {meth : Method} {c : Code} (l : Launch) {b L : Nat} {xs : Nat → Int32} (hg : gx_good b L xs) (C0 : lw_At p s m meth c b L xs) : W p l e room_1 s m #[Value.ref b] below meth c s.heap [] 0 0 (lw_Z below #[Value.ref b] s) (entryFrame m ([Value.ref b] : List Value).toArray 4) := by
  obtain ⟨hx, hb, hr, hml, hown, hts, hX, hbl, hlocks, hgv⟩ := id C0
  obtain ⟨fuel, d, f, AH', hd, hex, hc1, hc2⟩ := hg
  obtain ⟨D, ca, henv⟩ := am_start (args := #[Value.ref b]) hts gx_ok gx_inst gx_hat
  have hl := lv_entry ([.ref b]) (n := 4) (Nat.le_of_ble_eq_true rfl)
  rw [lg_entry_eq]
  have hfr : room_1.frames = 2048 := rfl
  have hlo : room_1.locals = 84000 := rfl
  exact am_sxL (G := gx_G) (Ts := lw_tbl.filter goodWord) (nst := lw_tbl.filter am_isNest) (D := D) (ca := ca) (M := gx_ML) (am_sound l gx_ok gx_okm fuel d) gx_ok gx_okm (fun q hq => of_decide_eq_true (List.all_eq_true.mp gx_dL q hq)) (by decide +kernel) hx hb hml hr hlocks hown (fun w hw => hts w (List.mem_filter.mp hw).1) henv hX hbl (by omega) (by omega) hc1 hc2 f 0 [(0, .retAddr b)] [] [] s.heap _ [] (fun _ => 0) hex (fun c hc => by cases hc) (fun q hq => by rcases List.mem_cons.mp hq with rfl | h; exact fun i hi => (by cases hi); cases h) (am_ws_nil _) hl (fun k q h => by simp [am_w] at h) ⟨fun i j p q h => by simp [am_w] at h, fun k q h => by simp [am_w] at h⟩ va_S.rf
end
section
/-! the law's runs, whatever the fuel from some on -/
def am_XL (G : am_G) (d : Nat) (M : am_M) (b L : Nat) (xs : Nat → Int32) (pc : Nat) (lv : am_L) (st : List Value) (H : am_H) (r : Option Value) (H' : am_H) : Prop := ∃ N, ∀ fuel f, N ≤ fuel → N ≤ f → am_execL G (am_call G fuel d) M b L xs f pc lv st H = some (r, H')
section XL
variable {G : am_G} {d : Nat} {M : am_M} {b L : Nat} {xs : Nat → Int32} {pc pc' : Nat} {lv lv' : am_L} {st st' : List Value} {H H1 H' : am_H} {r : Option Value} {i : Instr} {n : Nat}
theorem am_XL.goS (hrow : am_row M pc = some (i, n)) (h1 : am_stS b L xs i n st = some st') (k : am_XL G d M b L xs (pc + n) lv st' H r H') : am_XL G d M b L xs pc lv st H r H' := by
  obtain ⟨N, h⟩ := k
  refine ⟨N + 1, fun fuel f hf hf2 => ?_⟩
  cases f with
  | zero => omega
  | succ f =>
    unfold am_execL
    rw [hrow]
    dsimp only
    rw [h1]
    exact h fuel f (by omega) (by omega)
theorem am_XL.goD (hrow : am_row M pc = some (i, n)) (h0 : am_stS b L xs i n st = none) (h1 : ∃ N, ∀ fuel, N ≤ fuel → am_one G (am_call G fuel d) M i n pc lv st H = some (.inl (pc', lv', st', H1))) (k : am_XL G d M b L xs pc' lv' st' H1 r H') : am_XL G d M b L xs pc lv st H r H' := by
  obtain ⟨N, h⟩ := k
  obtain ⟨N1, h1⟩ := h1
  refine ⟨N + N1 + 1, fun fuel f hf hf2 => ?_⟩
  cases f with
  | zero => omega
  | succ f =>
    unfold am_execL
    rw [hrow]
    dsimp only
    rw [h0]
    dsimp only
    rw [h1 fuel (by omega)]
    exact h fuel f (by omega) (by omega)
theorem am_XL.go (hrow : am_row M pc = some (i, n)) (h0 : am_stS b L xs i n st = none) (h1 : ∀ call, am_one G call M i n pc lv st H = some (.inl (pc', lv', st', H1))) (k : am_XL G d M b L xs pc' lv' st' H1 r H') : am_XL G d M b L xs pc lv st H r H' := am_XL.goD hrow h0 ⟨0, fun _ _ => h1 _⟩ k
theorem am_XL.ret (hrow : am_row M pc = some (i, n)) (h0 : am_stS b L xs i n st = none) (h1 : ∀ call, am_one G call M i n pc lv st H = some (.inr (r, H))) : am_XL G d M b L xs pc lv st H r H := by
  refine ⟨1, fun fuel f hf hf2 => ?_⟩
  cases f with
  | zero => omega
  | succ f =>
    unfold am_execL
    rw [hrow]
    dsimp only
    rw [h0]
    dsimp only
    rw [h1]
/-- a call of an object's method, of which the run is known -/
theorem am_oneV {own : String} {idx j : Nat} {z : Int64} {Mj : am_M} {as : List Value} {p : Nat} {rest : List Value} {v : Option Value} (hA : am_stA M.2.2.1 (.invokevirtual idx) 3 lv st = none) (hB : am_stB (.invokevirtual idx) 3 pc st = none) (hC : am_stC G M.1.cls (M.1.name == "<init>") (.invokevirtual idx) 3 st H = none) (hlk : G.2.2.1 M.1.cls idx = some (1, j, 0, z)) (hM : G.2.2.2.1[j]? = some Mj) (hst : st = as.reverse ++ .ref p :: rest) (has : as.length = Mj.2.2.2.2.1) (hcat : (rest.map fun v => v.category).sum ≤ 8) (hcls : am_isC G H p Mj.1.cls = true) (hR : am_R G d j (.ref p :: as) H v H1) :
    ∃ N, ∀ fuel, N ≤ fuel → am_one G (am_call G fuel d) M (.invokevirtual idx) 3 pc lv st H = some (.inl (pc + 3, lv, v.toList ++ rest, H1)) := by
  obtain ⟨N, hR⟩ := hR
  refine ⟨N, fun fuel hf => ?_⟩
  have hD : am_stD G (am_call G fuel d) M.1.cls (.invokevirtual idx) 3 st H = some (v.toList ++ rest, H1) := by
    dsimp only [am_stD]
    rw [hlk]
    show am_cv G (am_call G fuel d) j 3 true st H = _
    unfold am_cv
    rw [hM]
    dsimp only
    have e1 : st.drop Mj.2.2.2.2.1 = .ref p :: rest := by rw [hst, ← has, ← List.length_reverse, List.drop_left]
    have e2 : (st.take Mj.2.2.2.2.1).reverse = as := by rw [hst, ← has, ← List.length_reverse, List.take_left, List.reverse_reverse]
    have e3 : Mj.2.2.2.2.1 ≤ st.length := by rw [hst, ← has]; simp
    rw [e1]
    dsimp only
    rw [if_pos ⟨rfl, e3, hcat, fun _ => hcls⟩, e2, hR fuel hf]
    rfl
  unfold am_one
  rw [hA]
  dsimp only
  rw [hB]
  dsimp only
  rw [hC]
  dsimp only
  rw [hD]
end XL
theorem am_eqi {G : am_G} {M : am_M} {pc t : Nat} {off : Int} {lv : am_L} {st : List Value} {H : am_H} {x y : Int32} (h : x = y) (ht : am_jp pc off = some t) : ∀ call, am_one G call M (.if_icmp .eq off) 3 pc lv (.int y :: .int x :: st) H = some (.inl (t, lv, st, H)) := by
  intro call
  have hB : am_stB (.if_icmp .eq off) 3 pc (.int y :: .int x :: st) = some (t, st) := by
    dsimp only [am_stB, am_br, am_if2]
    rw [ht]
    simp [h]
  unfold am_one
  rw [show am_stA M.2.2.1 (.if_icmp .eq off) 3 lv (.int y :: .int x :: st) = none from rfl]
  dsimp only
  rw [hB]
theorem am_eq0 {G : am_G} {M : am_M} {pc t : Nat} {off : Int} {lv : am_L} {st : List Value} {H : am_H} {x : Int32} (h : x = 0) (ht : am_jp pc off = some t) : ∀ call, am_one G call M (.ifCond .eq off) 3 pc lv (.int x :: st) H = some (.inl (t, lv, st, H)) := by
  intro call
  have hB : am_stB (.ifCond .eq off) 3 pc (.int x :: st) = some (t, st) := by
    dsimp only [am_stB, am_br, am_if1]
    rw [ht]
    simp [h]
  unfold am_one
  rw [show am_stA M.2.2.1 (.ifCond .eq off) 3 lv (.int x :: st) = none from rfl]
  dsimp only
  rw [hB]
theorem am_gtT {G : am_G} {M : am_M} {pc t : Nat} {off : Int} {lv : am_L} {st : List Value} {H : am_H} {x y : Int32} (h : y < x) (ht : am_jp pc off = some t) : ∀ call, am_one G call M (.if_icmp .gt off) 3 pc lv (.int y :: .int x :: st) H = some (.inl (t, lv, st, H)) := by
  intro call
  have hB : am_stB (.if_icmp .gt off) 3 pc (.int y :: .int x :: st) = some (t, st) := by
    dsimp only [am_stB, am_br, am_if2]
    rw [ht]
    simp [h]
  unfold am_one
  rw [show am_stA M.2.2.1 (.if_icmp .gt off) 3 lv (.int y :: .int x :: st) = none from rfl]
  dsimp only
  rw [hB]
theorem am_gtF {G : am_G} {M : am_M} {pc t : Nat} {off : Int} {lv : am_L} {st : List Value} {H : am_H} {x y : Int32} (h : ¬ y < x) (ht : am_jp pc off = some t) : ∀ call, am_one G call M (.if_icmp .gt off) 3 pc lv (.int y :: .int x :: st) H = some (.inl (pc + 3, lv, st, H)) := by
  intro call
  have hB : am_stB (.if_icmp .gt off) 3 pc (.int y :: .int x :: st) = some (pc + 3, st) := by
    dsimp only [am_stB, am_br, am_if2]
    rw [ht]
    simp [h]
  unfold am_one
  rw [show am_stA M.2.2.1 (.if_icmp .gt off) 3 lv (.int y :: .int x :: st) = none from rfl]
  dsimp only
  rw [hB]
theorem am_lcmp_self (x : Int64) : lg_cmp x x = 0 := by
  unfold lg_cmp
  simp
end
section
/-! the law's cases, written by wip/lawgen.py -/
abbrev lw_lv (b px pm : Nat) (i : Int32) : am_L := [(3, .int i), (2, .ref pm), (1, .ref px), (0, .retAddr b)]
theorem am_stS_ld {b L : Nat} {xs : Nat → Int32} {j : Int32} {r : List Value} (h : am_inb j L = true) : am_stS b L xs .iaload 1 (.int j :: .retAddr b :: r) = some (.int (xs j.toNatClampNeg) :: r) := by
  simp [am_stS, h]
theorem am_stS_len {b L : Nat} {xs : Nat → Int32} {r : List Value} : am_stS b L xs .arraylength 1 (.retAddr b :: r) = some (.int (Int32.ofNat L) :: r) := by
  simp [am_stS]
theorem am_one_ldc2 {G : am_G} {M : am_M} {pc idx a c : Nat} {v : Int64} {lv : am_L} {st : List Value} {H : am_H} (hlk : G.2.2.1 M.1.cls idx = some (7, a, c, v)) : ∀ call, am_one G call M (.ldc2_w idx) 3 pc lv st H = some (.inl (pc + 3, lv, .long v :: st, H)) := by
  intro call
  have hC : am_stC G M.1.cls (M.1.name == "<init>") (.ldc2_w idx) 3 st H = some (.long v :: st, H) := by
    dsimp only [am_stC]
    rw [hlk]
    rfl
  unfold am_one
  rw [show am_stA M.2.2.1 (.ldc2_w idx) 3 lv st = none from rfl]
  dsimp only
  rw [show am_stB (.ldc2_w idx) 3 pc st = none from rfl]
  dsimp only
  rw [hC]

set_option maxHeartbeats 4000000 in
set_option maxRecDepth 100000 in
theorem lw_case0 {d px pm b L : Nat} {xs : Nat → Int32} {i : Int32} {H H1 H2 H' : am_H} {r : Option Value} {v : Int32} (h1 : am_inb (i + Int32.ofInt 1) L = true) (h2 : am_inb (i + Int32.ofInt 2) L = true) (h3 : am_inb (i + Int32.ofInt 3) L = true) (hx : am_isC gx_G H px "GrammarStream" = true) (hm : am_isC gx_G H1 pm "GrammarStreamModel" = true) (hR1 : am_R gx_G d 1 (.ref px :: [.long ((((xs ((i + (Int32.ofInt 1))).toNatClampNeg)).toInt64 <<< (((Int8.ofInt 32).toInt32).toInt64 &&& 63)) ||| (((xs ((i + (Int32.ofInt 2))).toNatClampNeg)).toInt64 &&& 4294967295)), .int (xs ((i + (Int32.ofInt 3))).toNatClampNeg)]) H (some (.int v)) H1) (hR2 : am_R gx_G d 137 (.ref pm :: [.long ((((xs ((i + (Int32.ofInt 1))).toNatClampNeg)).toInt64 <<< (((Int8.ofInt 32).toInt32).toInt64 &&& 63)) ||| (((xs ((i + (Int32.ofInt 2))).toNatClampNeg)).toInt64 &&& 4294967295)), .int (xs ((i + (Int32.ofInt 3))).toNatClampNeg)]) H1 (some (.int v)) H2) (kk : am_XL gx_G d gx_ML b L xs 682 (lw_lv b px pm i) [] H2 r H') : am_XL gx_G d gx_ML b L xs 124 (lw_lv b px pm i) [] H r H' := by
  refine am_XL.go (i := .aload_n 1) (n := 1) (pc' := 125) (lv' := lw_lv b px pm i) (st' := [.ref px]) (H1 := H) (by decide +kernel) rfl (fun _ => rfl) ?_
  refine am_XL.go (i := .aload_n 0) (n := 1) (pc' := 126) (lv' := lw_lv b px pm i) (st' := [.retAddr b, .ref px]) (H1 := H) (by decide +kernel) rfl (fun _ => rfl) ?_
  refine am_XL.go (i := .iload_n 3) (n := 1) (pc' := 127) (lv' := lw_lv b px pm i) (st' := [.int i, .retAddr b, .ref px]) (H1 := H) (by decide +kernel) rfl (fun _ => rfl) ?_
  refine am_XL.go (i := .iconst 1) (n := 1) (pc' := 128) (lv' := lw_lv b px pm i) (st' := [.int (Int32.ofInt 1), .int i, .retAddr b, .ref px]) (H1 := H) (by decide +kernel) rfl (fun _ => rfl) ?_
  refine am_XL.go (i := .iadd) (n := 1) (pc' := 129) (lv' := lw_lv b px pm i) (st' := [.int (i + (Int32.ofInt 1)), .retAddr b, .ref px]) (H1 := H) (by decide +kernel) rfl (fun _ => rfl) ?_
  refine am_XL.goS (i := .iaload) (n := 1) (st' := [.int (xs ((i + (Int32.ofInt 1))).toNatClampNeg), .ref px]) (by decide +kernel) (am_stS_ld h1) ?_
  refine am_XL.go (i := .i2l) (n := 1) (pc' := 131) (lv' := lw_lv b px pm i) (st' := [.long ((xs ((i + (Int32.ofInt 1))).toNatClampNeg)).toInt64, .ref px]) (H1 := H) (by decide +kernel) rfl (fun _ => rfl) ?_
  refine am_XL.go (i := .bipush 32) (n := 2) (pc' := 133) (lv' := lw_lv b px pm i) (st' := [.int (Int8.ofInt 32).toInt32, .long ((xs ((i + (Int32.ofInt 1))).toNatClampNeg)).toInt64, .ref px]) (H1 := H) (by decide +kernel) rfl (fun _ => rfl) ?_
  refine am_XL.go (i := .lshl) (n := 1) (pc' := 134) (lv' := lw_lv b px pm i) (st' := [.long (((xs ((i + (Int32.ofInt 1))).toNatClampNeg)).toInt64 <<< (((Int8.ofInt 32).toInt32).toInt64 &&& 63)), .ref px]) (H1 := H) (by decide +kernel) rfl (fun _ => rfl) ?_
  refine am_XL.go (i := .aload_n 0) (n := 1) (pc' := 135) (lv' := lw_lv b px pm i) (st' := [.retAddr b, .long (((xs ((i + (Int32.ofInt 1))).toNatClampNeg)).toInt64 <<< (((Int8.ofInt 32).toInt32).toInt64 &&& 63)), .ref px]) (H1 := H) (by decide +kernel) rfl (fun _ => rfl) ?_
  refine am_XL.go (i := .iload_n 3) (n := 1) (pc' := 136) (lv' := lw_lv b px pm i) (st' := [.int i, .retAddr b, .long (((xs ((i + (Int32.ofInt 1))).toNatClampNeg)).toInt64 <<< (((Int8.ofInt 32).toInt32).toInt64 &&& 63)), .ref px]) (H1 := H) (by decide +kernel) rfl (fun _ => rfl) ?_
  refine am_XL.go (i := .iconst 2) (n := 1) (pc' := 137) (lv' := lw_lv b px pm i) (st' := [.int (Int32.ofInt 2), .int i, .retAddr b, .long (((xs ((i + (Int32.ofInt 1))).toNatClampNeg)).toInt64 <<< (((Int8.ofInt 32).toInt32).toInt64 &&& 63)), .ref px]) (H1 := H) (by decide +kernel) rfl (fun _ => rfl) ?_
  refine am_XL.go (i := .iadd) (n := 1) (pc' := 138) (lv' := lw_lv b px pm i) (st' := [.int (i + (Int32.ofInt 2)), .retAddr b, .long (((xs ((i + (Int32.ofInt 1))).toNatClampNeg)).toInt64 <<< (((Int8.ofInt 32).toInt32).toInt64 &&& 63)), .ref px]) (H1 := H) (by decide +kernel) rfl (fun _ => rfl) ?_
  refine am_XL.goS (i := .iaload) (n := 1) (st' := [.int (xs ((i + (Int32.ofInt 2))).toNatClampNeg), .long (((xs ((i + (Int32.ofInt 1))).toNatClampNeg)).toInt64 <<< (((Int8.ofInt 32).toInt32).toInt64 &&& 63)), .ref px]) (by decide +kernel) (am_stS_ld h2) ?_
  refine am_XL.go (i := .i2l) (n := 1) (pc' := 140) (lv' := lw_lv b px pm i) (st' := [.long ((xs ((i + (Int32.ofInt 2))).toNatClampNeg)).toInt64, .long (((xs ((i + (Int32.ofInt 1))).toNatClampNeg)).toInt64 <<< (((Int8.ofInt 32).toInt32).toInt64 &&& 63)), .ref px]) (H1 := H) (by decide +kernel) rfl (fun _ => rfl) ?_
  refine am_XL.go (i := .ldc2_w 13) (n := 3) (pc' := 143) (lv' := lw_lv b px pm i) (st' := [.long 4294967295, .long ((xs ((i + (Int32.ofInt 2))).toNatClampNeg)).toInt64, .long (((xs ((i + (Int32.ofInt 1))).toNatClampNeg)).toInt64 <<< (((Int8.ofInt 32).toInt32).toInt64 &&& 63)), .ref px]) (H1 := H) (by decide +kernel) rfl (am_one_ldc2 (a := 0) (c := 0) (v := 4294967295) (by decide +kernel)) ?_
  refine am_XL.go (i := .land) (n := 1) (pc' := 144) (lv' := lw_lv b px pm i) (st' := [.long (((xs ((i + (Int32.ofInt 2))).toNatClampNeg)).toInt64 &&& 4294967295), .long (((xs ((i + (Int32.ofInt 1))).toNatClampNeg)).toInt64 <<< (((Int8.ofInt 32).toInt32).toInt64 &&& 63)), .ref px]) (H1 := H) (by decide +kernel) rfl (fun _ => rfl) ?_
  refine am_XL.go (i := .lor) (n := 1) (pc' := 145) (lv' := lw_lv b px pm i) (st' := [.long ((((xs ((i + (Int32.ofInt 1))).toNatClampNeg)).toInt64 <<< (((Int8.ofInt 32).toInt32).toInt64 &&& 63)) ||| (((xs ((i + (Int32.ofInt 2))).toNatClampNeg)).toInt64 &&& 4294967295)), .ref px]) (H1 := H) (by decide +kernel) rfl (fun _ => rfl) ?_
  refine am_XL.go (i := .aload_n 0) (n := 1) (pc' := 146) (lv' := lw_lv b px pm i) (st' := [.retAddr b, .long ((((xs ((i + (Int32.ofInt 1))).toNatClampNeg)).toInt64 <<< (((Int8.ofInt 32).toInt32).toInt64 &&& 63)) ||| (((xs ((i + (Int32.ofInt 2))).toNatClampNeg)).toInt64 &&& 4294967295)), .ref px]) (H1 := H) (by decide +kernel) rfl (fun _ => rfl) ?_
  refine am_XL.go (i := .iload_n 3) (n := 1) (pc' := 147) (lv' := lw_lv b px pm i) (st' := [.int i, .retAddr b, .long ((((xs ((i + (Int32.ofInt 1))).toNatClampNeg)).toInt64 <<< (((Int8.ofInt 32).toInt32).toInt64 &&& 63)) ||| (((xs ((i + (Int32.ofInt 2))).toNatClampNeg)).toInt64 &&& 4294967295)), .ref px]) (H1 := H) (by decide +kernel) rfl (fun _ => rfl) ?_
  refine am_XL.go (i := .iconst 3) (n := 1) (pc' := 148) (lv' := lw_lv b px pm i) (st' := [.int (Int32.ofInt 3), .int i, .retAddr b, .long ((((xs ((i + (Int32.ofInt 1))).toNatClampNeg)).toInt64 <<< (((Int8.ofInt 32).toInt32).toInt64 &&& 63)) ||| (((xs ((i + (Int32.ofInt 2))).toNatClampNeg)).toInt64 &&& 4294967295)), .ref px]) (H1 := H) (by decide +kernel) rfl (fun _ => rfl) ?_
  refine am_XL.go (i := .iadd) (n := 1) (pc' := 149) (lv' := lw_lv b px pm i) (st' := [.int (i + (Int32.ofInt 3)), .retAddr b, .long ((((xs ((i + (Int32.ofInt 1))).toNatClampNeg)).toInt64 <<< (((Int8.ofInt 32).toInt32).toInt64 &&& 63)) ||| (((xs ((i + (Int32.ofInt 2))).toNatClampNeg)).toInt64 &&& 4294967295)), .ref px]) (H1 := H) (by decide +kernel) rfl (fun _ => rfl) ?_
  refine am_XL.goS (i := .iaload) (n := 1) (st' := [.int (xs ((i + (Int32.ofInt 3))).toNatClampNeg), .long ((((xs ((i + (Int32.ofInt 1))).toNatClampNeg)).toInt64 <<< (((Int8.ofInt 32).toInt32).toInt64 &&& 63)) ||| (((xs ((i + (Int32.ofInt 2))).toNatClampNeg)).toInt64 &&& 4294967295)), .ref px]) (by decide +kernel) (am_stS_ld h3) ?_
  refine am_XL.goD (i := .invokevirtual 15) (n := 3) (pc' := 153) (lv' := lw_lv b px pm i) (st' := [.int v]) (H1 := H1) (by decide +kernel) rfl (am_oneV (own := "") (j := 1) (z := 0) (Mj := gx_m1) (as := [.long ((((xs ((i + (Int32.ofInt 1))).toNatClampNeg)).toInt64 <<< (((Int8.ofInt 32).toInt32).toInt64 &&& 63)) ||| (((xs ((i + (Int32.ofInt 2))).toNatClampNeg)).toInt64 &&& 4294967295)), .int (xs ((i + (Int32.ofInt 3))).toNatClampNeg)]) (p := px) (rest := []) (v := some (.int v)) rfl rfl rfl (by decide +kernel) rfl rfl rfl (Nat.le_of_ble_eq_true rfl) hx hR1) ?_
  refine am_XL.go (i := .aload_n 2) (n := 1) (pc' := 154) (lv' := lw_lv b px pm i) (st' := [.ref pm, .int v]) (H1 := H1) (by decide +kernel) rfl (fun _ => rfl) ?_
  refine am_XL.go (i := .aload_n 0) (n := 1) (pc' := 155) (lv' := lw_lv b px pm i) (st' := [.retAddr b, .ref pm, .int v]) (H1 := H1) (by decide +kernel) rfl (fun _ => rfl) ?_
  refine am_XL.go (i := .iload_n 3) (n := 1) (pc' := 156) (lv' := lw_lv b px pm i) (st' := [.int i, .retAddr b, .ref pm, .int v]) (H1 := H1) (by decide +kernel) rfl (fun _ => rfl) ?_
  refine am_XL.go (i := .iconst 1) (n := 1) (pc' := 157) (lv' := lw_lv b px pm i) (st' := [.int (Int32.ofInt 1), .int i, .retAddr b, .ref pm, .int v]) (H1 := H1) (by decide +kernel) rfl (fun _ => rfl) ?_
  refine am_XL.go (i := .iadd) (n := 1) (pc' := 158) (lv' := lw_lv b px pm i) (st' := [.int (i + (Int32.ofInt 1)), .retAddr b, .ref pm, .int v]) (H1 := H1) (by decide +kernel) rfl (fun _ => rfl) ?_
  refine am_XL.goS (i := .iaload) (n := 1) (st' := [.int (xs ((i + (Int32.ofInt 1))).toNatClampNeg), .ref pm, .int v]) (by decide +kernel) (am_stS_ld h1) ?_
  refine am_XL.go (i := .i2l) (n := 1) (pc' := 160) (lv' := lw_lv b px pm i) (st' := [.long ((xs ((i + (Int32.ofInt 1))).toNatClampNeg)).toInt64, .ref pm, .int v]) (H1 := H1) (by decide +kernel) rfl (fun _ => rfl) ?_
  refine am_XL.go (i := .bipush 32) (n := 2) (pc' := 162) (lv' := lw_lv b px pm i) (st' := [.int (Int8.ofInt 32).toInt32, .long ((xs ((i + (Int32.ofInt 1))).toNatClampNeg)).toInt64, .ref pm, .int v]) (H1 := H1) (by decide +kernel) rfl (fun _ => rfl) ?_
  refine am_XL.go (i := .lshl) (n := 1) (pc' := 163) (lv' := lw_lv b px pm i) (st' := [.long (((xs ((i + (Int32.ofInt 1))).toNatClampNeg)).toInt64 <<< (((Int8.ofInt 32).toInt32).toInt64 &&& 63)), .ref pm, .int v]) (H1 := H1) (by decide +kernel) rfl (fun _ => rfl) ?_
  refine am_XL.go (i := .aload_n 0) (n := 1) (pc' := 164) (lv' := lw_lv b px pm i) (st' := [.retAddr b, .long (((xs ((i + (Int32.ofInt 1))).toNatClampNeg)).toInt64 <<< (((Int8.ofInt 32).toInt32).toInt64 &&& 63)), .ref pm, .int v]) (H1 := H1) (by decide +kernel) rfl (fun _ => rfl) ?_
  refine am_XL.go (i := .iload_n 3) (n := 1) (pc' := 165) (lv' := lw_lv b px pm i) (st' := [.int i, .retAddr b, .long (((xs ((i + (Int32.ofInt 1))).toNatClampNeg)).toInt64 <<< (((Int8.ofInt 32).toInt32).toInt64 &&& 63)), .ref pm, .int v]) (H1 := H1) (by decide +kernel) rfl (fun _ => rfl) ?_
  refine am_XL.go (i := .iconst 2) (n := 1) (pc' := 166) (lv' := lw_lv b px pm i) (st' := [.int (Int32.ofInt 2), .int i, .retAddr b, .long (((xs ((i + (Int32.ofInt 1))).toNatClampNeg)).toInt64 <<< (((Int8.ofInt 32).toInt32).toInt64 &&& 63)), .ref pm, .int v]) (H1 := H1) (by decide +kernel) rfl (fun _ => rfl) ?_
  refine am_XL.go (i := .iadd) (n := 1) (pc' := 167) (lv' := lw_lv b px pm i) (st' := [.int (i + (Int32.ofInt 2)), .retAddr b, .long (((xs ((i + (Int32.ofInt 1))).toNatClampNeg)).toInt64 <<< (((Int8.ofInt 32).toInt32).toInt64 &&& 63)), .ref pm, .int v]) (H1 := H1) (by decide +kernel) rfl (fun _ => rfl) ?_
  refine am_XL.goS (i := .iaload) (n := 1) (st' := [.int (xs ((i + (Int32.ofInt 2))).toNatClampNeg), .long (((xs ((i + (Int32.ofInt 1))).toNatClampNeg)).toInt64 <<< (((Int8.ofInt 32).toInt32).toInt64 &&& 63)), .ref pm, .int v]) (by decide +kernel) (am_stS_ld h2) ?_
  refine am_XL.go (i := .i2l) (n := 1) (pc' := 169) (lv' := lw_lv b px pm i) (st' := [.long ((xs ((i + (Int32.ofInt 2))).toNatClampNeg)).toInt64, .long (((xs ((i + (Int32.ofInt 1))).toNatClampNeg)).toInt64 <<< (((Int8.ofInt 32).toInt32).toInt64 &&& 63)), .ref pm, .int v]) (H1 := H1) (by decide +kernel) rfl (fun _ => rfl) ?_
  refine am_XL.go (i := .ldc2_w 13) (n := 3) (pc' := 172) (lv' := lw_lv b px pm i) (st' := [.long 4294967295, .long ((xs ((i + (Int32.ofInt 2))).toNatClampNeg)).toInt64, .long (((xs ((i + (Int32.ofInt 1))).toNatClampNeg)).toInt64 <<< (((Int8.ofInt 32).toInt32).toInt64 &&& 63)), .ref pm, .int v]) (H1 := H1) (by decide +kernel) rfl (am_one_ldc2 (a := 0) (c := 0) (v := 4294967295) (by decide +kernel)) ?_
  refine am_XL.go (i := .land) (n := 1) (pc' := 173) (lv' := lw_lv b px pm i) (st' := [.long (((xs ((i + (Int32.ofInt 2))).toNatClampNeg)).toInt64 &&& 4294967295), .long (((xs ((i + (Int32.ofInt 1))).toNatClampNeg)).toInt64 <<< (((Int8.ofInt 32).toInt32).toInt64 &&& 63)), .ref pm, .int v]) (H1 := H1) (by decide +kernel) rfl (fun _ => rfl) ?_
  refine am_XL.go (i := .lor) (n := 1) (pc' := 174) (lv' := lw_lv b px pm i) (st' := [.long ((((xs ((i + (Int32.ofInt 1))).toNatClampNeg)).toInt64 <<< (((Int8.ofInt 32).toInt32).toInt64 &&& 63)) ||| (((xs ((i + (Int32.ofInt 2))).toNatClampNeg)).toInt64 &&& 4294967295)), .ref pm, .int v]) (H1 := H1) (by decide +kernel) rfl (fun _ => rfl) ?_
  refine am_XL.go (i := .aload_n 0) (n := 1) (pc' := 175) (lv' := lw_lv b px pm i) (st' := [.retAddr b, .long ((((xs ((i + (Int32.ofInt 1))).toNatClampNeg)).toInt64 <<< (((Int8.ofInt 32).toInt32).toInt64 &&& 63)) ||| (((xs ((i + (Int32.ofInt 2))).toNatClampNeg)).toInt64 &&& 4294967295)), .ref pm, .int v]) (H1 := H1) (by decide +kernel) rfl (fun _ => rfl) ?_
  refine am_XL.go (i := .iload_n 3) (n := 1) (pc' := 176) (lv' := lw_lv b px pm i) (st' := [.int i, .retAddr b, .long ((((xs ((i + (Int32.ofInt 1))).toNatClampNeg)).toInt64 <<< (((Int8.ofInt 32).toInt32).toInt64 &&& 63)) ||| (((xs ((i + (Int32.ofInt 2))).toNatClampNeg)).toInt64 &&& 4294967295)), .ref pm, .int v]) (H1 := H1) (by decide +kernel) rfl (fun _ => rfl) ?_
  refine am_XL.go (i := .iconst 3) (n := 1) (pc' := 177) (lv' := lw_lv b px pm i) (st' := [.int (Int32.ofInt 3), .int i, .retAddr b, .long ((((xs ((i + (Int32.ofInt 1))).toNatClampNeg)).toInt64 <<< (((Int8.ofInt 32).toInt32).toInt64 &&& 63)) ||| (((xs ((i + (Int32.ofInt 2))).toNatClampNeg)).toInt64 &&& 4294967295)), .ref pm, .int v]) (H1 := H1) (by decide +kernel) rfl (fun _ => rfl) ?_
  refine am_XL.go (i := .iadd) (n := 1) (pc' := 178) (lv' := lw_lv b px pm i) (st' := [.int (i + (Int32.ofInt 3)), .retAddr b, .long ((((xs ((i + (Int32.ofInt 1))).toNatClampNeg)).toInt64 <<< (((Int8.ofInt 32).toInt32).toInt64 &&& 63)) ||| (((xs ((i + (Int32.ofInt 2))).toNatClampNeg)).toInt64 &&& 4294967295)), .ref pm, .int v]) (H1 := H1) (by decide +kernel) rfl (fun _ => rfl) ?_
  refine am_XL.goS (i := .iaload) (n := 1) (st' := [.int (xs ((i + (Int32.ofInt 3))).toNatClampNeg), .long ((((xs ((i + (Int32.ofInt 1))).toNatClampNeg)).toInt64 <<< (((Int8.ofInt 32).toInt32).toInt64 &&& 63)) ||| (((xs ((i + (Int32.ofInt 2))).toNatClampNeg)).toInt64 &&& 4294967295)), .ref pm, .int v]) (by decide +kernel) (am_stS_ld h3) ?_
  refine am_XL.goD (i := .invokevirtual 19) (n := 3) (pc' := 182) (lv' := lw_lv b px pm i) (st' := [.int v, .int v]) (H1 := H2) (by decide +kernel) rfl (am_oneV (own := "") (j := 137) (z := 0) (Mj := gx_m137) (as := [.long ((((xs ((i + (Int32.ofInt 1))).toNatClampNeg)).toInt64 <<< (((Int8.ofInt 32).toInt32).toInt64 &&& 63)) ||| (((xs ((i + (Int32.ofInt 2))).toNatClampNeg)).toInt64 &&& 4294967295)), .int (xs ((i + (Int32.ofInt 3))).toNatClampNeg)]) (p := pm) (rest := [.int v]) (v := some (.int v)) rfl rfl rfl (by decide +kernel) rfl rfl rfl (Nat.le_of_ble_eq_true rfl) hm hR2) ?_
  refine am_XL.go (i := .if_icmp .eq 500) (n := 3) (pc' := 682) (lv' := lw_lv b px pm i) (st' := []) (H1 := H2) (by decide +kernel) rfl (am_eqi rfl (by decide +kernel)) ?_
  exact kk

set_option maxHeartbeats 4000000 in
set_option maxRecDepth 100000 in
theorem lw_case1 {d px pm b L : Nat} {xs : Nat → Int32} {i : Int32} {H H1 H2 H' : am_H} {r : Option Value} {v : Int32}  (hx : am_isC gx_G H px "GrammarStream" = true) (hm : am_isC gx_G H1 pm "GrammarStreamModel" = true) (hR1 : am_R gx_G d 3 (.ref px :: []) H (some (.int v)) H1) (hR2 : am_R gx_G d 138 (.ref pm :: []) H1 (some (.int v)) H2) (kk : am_XL gx_G d gx_ML b L xs 682 (lw_lv b px pm i) [] H2 r H') : am_XL gx_G d gx_ML b L xs 187 (lw_lv b px pm i) [] H r H' := by
  refine am_XL.go (i := .aload_n 1) (n := 1) (pc' := 188) (lv' := lw_lv b px pm i) (st' := [.ref px]) (H1 := H) (by decide +kernel) rfl (fun _ => rfl) ?_
  refine am_XL.goD (i := .invokevirtual 20) (n := 3) (pc' := 191) (lv' := lw_lv b px pm i) (st' := [.int v]) (H1 := H1) (by decide +kernel) rfl (am_oneV (own := "") (j := 3) (z := 0) (Mj := gx_m3) (as := []) (p := px) (rest := []) (v := some (.int v)) rfl rfl rfl (by decide +kernel) rfl rfl rfl (Nat.le_of_ble_eq_true rfl) hx hR1) ?_
  refine am_XL.go (i := .aload_n 2) (n := 1) (pc' := 192) (lv' := lw_lv b px pm i) (st' := [.ref pm, .int v]) (H1 := H1) (by decide +kernel) rfl (fun _ => rfl) ?_
  refine am_XL.goD (i := .invokevirtual 24) (n := 3) (pc' := 195) (lv' := lw_lv b px pm i) (st' := [.int v, .int v]) (H1 := H2) (by decide +kernel) rfl (am_oneV (own := "") (j := 138) (z := 0) (Mj := gx_m138) (as := []) (p := pm) (rest := [.int v]) (v := some (.int v)) rfl rfl rfl (by decide +kernel) rfl rfl rfl (Nat.le_of_ble_eq_true rfl) hm hR2) ?_
  refine am_XL.go (i := .if_icmp .eq 487) (n := 3) (pc' := 682) (lv' := lw_lv b px pm i) (st' := []) (H1 := H2) (by decide +kernel) rfl (am_eqi rfl (by decide +kernel)) ?_
  exact kk

set_option maxHeartbeats 4000000 in
set_option maxRecDepth 100000 in
theorem lw_case2 {d px pm b L : Nat} {xs : Nat → Int32} {i : Int32} {H H1 H2 H' : am_H} {r : Option Value} {v : Int32} (h1 : am_inb (i + Int32.ofInt 1) L = true) (hx : am_isC gx_G H px "GrammarStream" = true) (hm : am_isC gx_G H1 pm "GrammarStreamModel" = true) (hR1 : am_R gx_G d 95 (.ref px :: [.int (xs ((i + (Int32.ofInt 1))).toNatClampNeg)]) H (some (.int v)) H1) (hR2 : am_R gx_G d 184 (.ref pm :: [.int (xs ((i + (Int32.ofInt 1))).toNatClampNeg)]) H1 (some (.int v)) H2) (kk : am_XL gx_G d gx_ML b L xs 682 (lw_lv b px pm i) [] H2 r H') : am_XL gx_G d gx_ML b L xs 200 (lw_lv b px pm i) [] H r H' := by
  refine am_XL.go (i := .aload_n 1) (n := 1) (pc' := 201) (lv' := lw_lv b px pm i) (st' := [.ref px]) (H1 := H) (by decide +kernel) rfl (fun _ => rfl) ?_
  refine am_XL.go (i := .aload_n 0) (n := 1) (pc' := 202) (lv' := lw_lv b px pm i) (st' := [.retAddr b, .ref px]) (H1 := H) (by decide +kernel) rfl (fun _ => rfl) ?_
  refine am_XL.go (i := .iload_n 3) (n := 1) (pc' := 203) (lv' := lw_lv b px pm i) (st' := [.int i, .retAddr b, .ref px]) (H1 := H) (by decide +kernel) rfl (fun _ => rfl) ?_
  refine am_XL.go (i := .iconst 1) (n := 1) (pc' := 204) (lv' := lw_lv b px pm i) (st' := [.int (Int32.ofInt 1), .int i, .retAddr b, .ref px]) (H1 := H) (by decide +kernel) rfl (fun _ => rfl) ?_
  refine am_XL.go (i := .iadd) (n := 1) (pc' := 205) (lv' := lw_lv b px pm i) (st' := [.int (i + (Int32.ofInt 1)), .retAddr b, .ref px]) (H1 := H) (by decide +kernel) rfl (fun _ => rfl) ?_
  refine am_XL.goS (i := .iaload) (n := 1) (st' := [.int (xs ((i + (Int32.ofInt 1))).toNatClampNeg), .ref px]) (by decide +kernel) (am_stS_ld h1) ?_
  refine am_XL.goD (i := .invokevirtual 25) (n := 3) (pc' := 209) (lv' := lw_lv b px pm i) (st' := [.int v]) (H1 := H1) (by decide +kernel) rfl (am_oneV (own := "") (j := 95) (z := 0) (Mj := gx_m95) (as := [.int (xs ((i + (Int32.ofInt 1))).toNatClampNeg)]) (p := px) (rest := []) (v := some (.int v)) rfl rfl rfl (by decide +kernel) rfl rfl rfl (Nat.le_of_ble_eq_true rfl) hx hR1) ?_
  refine am_XL.go (i := .aload_n 2) (n := 1) (pc' := 210) (lv' := lw_lv b px pm i) (st' := [.ref pm, .int v]) (H1 := H1) (by decide +kernel) rfl (fun _ => rfl) ?_
  refine am_XL.go (i := .aload_n 0) (n := 1) (pc' := 211) (lv' := lw_lv b px pm i) (st' := [.retAddr b, .ref pm, .int v]) (H1 := H1) (by decide +kernel) rfl (fun _ => rfl) ?_
  refine am_XL.go (i := .iload_n 3) (n := 1) (pc' := 212) (lv' := lw_lv b px pm i) (st' := [.int i, .retAddr b, .ref pm, .int v]) (H1 := H1) (by decide +kernel) rfl (fun _ => rfl) ?_
  refine am_XL.go (i := .iconst 1) (n := 1) (pc' := 213) (lv' := lw_lv b px pm i) (st' := [.int (Int32.ofInt 1), .int i, .retAddr b, .ref pm, .int v]) (H1 := H1) (by decide +kernel) rfl (fun _ => rfl) ?_
  refine am_XL.go (i := .iadd) (n := 1) (pc' := 214) (lv' := lw_lv b px pm i) (st' := [.int (i + (Int32.ofInt 1)), .retAddr b, .ref pm, .int v]) (H1 := H1) (by decide +kernel) rfl (fun _ => rfl) ?_
  refine am_XL.goS (i := .iaload) (n := 1) (st' := [.int (xs ((i + (Int32.ofInt 1))).toNatClampNeg), .ref pm, .int v]) (by decide +kernel) (am_stS_ld h1) ?_
  refine am_XL.goD (i := .invokevirtual 29) (n := 3) (pc' := 218) (lv' := lw_lv b px pm i) (st' := [.int v, .int v]) (H1 := H2) (by decide +kernel) rfl (am_oneV (own := "") (j := 184) (z := 0) (Mj := gx_m184) (as := [.int (xs ((i + (Int32.ofInt 1))).toNatClampNeg)]) (p := pm) (rest := [.int v]) (v := some (.int v)) rfl rfl rfl (by decide +kernel) rfl rfl rfl (Nat.le_of_ble_eq_true rfl) hm hR2) ?_
  refine am_XL.go (i := .if_icmp .eq 464) (n := 3) (pc' := 682) (lv' := lw_lv b px pm i) (st' := []) (H1 := H2) (by decide +kernel) rfl (am_eqi rfl (by decide +kernel)) ?_
  exact kk

set_option maxHeartbeats 4000000 in
set_option maxRecDepth 100000 in
theorem lw_case3 {d px pm b L : Nat} {xs : Nat → Int32} {i : Int32} {H H1 H2 H' : am_H} {r : Option Value} {v : Int32} (h1 : am_inb (i + Int32.ofInt 1) L = true) (hx : am_isC gx_G H px "GrammarStream" = true) (hm : am_isC gx_G H1 pm "GrammarStreamModel" = true) (hR1 : am_R gx_G d 96 (.ref px :: [.int (xs ((i + (Int32.ofInt 1))).toNatClampNeg)]) H (some (.int v)) H1) (hR2 : am_R gx_G d 185 (.ref pm :: [.int (xs ((i + (Int32.ofInt 1))).toNatClampNeg)]) H1 (some (.int v)) H2) (kk : am_XL gx_G d gx_ML b L xs 682 (lw_lv b px pm i) [] H2 r H') : am_XL gx_G d gx_ML b L xs 223 (lw_lv b px pm i) [] H r H' := by
  refine am_XL.go (i := .aload_n 1) (n := 1) (pc' := 224) (lv' := lw_lv b px pm i) (st' := [.ref px]) (H1 := H) (by decide +kernel) rfl (fun _ => rfl) ?_
  refine am_XL.go (i := .aload_n 0) (n := 1) (pc' := 225) (lv' := lw_lv b px pm i) (st' := [.retAddr b, .ref px]) (H1 := H) (by decide +kernel) rfl (fun _ => rfl) ?_
  refine am_XL.go (i := .iload_n 3) (n := 1) (pc' := 226) (lv' := lw_lv b px pm i) (st' := [.int i, .retAddr b, .ref px]) (H1 := H) (by decide +kernel) rfl (fun _ => rfl) ?_
  refine am_XL.go (i := .iconst 1) (n := 1) (pc' := 227) (lv' := lw_lv b px pm i) (st' := [.int (Int32.ofInt 1), .int i, .retAddr b, .ref px]) (H1 := H) (by decide +kernel) rfl (fun _ => rfl) ?_
  refine am_XL.go (i := .iadd) (n := 1) (pc' := 228) (lv' := lw_lv b px pm i) (st' := [.int (i + (Int32.ofInt 1)), .retAddr b, .ref px]) (H1 := H) (by decide +kernel) rfl (fun _ => rfl) ?_
  refine am_XL.goS (i := .iaload) (n := 1) (st' := [.int (xs ((i + (Int32.ofInt 1))).toNatClampNeg), .ref px]) (by decide +kernel) (am_stS_ld h1) ?_
  refine am_XL.goD (i := .invokevirtual 30) (n := 3) (pc' := 232) (lv' := lw_lv b px pm i) (st' := [.int v]) (H1 := H1) (by decide +kernel) rfl (am_oneV (own := "") (j := 96) (z := 0) (Mj := gx_m96) (as := [.int (xs ((i + (Int32.ofInt 1))).toNatClampNeg)]) (p := px) (rest := []) (v := some (.int v)) rfl rfl rfl (by decide +kernel) rfl rfl rfl (Nat.le_of_ble_eq_true rfl) hx hR1) ?_
  refine am_XL.go (i := .aload_n 2) (n := 1) (pc' := 233) (lv' := lw_lv b px pm i) (st' := [.ref pm, .int v]) (H1 := H1) (by decide +kernel) rfl (fun _ => rfl) ?_
  refine am_XL.go (i := .aload_n 0) (n := 1) (pc' := 234) (lv' := lw_lv b px pm i) (st' := [.retAddr b, .ref pm, .int v]) (H1 := H1) (by decide +kernel) rfl (fun _ => rfl) ?_
  refine am_XL.go (i := .iload_n 3) (n := 1) (pc' := 235) (lv' := lw_lv b px pm i) (st' := [.int i, .retAddr b, .ref pm, .int v]) (H1 := H1) (by decide +kernel) rfl (fun _ => rfl) ?_
  refine am_XL.go (i := .iconst 1) (n := 1) (pc' := 236) (lv' := lw_lv b px pm i) (st' := [.int (Int32.ofInt 1), .int i, .retAddr b, .ref pm, .int v]) (H1 := H1) (by decide +kernel) rfl (fun _ => rfl) ?_
  refine am_XL.go (i := .iadd) (n := 1) (pc' := 237) (lv' := lw_lv b px pm i) (st' := [.int (i + (Int32.ofInt 1)), .retAddr b, .ref pm, .int v]) (H1 := H1) (by decide +kernel) rfl (fun _ => rfl) ?_
  refine am_XL.goS (i := .iaload) (n := 1) (st' := [.int (xs ((i + (Int32.ofInt 1))).toNatClampNeg), .ref pm, .int v]) (by decide +kernel) (am_stS_ld h1) ?_
  refine am_XL.goD (i := .invokevirtual 33) (n := 3) (pc' := 241) (lv' := lw_lv b px pm i) (st' := [.int v, .int v]) (H1 := H2) (by decide +kernel) rfl (am_oneV (own := "") (j := 185) (z := 0) (Mj := gx_m185) (as := [.int (xs ((i + (Int32.ofInt 1))).toNatClampNeg)]) (p := pm) (rest := [.int v]) (v := some (.int v)) rfl rfl rfl (by decide +kernel) rfl rfl rfl (Nat.le_of_ble_eq_true rfl) hm hR2) ?_
  refine am_XL.go (i := .if_icmp .eq 441) (n := 3) (pc' := 682) (lv' := lw_lv b px pm i) (st' := []) (H1 := H2) (by decide +kernel) rfl (am_eqi rfl (by decide +kernel)) ?_
  exact kk

set_option maxHeartbeats 4000000 in
set_option maxRecDepth 100000 in
theorem lw_case4 {d px pm b L : Nat} {xs : Nat → Int32} {i : Int32} {H H1 H2 H' : am_H} {r : Option Value} {v : Int32} (h1 : am_inb (i + Int32.ofInt 1) L = true) (h2 : am_inb (i + Int32.ofInt 2) L = true) (hx : am_isC gx_G H px "GrammarStream" = true) (hm : am_isC gx_G H1 pm "GrammarStreamModel" = true) (hR1 : am_R gx_G d 97 (.ref px :: [.int (xs ((i + (Int32.ofInt 1))).toNatClampNeg), .int (xs ((i + (Int32.ofInt 2))).toNatClampNeg)]) H (some (.int v)) H1) (hR2 : am_R gx_G d 186 (.ref pm :: [.int (xs ((i + (Int32.ofInt 1))).toNatClampNeg), .int (xs ((i + (Int32.ofInt 2))).toNatClampNeg)]) H1 (some (.int v)) H2) (kk : am_XL gx_G d gx_ML b L xs 682 (lw_lv b px pm i) [] H2 r H') : am_XL gx_G d gx_ML b L xs 246 (lw_lv b px pm i) [] H r H' := by
  refine am_XL.go (i := .aload_n 1) (n := 1) (pc' := 247) (lv' := lw_lv b px pm i) (st' := [.ref px]) (H1 := H) (by decide +kernel) rfl (fun _ => rfl) ?_
  refine am_XL.go (i := .aload_n 0) (n := 1) (pc' := 248) (lv' := lw_lv b px pm i) (st' := [.retAddr b, .ref px]) (H1 := H) (by decide +kernel) rfl (fun _ => rfl) ?_
  refine am_XL.go (i := .iload_n 3) (n := 1) (pc' := 249) (lv' := lw_lv b px pm i) (st' := [.int i, .retAddr b, .ref px]) (H1 := H) (by decide +kernel) rfl (fun _ => rfl) ?_
  refine am_XL.go (i := .iconst 1) (n := 1) (pc' := 250) (lv' := lw_lv b px pm i) (st' := [.int (Int32.ofInt 1), .int i, .retAddr b, .ref px]) (H1 := H) (by decide +kernel) rfl (fun _ => rfl) ?_
  refine am_XL.go (i := .iadd) (n := 1) (pc' := 251) (lv' := lw_lv b px pm i) (st' := [.int (i + (Int32.ofInt 1)), .retAddr b, .ref px]) (H1 := H) (by decide +kernel) rfl (fun _ => rfl) ?_
  refine am_XL.goS (i := .iaload) (n := 1) (st' := [.int (xs ((i + (Int32.ofInt 1))).toNatClampNeg), .ref px]) (by decide +kernel) (am_stS_ld h1) ?_
  refine am_XL.go (i := .aload_n 0) (n := 1) (pc' := 253) (lv' := lw_lv b px pm i) (st' := [.retAddr b, .int (xs ((i + (Int32.ofInt 1))).toNatClampNeg), .ref px]) (H1 := H) (by decide +kernel) rfl (fun _ => rfl) ?_
  refine am_XL.go (i := .iload_n 3) (n := 1) (pc' := 254) (lv' := lw_lv b px pm i) (st' := [.int i, .retAddr b, .int (xs ((i + (Int32.ofInt 1))).toNatClampNeg), .ref px]) (H1 := H) (by decide +kernel) rfl (fun _ => rfl) ?_
  refine am_XL.go (i := .iconst 2) (n := 1) (pc' := 255) (lv' := lw_lv b px pm i) (st' := [.int (Int32.ofInt 2), .int i, .retAddr b, .int (xs ((i + (Int32.ofInt 1))).toNatClampNeg), .ref px]) (H1 := H) (by decide +kernel) rfl (fun _ => rfl) ?_
  refine am_XL.go (i := .iadd) (n := 1) (pc' := 256) (lv' := lw_lv b px pm i) (st' := [.int (i + (Int32.ofInt 2)), .retAddr b, .int (xs ((i + (Int32.ofInt 1))).toNatClampNeg), .ref px]) (H1 := H) (by decide +kernel) rfl (fun _ => rfl) ?_
  refine am_XL.goS (i := .iaload) (n := 1) (st' := [.int (xs ((i + (Int32.ofInt 2))).toNatClampNeg), .int (xs ((i + (Int32.ofInt 1))).toNatClampNeg), .ref px]) (by decide +kernel) (am_stS_ld h2) ?_
  refine am_XL.goD (i := .invokevirtual 34) (n := 3) (pc' := 260) (lv' := lw_lv b px pm i) (st' := [.int v]) (H1 := H1) (by decide +kernel) rfl (am_oneV (own := "") (j := 97) (z := 0) (Mj := gx_m97) (as := [.int (xs ((i + (Int32.ofInt 1))).toNatClampNeg), .int (xs ((i + (Int32.ofInt 2))).toNatClampNeg)]) (p := px) (rest := []) (v := some (.int v)) rfl rfl rfl (by decide +kernel) rfl rfl rfl (Nat.le_of_ble_eq_true rfl) hx hR1) ?_
  refine am_XL.go (i := .aload_n 2) (n := 1) (pc' := 261) (lv' := lw_lv b px pm i) (st' := [.ref pm, .int v]) (H1 := H1) (by decide +kernel) rfl (fun _ => rfl) ?_
  refine am_XL.go (i := .aload_n 0) (n := 1) (pc' := 262) (lv' := lw_lv b px pm i) (st' := [.retAddr b, .ref pm, .int v]) (H1 := H1) (by decide +kernel) rfl (fun _ => rfl) ?_
  refine am_XL.go (i := .iload_n 3) (n := 1) (pc' := 263) (lv' := lw_lv b px pm i) (st' := [.int i, .retAddr b, .ref pm, .int v]) (H1 := H1) (by decide +kernel) rfl (fun _ => rfl) ?_
  refine am_XL.go (i := .iconst 1) (n := 1) (pc' := 264) (lv' := lw_lv b px pm i) (st' := [.int (Int32.ofInt 1), .int i, .retAddr b, .ref pm, .int v]) (H1 := H1) (by decide +kernel) rfl (fun _ => rfl) ?_
  refine am_XL.go (i := .iadd) (n := 1) (pc' := 265) (lv' := lw_lv b px pm i) (st' := [.int (i + (Int32.ofInt 1)), .retAddr b, .ref pm, .int v]) (H1 := H1) (by decide +kernel) rfl (fun _ => rfl) ?_
  refine am_XL.goS (i := .iaload) (n := 1) (st' := [.int (xs ((i + (Int32.ofInt 1))).toNatClampNeg), .ref pm, .int v]) (by decide +kernel) (am_stS_ld h1) ?_
  refine am_XL.go (i := .aload_n 0) (n := 1) (pc' := 267) (lv' := lw_lv b px pm i) (st' := [.retAddr b, .int (xs ((i + (Int32.ofInt 1))).toNatClampNeg), .ref pm, .int v]) (H1 := H1) (by decide +kernel) rfl (fun _ => rfl) ?_
  refine am_XL.go (i := .iload_n 3) (n := 1) (pc' := 268) (lv' := lw_lv b px pm i) (st' := [.int i, .retAddr b, .int (xs ((i + (Int32.ofInt 1))).toNatClampNeg), .ref pm, .int v]) (H1 := H1) (by decide +kernel) rfl (fun _ => rfl) ?_
  refine am_XL.go (i := .iconst 2) (n := 1) (pc' := 269) (lv' := lw_lv b px pm i) (st' := [.int (Int32.ofInt 2), .int i, .retAddr b, .int (xs ((i + (Int32.ofInt 1))).toNatClampNeg), .ref pm, .int v]) (H1 := H1) (by decide +kernel) rfl (fun _ => rfl) ?_
  refine am_XL.go (i := .iadd) (n := 1) (pc' := 270) (lv' := lw_lv b px pm i) (st' := [.int (i + (Int32.ofInt 2)), .retAddr b, .int (xs ((i + (Int32.ofInt 1))).toNatClampNeg), .ref pm, .int v]) (H1 := H1) (by decide +kernel) rfl (fun _ => rfl) ?_
  refine am_XL.goS (i := .iaload) (n := 1) (st' := [.int (xs ((i + (Int32.ofInt 2))).toNatClampNeg), .int (xs ((i + (Int32.ofInt 1))).toNatClampNeg), .ref pm, .int v]) (by decide +kernel) (am_stS_ld h2) ?_
  refine am_XL.goD (i := .invokevirtual 38) (n := 3) (pc' := 274) (lv' := lw_lv b px pm i) (st' := [.int v, .int v]) (H1 := H2) (by decide +kernel) rfl (am_oneV (own := "") (j := 186) (z := 0) (Mj := gx_m186) (as := [.int (xs ((i + (Int32.ofInt 1))).toNatClampNeg), .int (xs ((i + (Int32.ofInt 2))).toNatClampNeg)]) (p := pm) (rest := [.int v]) (v := some (.int v)) rfl rfl rfl (by decide +kernel) rfl rfl rfl (Nat.le_of_ble_eq_true rfl) hm hR2) ?_
  refine am_XL.go (i := .if_icmp .eq 408) (n := 3) (pc' := 682) (lv' := lw_lv b px pm i) (st' := []) (H1 := H2) (by decide +kernel) rfl (am_eqi rfl (by decide +kernel)) ?_
  exact kk

set_option maxHeartbeats 4000000 in
set_option maxRecDepth 100000 in
theorem lw_case5 {d px pm b L : Nat} {xs : Nat → Int32} {i : Int32} {H H1 H2 H' : am_H} {r : Option Value} {v : Int32} (h1 : am_inb (i + Int32.ofInt 1) L = true) (h2 : am_inb (i + Int32.ofInt 2) L = true) (hx : am_isC gx_G H px "GrammarStream" = true) (hm : am_isC gx_G H1 pm "GrammarStreamModel" = true) (hR1 : am_R gx_G d 100 (.ref px :: [.int (xs ((i + (Int32.ofInt 1))).toNatClampNeg), .int (xs ((i + (Int32.ofInt 2))).toNatClampNeg)]) H (some (.int v)) H1) (hR2 : am_R gx_G d 189 (.ref pm :: [.int (xs ((i + (Int32.ofInt 1))).toNatClampNeg), .int (xs ((i + (Int32.ofInt 2))).toNatClampNeg)]) H1 (some (.int v)) H2) (kk : am_XL gx_G d gx_ML b L xs 682 (lw_lv b px pm i) [] H2 r H') : am_XL gx_G d gx_ML b L xs 279 (lw_lv b px pm i) [] H r H' := by
  refine am_XL.go (i := .aload_n 1) (n := 1) (pc' := 280) (lv' := lw_lv b px pm i) (st' := [.ref px]) (H1 := H) (by decide +kernel) rfl (fun _ => rfl) ?_
  refine am_XL.go (i := .aload_n 0) (n := 1) (pc' := 281) (lv' := lw_lv b px pm i) (st' := [.retAddr b, .ref px]) (H1 := H) (by decide +kernel) rfl (fun _ => rfl) ?_
  refine am_XL.go (i := .iload_n 3) (n := 1) (pc' := 282) (lv' := lw_lv b px pm i) (st' := [.int i, .retAddr b, .ref px]) (H1 := H) (by decide +kernel) rfl (fun _ => rfl) ?_
  refine am_XL.go (i := .iconst 1) (n := 1) (pc' := 283) (lv' := lw_lv b px pm i) (st' := [.int (Int32.ofInt 1), .int i, .retAddr b, .ref px]) (H1 := H) (by decide +kernel) rfl (fun _ => rfl) ?_
  refine am_XL.go (i := .iadd) (n := 1) (pc' := 284) (lv' := lw_lv b px pm i) (st' := [.int (i + (Int32.ofInt 1)), .retAddr b, .ref px]) (H1 := H) (by decide +kernel) rfl (fun _ => rfl) ?_
  refine am_XL.goS (i := .iaload) (n := 1) (st' := [.int (xs ((i + (Int32.ofInt 1))).toNatClampNeg), .ref px]) (by decide +kernel) (am_stS_ld h1) ?_
  refine am_XL.go (i := .aload_n 0) (n := 1) (pc' := 286) (lv' := lw_lv b px pm i) (st' := [.retAddr b, .int (xs ((i + (Int32.ofInt 1))).toNatClampNeg), .ref px]) (H1 := H) (by decide +kernel) rfl (fun _ => rfl) ?_
  refine am_XL.go (i := .iload_n 3) (n := 1) (pc' := 287) (lv' := lw_lv b px pm i) (st' := [.int i, .retAddr b, .int (xs ((i + (Int32.ofInt 1))).toNatClampNeg), .ref px]) (H1 := H) (by decide +kernel) rfl (fun _ => rfl) ?_
  refine am_XL.go (i := .iconst 2) (n := 1) (pc' := 288) (lv' := lw_lv b px pm i) (st' := [.int (Int32.ofInt 2), .int i, .retAddr b, .int (xs ((i + (Int32.ofInt 1))).toNatClampNeg), .ref px]) (H1 := H) (by decide +kernel) rfl (fun _ => rfl) ?_
  refine am_XL.go (i := .iadd) (n := 1) (pc' := 289) (lv' := lw_lv b px pm i) (st' := [.int (i + (Int32.ofInt 2)), .retAddr b, .int (xs ((i + (Int32.ofInt 1))).toNatClampNeg), .ref px]) (H1 := H) (by decide +kernel) rfl (fun _ => rfl) ?_
  refine am_XL.goS (i := .iaload) (n := 1) (st' := [.int (xs ((i + (Int32.ofInt 2))).toNatClampNeg), .int (xs ((i + (Int32.ofInt 1))).toNatClampNeg), .ref px]) (by decide +kernel) (am_stS_ld h2) ?_
  refine am_XL.goD (i := .invokevirtual 39) (n := 3) (pc' := 293) (lv' := lw_lv b px pm i) (st' := [.int v]) (H1 := H1) (by decide +kernel) rfl (am_oneV (own := "") (j := 100) (z := 0) (Mj := gx_m100) (as := [.int (xs ((i + (Int32.ofInt 1))).toNatClampNeg), .int (xs ((i + (Int32.ofInt 2))).toNatClampNeg)]) (p := px) (rest := []) (v := some (.int v)) rfl rfl rfl (by decide +kernel) rfl rfl rfl (Nat.le_of_ble_eq_true rfl) hx hR1) ?_
  refine am_XL.go (i := .aload_n 2) (n := 1) (pc' := 294) (lv' := lw_lv b px pm i) (st' := [.ref pm, .int v]) (H1 := H1) (by decide +kernel) rfl (fun _ => rfl) ?_
  refine am_XL.go (i := .aload_n 0) (n := 1) (pc' := 295) (lv' := lw_lv b px pm i) (st' := [.retAddr b, .ref pm, .int v]) (H1 := H1) (by decide +kernel) rfl (fun _ => rfl) ?_
  refine am_XL.go (i := .iload_n 3) (n := 1) (pc' := 296) (lv' := lw_lv b px pm i) (st' := [.int i, .retAddr b, .ref pm, .int v]) (H1 := H1) (by decide +kernel) rfl (fun _ => rfl) ?_
  refine am_XL.go (i := .iconst 1) (n := 1) (pc' := 297) (lv' := lw_lv b px pm i) (st' := [.int (Int32.ofInt 1), .int i, .retAddr b, .ref pm, .int v]) (H1 := H1) (by decide +kernel) rfl (fun _ => rfl) ?_
  refine am_XL.go (i := .iadd) (n := 1) (pc' := 298) (lv' := lw_lv b px pm i) (st' := [.int (i + (Int32.ofInt 1)), .retAddr b, .ref pm, .int v]) (H1 := H1) (by decide +kernel) rfl (fun _ => rfl) ?_
  refine am_XL.goS (i := .iaload) (n := 1) (st' := [.int (xs ((i + (Int32.ofInt 1))).toNatClampNeg), .ref pm, .int v]) (by decide +kernel) (am_stS_ld h1) ?_
  refine am_XL.go (i := .aload_n 0) (n := 1) (pc' := 300) (lv' := lw_lv b px pm i) (st' := [.retAddr b, .int (xs ((i + (Int32.ofInt 1))).toNatClampNeg), .ref pm, .int v]) (H1 := H1) (by decide +kernel) rfl (fun _ => rfl) ?_
  refine am_XL.go (i := .iload_n 3) (n := 1) (pc' := 301) (lv' := lw_lv b px pm i) (st' := [.int i, .retAddr b, .int (xs ((i + (Int32.ofInt 1))).toNatClampNeg), .ref pm, .int v]) (H1 := H1) (by decide +kernel) rfl (fun _ => rfl) ?_
  refine am_XL.go (i := .iconst 2) (n := 1) (pc' := 302) (lv' := lw_lv b px pm i) (st' := [.int (Int32.ofInt 2), .int i, .retAddr b, .int (xs ((i + (Int32.ofInt 1))).toNatClampNeg), .ref pm, .int v]) (H1 := H1) (by decide +kernel) rfl (fun _ => rfl) ?_
  refine am_XL.go (i := .iadd) (n := 1) (pc' := 303) (lv' := lw_lv b px pm i) (st' := [.int (i + (Int32.ofInt 2)), .retAddr b, .int (xs ((i + (Int32.ofInt 1))).toNatClampNeg), .ref pm, .int v]) (H1 := H1) (by decide +kernel) rfl (fun _ => rfl) ?_
  refine am_XL.goS (i := .iaload) (n := 1) (st' := [.int (xs ((i + (Int32.ofInt 2))).toNatClampNeg), .int (xs ((i + (Int32.ofInt 1))).toNatClampNeg), .ref pm, .int v]) (by decide +kernel) (am_stS_ld h2) ?_
  refine am_XL.goD (i := .invokevirtual 42) (n := 3) (pc' := 307) (lv' := lw_lv b px pm i) (st' := [.int v, .int v]) (H1 := H2) (by decide +kernel) rfl (am_oneV (own := "") (j := 189) (z := 0) (Mj := gx_m189) (as := [.int (xs ((i + (Int32.ofInt 1))).toNatClampNeg), .int (xs ((i + (Int32.ofInt 2))).toNatClampNeg)]) (p := pm) (rest := [.int v]) (v := some (.int v)) rfl rfl rfl (by decide +kernel) rfl rfl rfl (Nat.le_of_ble_eq_true rfl) hm hR2) ?_
  refine am_XL.go (i := .if_icmp .eq 375) (n := 3) (pc' := 682) (lv' := lw_lv b px pm i) (st' := []) (H1 := H2) (by decide +kernel) rfl (am_eqi rfl (by decide +kernel)) ?_
  exact kk

set_option maxHeartbeats 4000000 in
set_option maxRecDepth 100000 in
theorem lw_case6 {d px pm b L : Nat} {xs : Nat → Int32} {i : Int32} {H H1 H2 H' : am_H} {r : Option Value} {v : Int32} (h1 : am_inb (i + Int32.ofInt 1) L = true) (hx : am_isC gx_G H px "GrammarStream" = true) (hm : am_isC gx_G H1 pm "GrammarStreamModel" = true) (hR1 : am_R gx_G d 102 (.ref px :: [.int (xs ((i + (Int32.ofInt 1))).toNatClampNeg)]) H (some (.int v)) H1) (hR2 : am_R gx_G d 191 (.ref pm :: [.int (xs ((i + (Int32.ofInt 1))).toNatClampNeg)]) H1 (some (.int v)) H2) (kk : am_XL gx_G d gx_ML b L xs 682 (lw_lv b px pm i) [] H2 r H') : am_XL gx_G d gx_ML b L xs 312 (lw_lv b px pm i) [] H r H' := by
  refine am_XL.go (i := .aload_n 1) (n := 1) (pc' := 313) (lv' := lw_lv b px pm i) (st' := [.ref px]) (H1 := H) (by decide +kernel) rfl (fun _ => rfl) ?_
  refine am_XL.go (i := .aload_n 0) (n := 1) (pc' := 314) (lv' := lw_lv b px pm i) (st' := [.retAddr b, .ref px]) (H1 := H) (by decide +kernel) rfl (fun _ => rfl) ?_
  refine am_XL.go (i := .iload_n 3) (n := 1) (pc' := 315) (lv' := lw_lv b px pm i) (st' := [.int i, .retAddr b, .ref px]) (H1 := H) (by decide +kernel) rfl (fun _ => rfl) ?_
  refine am_XL.go (i := .iconst 1) (n := 1) (pc' := 316) (lv' := lw_lv b px pm i) (st' := [.int (Int32.ofInt 1), .int i, .retAddr b, .ref px]) (H1 := H) (by decide +kernel) rfl (fun _ => rfl) ?_
  refine am_XL.go (i := .iadd) (n := 1) (pc' := 317) (lv' := lw_lv b px pm i) (st' := [.int (i + (Int32.ofInt 1)), .retAddr b, .ref px]) (H1 := H) (by decide +kernel) rfl (fun _ => rfl) ?_
  refine am_XL.goS (i := .iaload) (n := 1) (st' := [.int (xs ((i + (Int32.ofInt 1))).toNatClampNeg), .ref px]) (by decide +kernel) (am_stS_ld h1) ?_
  refine am_XL.goD (i := .invokevirtual 43) (n := 3) (pc' := 321) (lv' := lw_lv b px pm i) (st' := [.int v]) (H1 := H1) (by decide +kernel) rfl (am_oneV (own := "") (j := 102) (z := 0) (Mj := gx_m102) (as := [.int (xs ((i + (Int32.ofInt 1))).toNatClampNeg)]) (p := px) (rest := []) (v := some (.int v)) rfl rfl rfl (by decide +kernel) rfl rfl rfl (Nat.le_of_ble_eq_true rfl) hx hR1) ?_
  refine am_XL.go (i := .aload_n 2) (n := 1) (pc' := 322) (lv' := lw_lv b px pm i) (st' := [.ref pm, .int v]) (H1 := H1) (by decide +kernel) rfl (fun _ => rfl) ?_
  refine am_XL.go (i := .aload_n 0) (n := 1) (pc' := 323) (lv' := lw_lv b px pm i) (st' := [.retAddr b, .ref pm, .int v]) (H1 := H1) (by decide +kernel) rfl (fun _ => rfl) ?_
  refine am_XL.go (i := .iload_n 3) (n := 1) (pc' := 324) (lv' := lw_lv b px pm i) (st' := [.int i, .retAddr b, .ref pm, .int v]) (H1 := H1) (by decide +kernel) rfl (fun _ => rfl) ?_
  refine am_XL.go (i := .iconst 1) (n := 1) (pc' := 325) (lv' := lw_lv b px pm i) (st' := [.int (Int32.ofInt 1), .int i, .retAddr b, .ref pm, .int v]) (H1 := H1) (by decide +kernel) rfl (fun _ => rfl) ?_
  refine am_XL.go (i := .iadd) (n := 1) (pc' := 326) (lv' := lw_lv b px pm i) (st' := [.int (i + (Int32.ofInt 1)), .retAddr b, .ref pm, .int v]) (H1 := H1) (by decide +kernel) rfl (fun _ => rfl) ?_
  refine am_XL.goS (i := .iaload) (n := 1) (st' := [.int (xs ((i + (Int32.ofInt 1))).toNatClampNeg), .ref pm, .int v]) (by decide +kernel) (am_stS_ld h1) ?_
  refine am_XL.goD (i := .invokevirtual 47) (n := 3) (pc' := 330) (lv' := lw_lv b px pm i) (st' := [.int v, .int v]) (H1 := H2) (by decide +kernel) rfl (am_oneV (own := "") (j := 191) (z := 0) (Mj := gx_m191) (as := [.int (xs ((i + (Int32.ofInt 1))).toNatClampNeg)]) (p := pm) (rest := [.int v]) (v := some (.int v)) rfl rfl rfl (by decide +kernel) rfl rfl rfl (Nat.le_of_ble_eq_true rfl) hm hR2) ?_
  refine am_XL.go (i := .if_icmp .eq 352) (n := 3) (pc' := 682) (lv' := lw_lv b px pm i) (st' := []) (H1 := H2) (by decide +kernel) rfl (am_eqi rfl (by decide +kernel)) ?_
  exact kk

set_option maxHeartbeats 4000000 in
set_option maxRecDepth 100000 in
theorem lw_case7 {d px pm b L : Nat} {xs : Nat → Int32} {i : Int32} {H H1 H2 H' : am_H} {r : Option Value} {v : Int32} (h1 : am_inb (i + Int32.ofInt 1) L = true) (h2 : am_inb (i + Int32.ofInt 2) L = true) (hx : am_isC gx_G H px "GrammarStream" = true) (hm : am_isC gx_G H1 pm "GrammarStreamModel" = true) (hR1 : am_R gx_G d 103 (.ref px :: [.int (xs ((i + (Int32.ofInt 1))).toNatClampNeg), .int (xs ((i + (Int32.ofInt 2))).toNatClampNeg)]) H (some (.int v)) H1) (hR2 : am_R gx_G d 192 (.ref pm :: [.int (xs ((i + (Int32.ofInt 1))).toNatClampNeg), .int (xs ((i + (Int32.ofInt 2))).toNatClampNeg)]) H1 (some (.int v)) H2) (kk : am_XL gx_G d gx_ML b L xs 682 (lw_lv b px pm i) [] H2 r H') : am_XL gx_G d gx_ML b L xs 335 (lw_lv b px pm i) [] H r H' := by
  refine am_XL.go (i := .aload_n 1) (n := 1) (pc' := 336) (lv' := lw_lv b px pm i) (st' := [.ref px]) (H1 := H) (by decide +kernel) rfl (fun _ => rfl) ?_
  refine am_XL.go (i := .aload_n 0) (n := 1) (pc' := 337) (lv' := lw_lv b px pm i) (st' := [.retAddr b, .ref px]) (H1 := H) (by decide +kernel) rfl (fun _ => rfl) ?_
  refine am_XL.go (i := .iload_n 3) (n := 1) (pc' := 338) (lv' := lw_lv b px pm i) (st' := [.int i, .retAddr b, .ref px]) (H1 := H) (by decide +kernel) rfl (fun _ => rfl) ?_
  refine am_XL.go (i := .iconst 1) (n := 1) (pc' := 339) (lv' := lw_lv b px pm i) (st' := [.int (Int32.ofInt 1), .int i, .retAddr b, .ref px]) (H1 := H) (by decide +kernel) rfl (fun _ => rfl) ?_
  refine am_XL.go (i := .iadd) (n := 1) (pc' := 340) (lv' := lw_lv b px pm i) (st' := [.int (i + (Int32.ofInt 1)), .retAddr b, .ref px]) (H1 := H) (by decide +kernel) rfl (fun _ => rfl) ?_
  refine am_XL.goS (i := .iaload) (n := 1) (st' := [.int (xs ((i + (Int32.ofInt 1))).toNatClampNeg), .ref px]) (by decide +kernel) (am_stS_ld h1) ?_
  refine am_XL.go (i := .aload_n 0) (n := 1) (pc' := 342) (lv' := lw_lv b px pm i) (st' := [.retAddr b, .int (xs ((i + (Int32.ofInt 1))).toNatClampNeg), .ref px]) (H1 := H) (by decide +kernel) rfl (fun _ => rfl) ?_
  refine am_XL.go (i := .iload_n 3) (n := 1) (pc' := 343) (lv' := lw_lv b px pm i) (st' := [.int i, .retAddr b, .int (xs ((i + (Int32.ofInt 1))).toNatClampNeg), .ref px]) (H1 := H) (by decide +kernel) rfl (fun _ => rfl) ?_
  refine am_XL.go (i := .iconst 2) (n := 1) (pc' := 344) (lv' := lw_lv b px pm i) (st' := [.int (Int32.ofInt 2), .int i, .retAddr b, .int (xs ((i + (Int32.ofInt 1))).toNatClampNeg), .ref px]) (H1 := H) (by decide +kernel) rfl (fun _ => rfl) ?_
  refine am_XL.go (i := .iadd) (n := 1) (pc' := 345) (lv' := lw_lv b px pm i) (st' := [.int (i + (Int32.ofInt 2)), .retAddr b, .int (xs ((i + (Int32.ofInt 1))).toNatClampNeg), .ref px]) (H1 := H) (by decide +kernel) rfl (fun _ => rfl) ?_
  refine am_XL.goS (i := .iaload) (n := 1) (st' := [.int (xs ((i + (Int32.ofInt 2))).toNatClampNeg), .int (xs ((i + (Int32.ofInt 1))).toNatClampNeg), .ref px]) (by decide +kernel) (am_stS_ld h2) ?_
  refine am_XL.goD (i := .invokevirtual 48) (n := 3) (pc' := 349) (lv' := lw_lv b px pm i) (st' := [.int v]) (H1 := H1) (by decide +kernel) rfl (am_oneV (own := "") (j := 103) (z := 0) (Mj := gx_m103) (as := [.int (xs ((i + (Int32.ofInt 1))).toNatClampNeg), .int (xs ((i + (Int32.ofInt 2))).toNatClampNeg)]) (p := px) (rest := []) (v := some (.int v)) rfl rfl rfl (by decide +kernel) rfl rfl rfl (Nat.le_of_ble_eq_true rfl) hx hR1) ?_
  refine am_XL.go (i := .aload_n 2) (n := 1) (pc' := 350) (lv' := lw_lv b px pm i) (st' := [.ref pm, .int v]) (H1 := H1) (by decide +kernel) rfl (fun _ => rfl) ?_
  refine am_XL.go (i := .aload_n 0) (n := 1) (pc' := 351) (lv' := lw_lv b px pm i) (st' := [.retAddr b, .ref pm, .int v]) (H1 := H1) (by decide +kernel) rfl (fun _ => rfl) ?_
  refine am_XL.go (i := .iload_n 3) (n := 1) (pc' := 352) (lv' := lw_lv b px pm i) (st' := [.int i, .retAddr b, .ref pm, .int v]) (H1 := H1) (by decide +kernel) rfl (fun _ => rfl) ?_
  refine am_XL.go (i := .iconst 1) (n := 1) (pc' := 353) (lv' := lw_lv b px pm i) (st' := [.int (Int32.ofInt 1), .int i, .retAddr b, .ref pm, .int v]) (H1 := H1) (by decide +kernel) rfl (fun _ => rfl) ?_
  refine am_XL.go (i := .iadd) (n := 1) (pc' := 354) (lv' := lw_lv b px pm i) (st' := [.int (i + (Int32.ofInt 1)), .retAddr b, .ref pm, .int v]) (H1 := H1) (by decide +kernel) rfl (fun _ => rfl) ?_
  refine am_XL.goS (i := .iaload) (n := 1) (st' := [.int (xs ((i + (Int32.ofInt 1))).toNatClampNeg), .ref pm, .int v]) (by decide +kernel) (am_stS_ld h1) ?_
  refine am_XL.go (i := .aload_n 0) (n := 1) (pc' := 356) (lv' := lw_lv b px pm i) (st' := [.retAddr b, .int (xs ((i + (Int32.ofInt 1))).toNatClampNeg), .ref pm, .int v]) (H1 := H1) (by decide +kernel) rfl (fun _ => rfl) ?_
  refine am_XL.go (i := .iload_n 3) (n := 1) (pc' := 357) (lv' := lw_lv b px pm i) (st' := [.int i, .retAddr b, .int (xs ((i + (Int32.ofInt 1))).toNatClampNeg), .ref pm, .int v]) (H1 := H1) (by decide +kernel) rfl (fun _ => rfl) ?_
  refine am_XL.go (i := .iconst 2) (n := 1) (pc' := 358) (lv' := lw_lv b px pm i) (st' := [.int (Int32.ofInt 2), .int i, .retAddr b, .int (xs ((i + (Int32.ofInt 1))).toNatClampNeg), .ref pm, .int v]) (H1 := H1) (by decide +kernel) rfl (fun _ => rfl) ?_
  refine am_XL.go (i := .iadd) (n := 1) (pc' := 359) (lv' := lw_lv b px pm i) (st' := [.int (i + (Int32.ofInt 2)), .retAddr b, .int (xs ((i + (Int32.ofInt 1))).toNatClampNeg), .ref pm, .int v]) (H1 := H1) (by decide +kernel) rfl (fun _ => rfl) ?_
  refine am_XL.goS (i := .iaload) (n := 1) (st' := [.int (xs ((i + (Int32.ofInt 2))).toNatClampNeg), .int (xs ((i + (Int32.ofInt 1))).toNatClampNeg), .ref pm, .int v]) (by decide +kernel) (am_stS_ld h2) ?_
  refine am_XL.goD (i := .invokevirtual 52) (n := 3) (pc' := 363) (lv' := lw_lv b px pm i) (st' := [.int v, .int v]) (H1 := H2) (by decide +kernel) rfl (am_oneV (own := "") (j := 192) (z := 0) (Mj := gx_m192) (as := [.int (xs ((i + (Int32.ofInt 1))).toNatClampNeg), .int (xs ((i + (Int32.ofInt 2))).toNatClampNeg)]) (p := pm) (rest := [.int v]) (v := some (.int v)) rfl rfl rfl (by decide +kernel) rfl rfl rfl (Nat.le_of_ble_eq_true rfl) hm hR2) ?_
  refine am_XL.go (i := .if_icmp .eq 319) (n := 3) (pc' := 682) (lv' := lw_lv b px pm i) (st' := []) (H1 := H2) (by decide +kernel) rfl (am_eqi rfl (by decide +kernel)) ?_
  exact kk

set_option maxHeartbeats 4000000 in
set_option maxRecDepth 100000 in
theorem lw_case8 {d px pm b L : Nat} {xs : Nat → Int32} {i : Int32} {H H1 H2 H' : am_H} {r : Option Value} {v : Int32} (h1 : am_inb (i + Int32.ofInt 1) L = true) (hx : am_isC gx_G H px "GrammarStream" = true) (hm : am_isC gx_G H1 pm "GrammarStreamModel" = true) (hR1 : am_R gx_G d 105 (.ref px :: [.int (xs ((i + (Int32.ofInt 1))).toNatClampNeg)]) H (some (.int v)) H1) (hR2 : am_R gx_G d 193 (.ref pm :: [.int (xs ((i + (Int32.ofInt 1))).toNatClampNeg)]) H1 (some (.int v)) H2) (kk : am_XL gx_G d gx_ML b L xs 682 (lw_lv b px pm i) [] H2 r H') : am_XL gx_G d gx_ML b L xs 368 (lw_lv b px pm i) [] H r H' := by
  refine am_XL.go (i := .aload_n 1) (n := 1) (pc' := 369) (lv' := lw_lv b px pm i) (st' := [.ref px]) (H1 := H) (by decide +kernel) rfl (fun _ => rfl) ?_
  refine am_XL.go (i := .aload_n 0) (n := 1) (pc' := 370) (lv' := lw_lv b px pm i) (st' := [.retAddr b, .ref px]) (H1 := H) (by decide +kernel) rfl (fun _ => rfl) ?_
  refine am_XL.go (i := .iload_n 3) (n := 1) (pc' := 371) (lv' := lw_lv b px pm i) (st' := [.int i, .retAddr b, .ref px]) (H1 := H) (by decide +kernel) rfl (fun _ => rfl) ?_
  refine am_XL.go (i := .iconst 1) (n := 1) (pc' := 372) (lv' := lw_lv b px pm i) (st' := [.int (Int32.ofInt 1), .int i, .retAddr b, .ref px]) (H1 := H) (by decide +kernel) rfl (fun _ => rfl) ?_
  refine am_XL.go (i := .iadd) (n := 1) (pc' := 373) (lv' := lw_lv b px pm i) (st' := [.int (i + (Int32.ofInt 1)), .retAddr b, .ref px]) (H1 := H) (by decide +kernel) rfl (fun _ => rfl) ?_
  refine am_XL.goS (i := .iaload) (n := 1) (st' := [.int (xs ((i + (Int32.ofInt 1))).toNatClampNeg), .ref px]) (by decide +kernel) (am_stS_ld h1) ?_
  refine am_XL.goD (i := .invokevirtual 53) (n := 3) (pc' := 377) (lv' := lw_lv b px pm i) (st' := [.int v]) (H1 := H1) (by decide +kernel) rfl (am_oneV (own := "") (j := 105) (z := 0) (Mj := gx_m105) (as := [.int (xs ((i + (Int32.ofInt 1))).toNatClampNeg)]) (p := px) (rest := []) (v := some (.int v)) rfl rfl rfl (by decide +kernel) rfl rfl rfl (Nat.le_of_ble_eq_true rfl) hx hR1) ?_
  refine am_XL.go (i := .aload_n 2) (n := 1) (pc' := 378) (lv' := lw_lv b px pm i) (st' := [.ref pm, .int v]) (H1 := H1) (by decide +kernel) rfl (fun _ => rfl) ?_
  refine am_XL.go (i := .aload_n 0) (n := 1) (pc' := 379) (lv' := lw_lv b px pm i) (st' := [.retAddr b, .ref pm, .int v]) (H1 := H1) (by decide +kernel) rfl (fun _ => rfl) ?_
  refine am_XL.go (i := .iload_n 3) (n := 1) (pc' := 380) (lv' := lw_lv b px pm i) (st' := [.int i, .retAddr b, .ref pm, .int v]) (H1 := H1) (by decide +kernel) rfl (fun _ => rfl) ?_
  refine am_XL.go (i := .iconst 1) (n := 1) (pc' := 381) (lv' := lw_lv b px pm i) (st' := [.int (Int32.ofInt 1), .int i, .retAddr b, .ref pm, .int v]) (H1 := H1) (by decide +kernel) rfl (fun _ => rfl) ?_
  refine am_XL.go (i := .iadd) (n := 1) (pc' := 382) (lv' := lw_lv b px pm i) (st' := [.int (i + (Int32.ofInt 1)), .retAddr b, .ref pm, .int v]) (H1 := H1) (by decide +kernel) rfl (fun _ => rfl) ?_
  refine am_XL.goS (i := .iaload) (n := 1) (st' := [.int (xs ((i + (Int32.ofInt 1))).toNatClampNeg), .ref pm, .int v]) (by decide +kernel) (am_stS_ld h1) ?_
  refine am_XL.goD (i := .invokevirtual 56) (n := 3) (pc' := 386) (lv' := lw_lv b px pm i) (st' := [.int v, .int v]) (H1 := H2) (by decide +kernel) rfl (am_oneV (own := "") (j := 193) (z := 0) (Mj := gx_m193) (as := [.int (xs ((i + (Int32.ofInt 1))).toNatClampNeg)]) (p := pm) (rest := [.int v]) (v := some (.int v)) rfl rfl rfl (by decide +kernel) rfl rfl rfl (Nat.le_of_ble_eq_true rfl) hm hR2) ?_
  refine am_XL.go (i := .if_icmp .eq 296) (n := 3) (pc' := 682) (lv' := lw_lv b px pm i) (st' := []) (H1 := H2) (by decide +kernel) rfl (am_eqi rfl (by decide +kernel)) ?_
  exact kk

set_option maxHeartbeats 4000000 in
set_option maxRecDepth 100000 in
theorem lw_case9 {d px pm b L : Nat} {xs : Nat → Int32} {i : Int32} {H H1 H2 H' : am_H} {r : Option Value} {v : Int32} (h1 : am_inb (i + Int32.ofInt 1) L = true) (h2 : am_inb (i + Int32.ofInt 2) L = true) (hx : am_isC gx_G H px "GrammarStream" = true) (hm : am_isC gx_G H1 pm "GrammarStreamModel" = true) (hR1 : am_R gx_G d 106 (.ref px :: [.int (xs ((i + (Int32.ofInt 1))).toNatClampNeg), .int (xs ((i + (Int32.ofInt 2))).toNatClampNeg)]) H (some (.int v)) H1) (hR2 : am_R gx_G d 194 (.ref pm :: [.int (xs ((i + (Int32.ofInt 1))).toNatClampNeg), .int (xs ((i + (Int32.ofInt 2))).toNatClampNeg)]) H1 (some (.int v)) H2) (kk : am_XL gx_G d gx_ML b L xs 682 (lw_lv b px pm i) [] H2 r H') : am_XL gx_G d gx_ML b L xs 391 (lw_lv b px pm i) [] H r H' := by
  refine am_XL.go (i := .aload_n 1) (n := 1) (pc' := 392) (lv' := lw_lv b px pm i) (st' := [.ref px]) (H1 := H) (by decide +kernel) rfl (fun _ => rfl) ?_
  refine am_XL.go (i := .aload_n 0) (n := 1) (pc' := 393) (lv' := lw_lv b px pm i) (st' := [.retAddr b, .ref px]) (H1 := H) (by decide +kernel) rfl (fun _ => rfl) ?_
  refine am_XL.go (i := .iload_n 3) (n := 1) (pc' := 394) (lv' := lw_lv b px pm i) (st' := [.int i, .retAddr b, .ref px]) (H1 := H) (by decide +kernel) rfl (fun _ => rfl) ?_
  refine am_XL.go (i := .iconst 1) (n := 1) (pc' := 395) (lv' := lw_lv b px pm i) (st' := [.int (Int32.ofInt 1), .int i, .retAddr b, .ref px]) (H1 := H) (by decide +kernel) rfl (fun _ => rfl) ?_
  refine am_XL.go (i := .iadd) (n := 1) (pc' := 396) (lv' := lw_lv b px pm i) (st' := [.int (i + (Int32.ofInt 1)), .retAddr b, .ref px]) (H1 := H) (by decide +kernel) rfl (fun _ => rfl) ?_
  refine am_XL.goS (i := .iaload) (n := 1) (st' := [.int (xs ((i + (Int32.ofInt 1))).toNatClampNeg), .ref px]) (by decide +kernel) (am_stS_ld h1) ?_
  refine am_XL.go (i := .aload_n 0) (n := 1) (pc' := 398) (lv' := lw_lv b px pm i) (st' := [.retAddr b, .int (xs ((i + (Int32.ofInt 1))).toNatClampNeg), .ref px]) (H1 := H) (by decide +kernel) rfl (fun _ => rfl) ?_
  refine am_XL.go (i := .iload_n 3) (n := 1) (pc' := 399) (lv' := lw_lv b px pm i) (st' := [.int i, .retAddr b, .int (xs ((i + (Int32.ofInt 1))).toNatClampNeg), .ref px]) (H1 := H) (by decide +kernel) rfl (fun _ => rfl) ?_
  refine am_XL.go (i := .iconst 2) (n := 1) (pc' := 400) (lv' := lw_lv b px pm i) (st' := [.int (Int32.ofInt 2), .int i, .retAddr b, .int (xs ((i + (Int32.ofInt 1))).toNatClampNeg), .ref px]) (H1 := H) (by decide +kernel) rfl (fun _ => rfl) ?_
  refine am_XL.go (i := .iadd) (n := 1) (pc' := 401) (lv' := lw_lv b px pm i) (st' := [.int (i + (Int32.ofInt 2)), .retAddr b, .int (xs ((i + (Int32.ofInt 1))).toNatClampNeg), .ref px]) (H1 := H) (by decide +kernel) rfl (fun _ => rfl) ?_
  refine am_XL.goS (i := .iaload) (n := 1) (st' := [.int (xs ((i + (Int32.ofInt 2))).toNatClampNeg), .int (xs ((i + (Int32.ofInt 1))).toNatClampNeg), .ref px]) (by decide +kernel) (am_stS_ld h2) ?_
  refine am_XL.goD (i := .invokevirtual 57) (n := 3) (pc' := 405) (lv' := lw_lv b px pm i) (st' := [.int v]) (H1 := H1) (by decide +kernel) rfl (am_oneV (own := "") (j := 106) (z := 0) (Mj := gx_m106) (as := [.int (xs ((i + (Int32.ofInt 1))).toNatClampNeg), .int (xs ((i + (Int32.ofInt 2))).toNatClampNeg)]) (p := px) (rest := []) (v := some (.int v)) rfl rfl rfl (by decide +kernel) rfl rfl rfl (Nat.le_of_ble_eq_true rfl) hx hR1) ?_
  refine am_XL.go (i := .aload_n 2) (n := 1) (pc' := 406) (lv' := lw_lv b px pm i) (st' := [.ref pm, .int v]) (H1 := H1) (by decide +kernel) rfl (fun _ => rfl) ?_
  refine am_XL.go (i := .aload_n 0) (n := 1) (pc' := 407) (lv' := lw_lv b px pm i) (st' := [.retAddr b, .ref pm, .int v]) (H1 := H1) (by decide +kernel) rfl (fun _ => rfl) ?_
  refine am_XL.go (i := .iload_n 3) (n := 1) (pc' := 408) (lv' := lw_lv b px pm i) (st' := [.int i, .retAddr b, .ref pm, .int v]) (H1 := H1) (by decide +kernel) rfl (fun _ => rfl) ?_
  refine am_XL.go (i := .iconst 1) (n := 1) (pc' := 409) (lv' := lw_lv b px pm i) (st' := [.int (Int32.ofInt 1), .int i, .retAddr b, .ref pm, .int v]) (H1 := H1) (by decide +kernel) rfl (fun _ => rfl) ?_
  refine am_XL.go (i := .iadd) (n := 1) (pc' := 410) (lv' := lw_lv b px pm i) (st' := [.int (i + (Int32.ofInt 1)), .retAddr b, .ref pm, .int v]) (H1 := H1) (by decide +kernel) rfl (fun _ => rfl) ?_
  refine am_XL.goS (i := .iaload) (n := 1) (st' := [.int (xs ((i + (Int32.ofInt 1))).toNatClampNeg), .ref pm, .int v]) (by decide +kernel) (am_stS_ld h1) ?_
  refine am_XL.go (i := .aload_n 0) (n := 1) (pc' := 412) (lv' := lw_lv b px pm i) (st' := [.retAddr b, .int (xs ((i + (Int32.ofInt 1))).toNatClampNeg), .ref pm, .int v]) (H1 := H1) (by decide +kernel) rfl (fun _ => rfl) ?_
  refine am_XL.go (i := .iload_n 3) (n := 1) (pc' := 413) (lv' := lw_lv b px pm i) (st' := [.int i, .retAddr b, .int (xs ((i + (Int32.ofInt 1))).toNatClampNeg), .ref pm, .int v]) (H1 := H1) (by decide +kernel) rfl (fun _ => rfl) ?_
  refine am_XL.go (i := .iconst 2) (n := 1) (pc' := 414) (lv' := lw_lv b px pm i) (st' := [.int (Int32.ofInt 2), .int i, .retAddr b, .int (xs ((i + (Int32.ofInt 1))).toNatClampNeg), .ref pm, .int v]) (H1 := H1) (by decide +kernel) rfl (fun _ => rfl) ?_
  refine am_XL.go (i := .iadd) (n := 1) (pc' := 415) (lv' := lw_lv b px pm i) (st' := [.int (i + (Int32.ofInt 2)), .retAddr b, .int (xs ((i + (Int32.ofInt 1))).toNatClampNeg), .ref pm, .int v]) (H1 := H1) (by decide +kernel) rfl (fun _ => rfl) ?_
  refine am_XL.goS (i := .iaload) (n := 1) (st' := [.int (xs ((i + (Int32.ofInt 2))).toNatClampNeg), .int (xs ((i + (Int32.ofInt 1))).toNatClampNeg), .ref pm, .int v]) (by decide +kernel) (am_stS_ld h2) ?_
  refine am_XL.goD (i := .invokevirtual 60) (n := 3) (pc' := 419) (lv' := lw_lv b px pm i) (st' := [.int v, .int v]) (H1 := H2) (by decide +kernel) rfl (am_oneV (own := "") (j := 194) (z := 0) (Mj := gx_m194) (as := [.int (xs ((i + (Int32.ofInt 1))).toNatClampNeg), .int (xs ((i + (Int32.ofInt 2))).toNatClampNeg)]) (p := pm) (rest := [.int v]) (v := some (.int v)) rfl rfl rfl (by decide +kernel) rfl rfl rfl (Nat.le_of_ble_eq_true rfl) hm hR2) ?_
  refine am_XL.go (i := .if_icmp .eq 263) (n := 3) (pc' := 682) (lv' := lw_lv b px pm i) (st' := []) (H1 := H2) (by decide +kernel) rfl (am_eqi rfl (by decide +kernel)) ?_
  exact kk

set_option maxHeartbeats 4000000 in
set_option maxRecDepth 100000 in
theorem lw_case10 {d px pm b L : Nat} {xs : Nat → Int32} {i : Int32} {H H1 H2 H' : am_H} {r : Option Value} {v : Int32} (h1 : am_inb (i + Int32.ofInt 1) L = true) (h2 : am_inb (i + Int32.ofInt 2) L = true) (hx : am_isC gx_G H px "GrammarStream" = true) (hm : am_isC gx_G H1 pm "GrammarStreamModel" = true) (hR1 : am_R gx_G d 107 (.ref px :: [.int (xs ((i + (Int32.ofInt 1))).toNatClampNeg), .int (xs ((i + (Int32.ofInt 2))).toNatClampNeg)]) H (some (.int v)) H1) (hR2 : am_R gx_G d 195 (.ref pm :: [.int (xs ((i + (Int32.ofInt 1))).toNatClampNeg), .int (xs ((i + (Int32.ofInt 2))).toNatClampNeg)]) H1 (some (.int v)) H2) (kk : am_XL gx_G d gx_ML b L xs 682 (lw_lv b px pm i) [] H2 r H') : am_XL gx_G d gx_ML b L xs 424 (lw_lv b px pm i) [] H r H' := by
  refine am_XL.go (i := .aload_n 1) (n := 1) (pc' := 425) (lv' := lw_lv b px pm i) (st' := [.ref px]) (H1 := H) (by decide +kernel) rfl (fun _ => rfl) ?_
  refine am_XL.go (i := .aload_n 0) (n := 1) (pc' := 426) (lv' := lw_lv b px pm i) (st' := [.retAddr b, .ref px]) (H1 := H) (by decide +kernel) rfl (fun _ => rfl) ?_
  refine am_XL.go (i := .iload_n 3) (n := 1) (pc' := 427) (lv' := lw_lv b px pm i) (st' := [.int i, .retAddr b, .ref px]) (H1 := H) (by decide +kernel) rfl (fun _ => rfl) ?_
  refine am_XL.go (i := .iconst 1) (n := 1) (pc' := 428) (lv' := lw_lv b px pm i) (st' := [.int (Int32.ofInt 1), .int i, .retAddr b, .ref px]) (H1 := H) (by decide +kernel) rfl (fun _ => rfl) ?_
  refine am_XL.go (i := .iadd) (n := 1) (pc' := 429) (lv' := lw_lv b px pm i) (st' := [.int (i + (Int32.ofInt 1)), .retAddr b, .ref px]) (H1 := H) (by decide +kernel) rfl (fun _ => rfl) ?_
  refine am_XL.goS (i := .iaload) (n := 1) (st' := [.int (xs ((i + (Int32.ofInt 1))).toNatClampNeg), .ref px]) (by decide +kernel) (am_stS_ld h1) ?_
  refine am_XL.go (i := .aload_n 0) (n := 1) (pc' := 431) (lv' := lw_lv b px pm i) (st' := [.retAddr b, .int (xs ((i + (Int32.ofInt 1))).toNatClampNeg), .ref px]) (H1 := H) (by decide +kernel) rfl (fun _ => rfl) ?_
  refine am_XL.go (i := .iload_n 3) (n := 1) (pc' := 432) (lv' := lw_lv b px pm i) (st' := [.int i, .retAddr b, .int (xs ((i + (Int32.ofInt 1))).toNatClampNeg), .ref px]) (H1 := H) (by decide +kernel) rfl (fun _ => rfl) ?_
  refine am_XL.go (i := .iconst 2) (n := 1) (pc' := 433) (lv' := lw_lv b px pm i) (st' := [.int (Int32.ofInt 2), .int i, .retAddr b, .int (xs ((i + (Int32.ofInt 1))).toNatClampNeg), .ref px]) (H1 := H) (by decide +kernel) rfl (fun _ => rfl) ?_
  refine am_XL.go (i := .iadd) (n := 1) (pc' := 434) (lv' := lw_lv b px pm i) (st' := [.int (i + (Int32.ofInt 2)), .retAddr b, .int (xs ((i + (Int32.ofInt 1))).toNatClampNeg), .ref px]) (H1 := H) (by decide +kernel) rfl (fun _ => rfl) ?_
  refine am_XL.goS (i := .iaload) (n := 1) (st' := [.int (xs ((i + (Int32.ofInt 2))).toNatClampNeg), .int (xs ((i + (Int32.ofInt 1))).toNatClampNeg), .ref px]) (by decide +kernel) (am_stS_ld h2) ?_
  refine am_XL.goD (i := .invokevirtual 61) (n := 3) (pc' := 438) (lv' := lw_lv b px pm i) (st' := [.int v]) (H1 := H1) (by decide +kernel) rfl (am_oneV (own := "") (j := 107) (z := 0) (Mj := gx_m107) (as := [.int (xs ((i + (Int32.ofInt 1))).toNatClampNeg), .int (xs ((i + (Int32.ofInt 2))).toNatClampNeg)]) (p := px) (rest := []) (v := some (.int v)) rfl rfl rfl (by decide +kernel) rfl rfl rfl (Nat.le_of_ble_eq_true rfl) hx hR1) ?_
  refine am_XL.go (i := .aload_n 2) (n := 1) (pc' := 439) (lv' := lw_lv b px pm i) (st' := [.ref pm, .int v]) (H1 := H1) (by decide +kernel) rfl (fun _ => rfl) ?_
  refine am_XL.go (i := .aload_n 0) (n := 1) (pc' := 440) (lv' := lw_lv b px pm i) (st' := [.retAddr b, .ref pm, .int v]) (H1 := H1) (by decide +kernel) rfl (fun _ => rfl) ?_
  refine am_XL.go (i := .iload_n 3) (n := 1) (pc' := 441) (lv' := lw_lv b px pm i) (st' := [.int i, .retAddr b, .ref pm, .int v]) (H1 := H1) (by decide +kernel) rfl (fun _ => rfl) ?_
  refine am_XL.go (i := .iconst 1) (n := 1) (pc' := 442) (lv' := lw_lv b px pm i) (st' := [.int (Int32.ofInt 1), .int i, .retAddr b, .ref pm, .int v]) (H1 := H1) (by decide +kernel) rfl (fun _ => rfl) ?_
  refine am_XL.go (i := .iadd) (n := 1) (pc' := 443) (lv' := lw_lv b px pm i) (st' := [.int (i + (Int32.ofInt 1)), .retAddr b, .ref pm, .int v]) (H1 := H1) (by decide +kernel) rfl (fun _ => rfl) ?_
  refine am_XL.goS (i := .iaload) (n := 1) (st' := [.int (xs ((i + (Int32.ofInt 1))).toNatClampNeg), .ref pm, .int v]) (by decide +kernel) (am_stS_ld h1) ?_
  refine am_XL.go (i := .aload_n 0) (n := 1) (pc' := 445) (lv' := lw_lv b px pm i) (st' := [.retAddr b, .int (xs ((i + (Int32.ofInt 1))).toNatClampNeg), .ref pm, .int v]) (H1 := H1) (by decide +kernel) rfl (fun _ => rfl) ?_
  refine am_XL.go (i := .iload_n 3) (n := 1) (pc' := 446) (lv' := lw_lv b px pm i) (st' := [.int i, .retAddr b, .int (xs ((i + (Int32.ofInt 1))).toNatClampNeg), .ref pm, .int v]) (H1 := H1) (by decide +kernel) rfl (fun _ => rfl) ?_
  refine am_XL.go (i := .iconst 2) (n := 1) (pc' := 447) (lv' := lw_lv b px pm i) (st' := [.int (Int32.ofInt 2), .int i, .retAddr b, .int (xs ((i + (Int32.ofInt 1))).toNatClampNeg), .ref pm, .int v]) (H1 := H1) (by decide +kernel) rfl (fun _ => rfl) ?_
  refine am_XL.go (i := .iadd) (n := 1) (pc' := 448) (lv' := lw_lv b px pm i) (st' := [.int (i + (Int32.ofInt 2)), .retAddr b, .int (xs ((i + (Int32.ofInt 1))).toNatClampNeg), .ref pm, .int v]) (H1 := H1) (by decide +kernel) rfl (fun _ => rfl) ?_
  refine am_XL.goS (i := .iaload) (n := 1) (st' := [.int (xs ((i + (Int32.ofInt 2))).toNatClampNeg), .int (xs ((i + (Int32.ofInt 1))).toNatClampNeg), .ref pm, .int v]) (by decide +kernel) (am_stS_ld h2) ?_
  refine am_XL.goD (i := .invokevirtual 64) (n := 3) (pc' := 452) (lv' := lw_lv b px pm i) (st' := [.int v, .int v]) (H1 := H2) (by decide +kernel) rfl (am_oneV (own := "") (j := 195) (z := 0) (Mj := gx_m195) (as := [.int (xs ((i + (Int32.ofInt 1))).toNatClampNeg), .int (xs ((i + (Int32.ofInt 2))).toNatClampNeg)]) (p := pm) (rest := [.int v]) (v := some (.int v)) rfl rfl rfl (by decide +kernel) rfl rfl rfl (Nat.le_of_ble_eq_true rfl) hm hR2) ?_
  refine am_XL.go (i := .if_icmp .eq 230) (n := 3) (pc' := 682) (lv' := lw_lv b px pm i) (st' := []) (H1 := H2) (by decide +kernel) rfl (am_eqi rfl (by decide +kernel)) ?_
  exact kk

set_option maxHeartbeats 4000000 in
set_option maxRecDepth 100000 in
theorem lw_case11 {d px pm b L : Nat} {xs : Nat → Int32} {i : Int32} {H H1 H2 H' : am_H} {r : Option Value} {v : Int64} (h1 : am_inb (i + Int32.ofInt 1) L = true) (hx : am_isC gx_G H px "GrammarStream" = true) (hm : am_isC gx_G H1 pm "GrammarStreamModel" = true) (hR1 : am_R gx_G d 108 (.ref px :: [.int (xs ((i + (Int32.ofInt 1))).toNatClampNeg)]) H (some (.long v)) H1) (hR2 : am_R gx_G d 196 (.ref pm :: [.int (xs ((i + (Int32.ofInt 1))).toNatClampNeg)]) H1 (some (.long v)) H2) (kk : am_XL gx_G d gx_ML b L xs 682 (lw_lv b px pm i) [] H2 r H') : am_XL gx_G d gx_ML b L xs 457 (lw_lv b px pm i) [] H r H' := by
  refine am_XL.go (i := .aload_n 1) (n := 1) (pc' := 458) (lv' := lw_lv b px pm i) (st' := [.ref px]) (H1 := H) (by decide +kernel) rfl (fun _ => rfl) ?_
  refine am_XL.go (i := .aload_n 0) (n := 1) (pc' := 459) (lv' := lw_lv b px pm i) (st' := [.retAddr b, .ref px]) (H1 := H) (by decide +kernel) rfl (fun _ => rfl) ?_
  refine am_XL.go (i := .iload_n 3) (n := 1) (pc' := 460) (lv' := lw_lv b px pm i) (st' := [.int i, .retAddr b, .ref px]) (H1 := H) (by decide +kernel) rfl (fun _ => rfl) ?_
  refine am_XL.go (i := .iconst 1) (n := 1) (pc' := 461) (lv' := lw_lv b px pm i) (st' := [.int (Int32.ofInt 1), .int i, .retAddr b, .ref px]) (H1 := H) (by decide +kernel) rfl (fun _ => rfl) ?_
  refine am_XL.go (i := .iadd) (n := 1) (pc' := 462) (lv' := lw_lv b px pm i) (st' := [.int (i + (Int32.ofInt 1)), .retAddr b, .ref px]) (H1 := H) (by decide +kernel) rfl (fun _ => rfl) ?_
  refine am_XL.goS (i := .iaload) (n := 1) (st' := [.int (xs ((i + (Int32.ofInt 1))).toNatClampNeg), .ref px]) (by decide +kernel) (am_stS_ld h1) ?_
  refine am_XL.goD (i := .invokevirtual 65) (n := 3) (pc' := 466) (lv' := lw_lv b px pm i) (st' := [.long v]) (H1 := H1) (by decide +kernel) rfl (am_oneV (own := "") (j := 108) (z := 0) (Mj := gx_m108) (as := [.int (xs ((i + (Int32.ofInt 1))).toNatClampNeg)]) (p := px) (rest := []) (v := some (.long v)) rfl rfl rfl (by decide +kernel) rfl rfl rfl (Nat.le_of_ble_eq_true rfl) hx hR1) ?_
  refine am_XL.go (i := .aload_n 2) (n := 1) (pc' := 467) (lv' := lw_lv b px pm i) (st' := [.ref pm, .long v]) (H1 := H1) (by decide +kernel) rfl (fun _ => rfl) ?_
  refine am_XL.go (i := .aload_n 0) (n := 1) (pc' := 468) (lv' := lw_lv b px pm i) (st' := [.retAddr b, .ref pm, .long v]) (H1 := H1) (by decide +kernel) rfl (fun _ => rfl) ?_
  refine am_XL.go (i := .iload_n 3) (n := 1) (pc' := 469) (lv' := lw_lv b px pm i) (st' := [.int i, .retAddr b, .ref pm, .long v]) (H1 := H1) (by decide +kernel) rfl (fun _ => rfl) ?_
  refine am_XL.go (i := .iconst 1) (n := 1) (pc' := 470) (lv' := lw_lv b px pm i) (st' := [.int (Int32.ofInt 1), .int i, .retAddr b, .ref pm, .long v]) (H1 := H1) (by decide +kernel) rfl (fun _ => rfl) ?_
  refine am_XL.go (i := .iadd) (n := 1) (pc' := 471) (lv' := lw_lv b px pm i) (st' := [.int (i + (Int32.ofInt 1)), .retAddr b, .ref pm, .long v]) (H1 := H1) (by decide +kernel) rfl (fun _ => rfl) ?_
  refine am_XL.goS (i := .iaload) (n := 1) (st' := [.int (xs ((i + (Int32.ofInt 1))).toNatClampNeg), .ref pm, .long v]) (by decide +kernel) (am_stS_ld h1) ?_
  refine am_XL.goD (i := .invokevirtual 69) (n := 3) (pc' := 475) (lv' := lw_lv b px pm i) (st' := [.long v, .long v]) (H1 := H2) (by decide +kernel) rfl (am_oneV (own := "") (j := 196) (z := 0) (Mj := gx_m196) (as := [.int (xs ((i + (Int32.ofInt 1))).toNatClampNeg)]) (p := pm) (rest := [.long v]) (v := some (.long v)) rfl rfl rfl (by decide +kernel) rfl rfl rfl (Nat.le_of_ble_eq_true rfl) hm hR2) ?_
  refine am_XL.go (i := .lcmp) (n := 1) (pc' := 476) (lv' := lw_lv b px pm i) (st' := [.int (lg_cmp v v)]) (H1 := H2) (by decide +kernel) rfl (fun _ => rfl) ?_
  refine am_XL.go (i := .ifCond .eq 206) (n := 3) (pc' := 682) (lv' := lw_lv b px pm i) (st' := []) (H1 := H2) (by decide +kernel) rfl (am_eq0 (am_lcmp_self v) (by decide +kernel)) ?_
  exact kk

set_option maxHeartbeats 4000000 in
set_option maxRecDepth 100000 in
theorem lw_case12 {d px pm b L : Nat} {xs : Nat → Int32} {i : Int32} {H H1 H2 H' : am_H} {r : Option Value} {v : Int32} (h1 : am_inb (i + Int32.ofInt 1) L = true) (h2 : am_inb (i + Int32.ofInt 2) L = true) (h3 : am_inb (i + Int32.ofInt 3) L = true) (hx : am_isC gx_G H px "GrammarStream" = true) (hm : am_isC gx_G H1 pm "GrammarStreamModel" = true) (hR1 : am_R gx_G d 117 (.ref px :: [.long ((((xs ((i + (Int32.ofInt 1))).toNatClampNeg)).toInt64 <<< (((Int8.ofInt 32).toInt32).toInt64 &&& 63)) ||| (((xs ((i + (Int32.ofInt 2))).toNatClampNeg)).toInt64 &&& 4294967295)), .int (xs ((i + (Int32.ofInt 3))).toNatClampNeg)]) H (some (.int v)) H1) (hR2 : am_R gx_G d 199 (.ref pm :: [.long ((((xs ((i + (Int32.ofInt 1))).toNatClampNeg)).toInt64 <<< (((Int8.ofInt 32).toInt32).toInt64 &&& 63)) ||| (((xs ((i + (Int32.ofInt 2))).toNatClampNeg)).toInt64 &&& 4294967295)), .int (xs ((i + (Int32.ofInt 3))).toNatClampNeg)]) H1 (some (.int v)) H2) (kk : am_XL gx_G d gx_ML b L xs 682 (lw_lv b px pm i) [] H2 r H') : am_XL gx_G d gx_ML b L xs 481 (lw_lv b px pm i) [] H r H' := by
  refine am_XL.go (i := .aload_n 1) (n := 1) (pc' := 482) (lv' := lw_lv b px pm i) (st' := [.ref px]) (H1 := H) (by decide +kernel) rfl (fun _ => rfl) ?_
  refine am_XL.go (i := .aload_n 0) (n := 1) (pc' := 483) (lv' := lw_lv b px pm i) (st' := [.retAddr b, .ref px]) (H1 := H) (by decide +kernel) rfl (fun _ => rfl) ?_
  refine am_XL.go (i := .iload_n 3) (n := 1) (pc' := 484) (lv' := lw_lv b px pm i) (st' := [.int i, .retAddr b, .ref px]) (H1 := H) (by decide +kernel) rfl (fun _ => rfl) ?_
  refine am_XL.go (i := .iconst 1) (n := 1) (pc' := 485) (lv' := lw_lv b px pm i) (st' := [.int (Int32.ofInt 1), .int i, .retAddr b, .ref px]) (H1 := H) (by decide +kernel) rfl (fun _ => rfl) ?_
  refine am_XL.go (i := .iadd) (n := 1) (pc' := 486) (lv' := lw_lv b px pm i) (st' := [.int (i + (Int32.ofInt 1)), .retAddr b, .ref px]) (H1 := H) (by decide +kernel) rfl (fun _ => rfl) ?_
  refine am_XL.goS (i := .iaload) (n := 1) (st' := [.int (xs ((i + (Int32.ofInt 1))).toNatClampNeg), .ref px]) (by decide +kernel) (am_stS_ld h1) ?_
  refine am_XL.go (i := .i2l) (n := 1) (pc' := 488) (lv' := lw_lv b px pm i) (st' := [.long ((xs ((i + (Int32.ofInt 1))).toNatClampNeg)).toInt64, .ref px]) (H1 := H) (by decide +kernel) rfl (fun _ => rfl) ?_
  refine am_XL.go (i := .bipush 32) (n := 2) (pc' := 490) (lv' := lw_lv b px pm i) (st' := [.int (Int8.ofInt 32).toInt32, .long ((xs ((i + (Int32.ofInt 1))).toNatClampNeg)).toInt64, .ref px]) (H1 := H) (by decide +kernel) rfl (fun _ => rfl) ?_
  refine am_XL.go (i := .lshl) (n := 1) (pc' := 491) (lv' := lw_lv b px pm i) (st' := [.long (((xs ((i + (Int32.ofInt 1))).toNatClampNeg)).toInt64 <<< (((Int8.ofInt 32).toInt32).toInt64 &&& 63)), .ref px]) (H1 := H) (by decide +kernel) rfl (fun _ => rfl) ?_
  refine am_XL.go (i := .aload_n 0) (n := 1) (pc' := 492) (lv' := lw_lv b px pm i) (st' := [.retAddr b, .long (((xs ((i + (Int32.ofInt 1))).toNatClampNeg)).toInt64 <<< (((Int8.ofInt 32).toInt32).toInt64 &&& 63)), .ref px]) (H1 := H) (by decide +kernel) rfl (fun _ => rfl) ?_
  refine am_XL.go (i := .iload_n 3) (n := 1) (pc' := 493) (lv' := lw_lv b px pm i) (st' := [.int i, .retAddr b, .long (((xs ((i + (Int32.ofInt 1))).toNatClampNeg)).toInt64 <<< (((Int8.ofInt 32).toInt32).toInt64 &&& 63)), .ref px]) (H1 := H) (by decide +kernel) rfl (fun _ => rfl) ?_
  refine am_XL.go (i := .iconst 2) (n := 1) (pc' := 494) (lv' := lw_lv b px pm i) (st' := [.int (Int32.ofInt 2), .int i, .retAddr b, .long (((xs ((i + (Int32.ofInt 1))).toNatClampNeg)).toInt64 <<< (((Int8.ofInt 32).toInt32).toInt64 &&& 63)), .ref px]) (H1 := H) (by decide +kernel) rfl (fun _ => rfl) ?_
  refine am_XL.go (i := .iadd) (n := 1) (pc' := 495) (lv' := lw_lv b px pm i) (st' := [.int (i + (Int32.ofInt 2)), .retAddr b, .long (((xs ((i + (Int32.ofInt 1))).toNatClampNeg)).toInt64 <<< (((Int8.ofInt 32).toInt32).toInt64 &&& 63)), .ref px]) (H1 := H) (by decide +kernel) rfl (fun _ => rfl) ?_
  refine am_XL.goS (i := .iaload) (n := 1) (st' := [.int (xs ((i + (Int32.ofInt 2))).toNatClampNeg), .long (((xs ((i + (Int32.ofInt 1))).toNatClampNeg)).toInt64 <<< (((Int8.ofInt 32).toInt32).toInt64 &&& 63)), .ref px]) (by decide +kernel) (am_stS_ld h2) ?_
  refine am_XL.go (i := .i2l) (n := 1) (pc' := 497) (lv' := lw_lv b px pm i) (st' := [.long ((xs ((i + (Int32.ofInt 2))).toNatClampNeg)).toInt64, .long (((xs ((i + (Int32.ofInt 1))).toNatClampNeg)).toInt64 <<< (((Int8.ofInt 32).toInt32).toInt64 &&& 63)), .ref px]) (H1 := H) (by decide +kernel) rfl (fun _ => rfl) ?_
  refine am_XL.go (i := .ldc2_w 13) (n := 3) (pc' := 500) (lv' := lw_lv b px pm i) (st' := [.long 4294967295, .long ((xs ((i + (Int32.ofInt 2))).toNatClampNeg)).toInt64, .long (((xs ((i + (Int32.ofInt 1))).toNatClampNeg)).toInt64 <<< (((Int8.ofInt 32).toInt32).toInt64 &&& 63)), .ref px]) (H1 := H) (by decide +kernel) rfl (am_one_ldc2 (a := 0) (c := 0) (v := 4294967295) (by decide +kernel)) ?_
  refine am_XL.go (i := .land) (n := 1) (pc' := 501) (lv' := lw_lv b px pm i) (st' := [.long (((xs ((i + (Int32.ofInt 2))).toNatClampNeg)).toInt64 &&& 4294967295), .long (((xs ((i + (Int32.ofInt 1))).toNatClampNeg)).toInt64 <<< (((Int8.ofInt 32).toInt32).toInt64 &&& 63)), .ref px]) (H1 := H) (by decide +kernel) rfl (fun _ => rfl) ?_
  refine am_XL.go (i := .lor) (n := 1) (pc' := 502) (lv' := lw_lv b px pm i) (st' := [.long ((((xs ((i + (Int32.ofInt 1))).toNatClampNeg)).toInt64 <<< (((Int8.ofInt 32).toInt32).toInt64 &&& 63)) ||| (((xs ((i + (Int32.ofInt 2))).toNatClampNeg)).toInt64 &&& 4294967295)), .ref px]) (H1 := H) (by decide +kernel) rfl (fun _ => rfl) ?_
  refine am_XL.go (i := .aload_n 0) (n := 1) (pc' := 503) (lv' := lw_lv b px pm i) (st' := [.retAddr b, .long ((((xs ((i + (Int32.ofInt 1))).toNatClampNeg)).toInt64 <<< (((Int8.ofInt 32).toInt32).toInt64 &&& 63)) ||| (((xs ((i + (Int32.ofInt 2))).toNatClampNeg)).toInt64 &&& 4294967295)), .ref px]) (H1 := H) (by decide +kernel) rfl (fun _ => rfl) ?_
  refine am_XL.go (i := .iload_n 3) (n := 1) (pc' := 504) (lv' := lw_lv b px pm i) (st' := [.int i, .retAddr b, .long ((((xs ((i + (Int32.ofInt 1))).toNatClampNeg)).toInt64 <<< (((Int8.ofInt 32).toInt32).toInt64 &&& 63)) ||| (((xs ((i + (Int32.ofInt 2))).toNatClampNeg)).toInt64 &&& 4294967295)), .ref px]) (H1 := H) (by decide +kernel) rfl (fun _ => rfl) ?_
  refine am_XL.go (i := .iconst 3) (n := 1) (pc' := 505) (lv' := lw_lv b px pm i) (st' := [.int (Int32.ofInt 3), .int i, .retAddr b, .long ((((xs ((i + (Int32.ofInt 1))).toNatClampNeg)).toInt64 <<< (((Int8.ofInt 32).toInt32).toInt64 &&& 63)) ||| (((xs ((i + (Int32.ofInt 2))).toNatClampNeg)).toInt64 &&& 4294967295)), .ref px]) (H1 := H) (by decide +kernel) rfl (fun _ => rfl) ?_
  refine am_XL.go (i := .iadd) (n := 1) (pc' := 506) (lv' := lw_lv b px pm i) (st' := [.int (i + (Int32.ofInt 3)), .retAddr b, .long ((((xs ((i + (Int32.ofInt 1))).toNatClampNeg)).toInt64 <<< (((Int8.ofInt 32).toInt32).toInt64 &&& 63)) ||| (((xs ((i + (Int32.ofInt 2))).toNatClampNeg)).toInt64 &&& 4294967295)), .ref px]) (H1 := H) (by decide +kernel) rfl (fun _ => rfl) ?_
  refine am_XL.goS (i := .iaload) (n := 1) (st' := [.int (xs ((i + (Int32.ofInt 3))).toNatClampNeg), .long ((((xs ((i + (Int32.ofInt 1))).toNatClampNeg)).toInt64 <<< (((Int8.ofInt 32).toInt32).toInt64 &&& 63)) ||| (((xs ((i + (Int32.ofInt 2))).toNatClampNeg)).toInt64 &&& 4294967295)), .ref px]) (by decide +kernel) (am_stS_ld h3) ?_
  refine am_XL.goD (i := .invokevirtual 70) (n := 3) (pc' := 510) (lv' := lw_lv b px pm i) (st' := [.int v]) (H1 := H1) (by decide +kernel) rfl (am_oneV (own := "") (j := 117) (z := 0) (Mj := gx_m117) (as := [.long ((((xs ((i + (Int32.ofInt 1))).toNatClampNeg)).toInt64 <<< (((Int8.ofInt 32).toInt32).toInt64 &&& 63)) ||| (((xs ((i + (Int32.ofInt 2))).toNatClampNeg)).toInt64 &&& 4294967295)), .int (xs ((i + (Int32.ofInt 3))).toNatClampNeg)]) (p := px) (rest := []) (v := some (.int v)) rfl rfl rfl (by decide +kernel) rfl rfl rfl (Nat.le_of_ble_eq_true rfl) hx hR1) ?_
  refine am_XL.go (i := .aload_n 2) (n := 1) (pc' := 511) (lv' := lw_lv b px pm i) (st' := [.ref pm, .int v]) (H1 := H1) (by decide +kernel) rfl (fun _ => rfl) ?_
  refine am_XL.go (i := .aload_n 0) (n := 1) (pc' := 512) (lv' := lw_lv b px pm i) (st' := [.retAddr b, .ref pm, .int v]) (H1 := H1) (by decide +kernel) rfl (fun _ => rfl) ?_
  refine am_XL.go (i := .iload_n 3) (n := 1) (pc' := 513) (lv' := lw_lv b px pm i) (st' := [.int i, .retAddr b, .ref pm, .int v]) (H1 := H1) (by decide +kernel) rfl (fun _ => rfl) ?_
  refine am_XL.go (i := .iconst 1) (n := 1) (pc' := 514) (lv' := lw_lv b px pm i) (st' := [.int (Int32.ofInt 1), .int i, .retAddr b, .ref pm, .int v]) (H1 := H1) (by decide +kernel) rfl (fun _ => rfl) ?_
  refine am_XL.go (i := .iadd) (n := 1) (pc' := 515) (lv' := lw_lv b px pm i) (st' := [.int (i + (Int32.ofInt 1)), .retAddr b, .ref pm, .int v]) (H1 := H1) (by decide +kernel) rfl (fun _ => rfl) ?_
  refine am_XL.goS (i := .iaload) (n := 1) (st' := [.int (xs ((i + (Int32.ofInt 1))).toNatClampNeg), .ref pm, .int v]) (by decide +kernel) (am_stS_ld h1) ?_
  refine am_XL.go (i := .i2l) (n := 1) (pc' := 517) (lv' := lw_lv b px pm i) (st' := [.long ((xs ((i + (Int32.ofInt 1))).toNatClampNeg)).toInt64, .ref pm, .int v]) (H1 := H1) (by decide +kernel) rfl (fun _ => rfl) ?_
  refine am_XL.go (i := .bipush 32) (n := 2) (pc' := 519) (lv' := lw_lv b px pm i) (st' := [.int (Int8.ofInt 32).toInt32, .long ((xs ((i + (Int32.ofInt 1))).toNatClampNeg)).toInt64, .ref pm, .int v]) (H1 := H1) (by decide +kernel) rfl (fun _ => rfl) ?_
  refine am_XL.go (i := .lshl) (n := 1) (pc' := 520) (lv' := lw_lv b px pm i) (st' := [.long (((xs ((i + (Int32.ofInt 1))).toNatClampNeg)).toInt64 <<< (((Int8.ofInt 32).toInt32).toInt64 &&& 63)), .ref pm, .int v]) (H1 := H1) (by decide +kernel) rfl (fun _ => rfl) ?_
  refine am_XL.go (i := .aload_n 0) (n := 1) (pc' := 521) (lv' := lw_lv b px pm i) (st' := [.retAddr b, .long (((xs ((i + (Int32.ofInt 1))).toNatClampNeg)).toInt64 <<< (((Int8.ofInt 32).toInt32).toInt64 &&& 63)), .ref pm, .int v]) (H1 := H1) (by decide +kernel) rfl (fun _ => rfl) ?_
  refine am_XL.go (i := .iload_n 3) (n := 1) (pc' := 522) (lv' := lw_lv b px pm i) (st' := [.int i, .retAddr b, .long (((xs ((i + (Int32.ofInt 1))).toNatClampNeg)).toInt64 <<< (((Int8.ofInt 32).toInt32).toInt64 &&& 63)), .ref pm, .int v]) (H1 := H1) (by decide +kernel) rfl (fun _ => rfl) ?_
  refine am_XL.go (i := .iconst 2) (n := 1) (pc' := 523) (lv' := lw_lv b px pm i) (st' := [.int (Int32.ofInt 2), .int i, .retAddr b, .long (((xs ((i + (Int32.ofInt 1))).toNatClampNeg)).toInt64 <<< (((Int8.ofInt 32).toInt32).toInt64 &&& 63)), .ref pm, .int v]) (H1 := H1) (by decide +kernel) rfl (fun _ => rfl) ?_
  refine am_XL.go (i := .iadd) (n := 1) (pc' := 524) (lv' := lw_lv b px pm i) (st' := [.int (i + (Int32.ofInt 2)), .retAddr b, .long (((xs ((i + (Int32.ofInt 1))).toNatClampNeg)).toInt64 <<< (((Int8.ofInt 32).toInt32).toInt64 &&& 63)), .ref pm, .int v]) (H1 := H1) (by decide +kernel) rfl (fun _ => rfl) ?_
  refine am_XL.goS (i := .iaload) (n := 1) (st' := [.int (xs ((i + (Int32.ofInt 2))).toNatClampNeg), .long (((xs ((i + (Int32.ofInt 1))).toNatClampNeg)).toInt64 <<< (((Int8.ofInt 32).toInt32).toInt64 &&& 63)), .ref pm, .int v]) (by decide +kernel) (am_stS_ld h2) ?_
  refine am_XL.go (i := .i2l) (n := 1) (pc' := 526) (lv' := lw_lv b px pm i) (st' := [.long ((xs ((i + (Int32.ofInt 2))).toNatClampNeg)).toInt64, .long (((xs ((i + (Int32.ofInt 1))).toNatClampNeg)).toInt64 <<< (((Int8.ofInt 32).toInt32).toInt64 &&& 63)), .ref pm, .int v]) (H1 := H1) (by decide +kernel) rfl (fun _ => rfl) ?_
  refine am_XL.go (i := .ldc2_w 13) (n := 3) (pc' := 529) (lv' := lw_lv b px pm i) (st' := [.long 4294967295, .long ((xs ((i + (Int32.ofInt 2))).toNatClampNeg)).toInt64, .long (((xs ((i + (Int32.ofInt 1))).toNatClampNeg)).toInt64 <<< (((Int8.ofInt 32).toInt32).toInt64 &&& 63)), .ref pm, .int v]) (H1 := H1) (by decide +kernel) rfl (am_one_ldc2 (a := 0) (c := 0) (v := 4294967295) (by decide +kernel)) ?_
  refine am_XL.go (i := .land) (n := 1) (pc' := 530) (lv' := lw_lv b px pm i) (st' := [.long (((xs ((i + (Int32.ofInt 2))).toNatClampNeg)).toInt64 &&& 4294967295), .long (((xs ((i + (Int32.ofInt 1))).toNatClampNeg)).toInt64 <<< (((Int8.ofInt 32).toInt32).toInt64 &&& 63)), .ref pm, .int v]) (H1 := H1) (by decide +kernel) rfl (fun _ => rfl) ?_
  refine am_XL.go (i := .lor) (n := 1) (pc' := 531) (lv' := lw_lv b px pm i) (st' := [.long ((((xs ((i + (Int32.ofInt 1))).toNatClampNeg)).toInt64 <<< (((Int8.ofInt 32).toInt32).toInt64 &&& 63)) ||| (((xs ((i + (Int32.ofInt 2))).toNatClampNeg)).toInt64 &&& 4294967295)), .ref pm, .int v]) (H1 := H1) (by decide +kernel) rfl (fun _ => rfl) ?_
  refine am_XL.go (i := .aload_n 0) (n := 1) (pc' := 532) (lv' := lw_lv b px pm i) (st' := [.retAddr b, .long ((((xs ((i + (Int32.ofInt 1))).toNatClampNeg)).toInt64 <<< (((Int8.ofInt 32).toInt32).toInt64 &&& 63)) ||| (((xs ((i + (Int32.ofInt 2))).toNatClampNeg)).toInt64 &&& 4294967295)), .ref pm, .int v]) (H1 := H1) (by decide +kernel) rfl (fun _ => rfl) ?_
  refine am_XL.go (i := .iload_n 3) (n := 1) (pc' := 533) (lv' := lw_lv b px pm i) (st' := [.int i, .retAddr b, .long ((((xs ((i + (Int32.ofInt 1))).toNatClampNeg)).toInt64 <<< (((Int8.ofInt 32).toInt32).toInt64 &&& 63)) ||| (((xs ((i + (Int32.ofInt 2))).toNatClampNeg)).toInt64 &&& 4294967295)), .ref pm, .int v]) (H1 := H1) (by decide +kernel) rfl (fun _ => rfl) ?_
  refine am_XL.go (i := .iconst 3) (n := 1) (pc' := 534) (lv' := lw_lv b px pm i) (st' := [.int (Int32.ofInt 3), .int i, .retAddr b, .long ((((xs ((i + (Int32.ofInt 1))).toNatClampNeg)).toInt64 <<< (((Int8.ofInt 32).toInt32).toInt64 &&& 63)) ||| (((xs ((i + (Int32.ofInt 2))).toNatClampNeg)).toInt64 &&& 4294967295)), .ref pm, .int v]) (H1 := H1) (by decide +kernel) rfl (fun _ => rfl) ?_
  refine am_XL.go (i := .iadd) (n := 1) (pc' := 535) (lv' := lw_lv b px pm i) (st' := [.int (i + (Int32.ofInt 3)), .retAddr b, .long ((((xs ((i + (Int32.ofInt 1))).toNatClampNeg)).toInt64 <<< (((Int8.ofInt 32).toInt32).toInt64 &&& 63)) ||| (((xs ((i + (Int32.ofInt 2))).toNatClampNeg)).toInt64 &&& 4294967295)), .ref pm, .int v]) (H1 := H1) (by decide +kernel) rfl (fun _ => rfl) ?_
  refine am_XL.goS (i := .iaload) (n := 1) (st' := [.int (xs ((i + (Int32.ofInt 3))).toNatClampNeg), .long ((((xs ((i + (Int32.ofInt 1))).toNatClampNeg)).toInt64 <<< (((Int8.ofInt 32).toInt32).toInt64 &&& 63)) ||| (((xs ((i + (Int32.ofInt 2))).toNatClampNeg)).toInt64 &&& 4294967295)), .ref pm, .int v]) (by decide +kernel) (am_stS_ld h3) ?_
  refine am_XL.goD (i := .invokevirtual 73) (n := 3) (pc' := 539) (lv' := lw_lv b px pm i) (st' := [.int v, .int v]) (H1 := H2) (by decide +kernel) rfl (am_oneV (own := "") (j := 199) (z := 0) (Mj := gx_m199) (as := [.long ((((xs ((i + (Int32.ofInt 1))).toNatClampNeg)).toInt64 <<< (((Int8.ofInt 32).toInt32).toInt64 &&& 63)) ||| (((xs ((i + (Int32.ofInt 2))).toNatClampNeg)).toInt64 &&& 4294967295)), .int (xs ((i + (Int32.ofInt 3))).toNatClampNeg)]) (p := pm) (rest := [.int v]) (v := some (.int v)) rfl rfl rfl (by decide +kernel) rfl rfl rfl (Nat.le_of_ble_eq_true rfl) hm hR2) ?_
  refine am_XL.go (i := .if_icmp .eq 143) (n := 3) (pc' := 682) (lv' := lw_lv b px pm i) (st' := []) (H1 := H2) (by decide +kernel) rfl (am_eqi rfl (by decide +kernel)) ?_
  exact kk

set_option maxHeartbeats 4000000 in
set_option maxRecDepth 100000 in
theorem lw_case13 {d px pm b L : Nat} {xs : Nat → Int32} {i : Int32} {H H1 H2 H' : am_H} {r : Option Value} {v : Int32}  (hx : am_isC gx_G H px "GrammarStream" = true) (hm : am_isC gx_G H1 pm "GrammarStreamModel" = true) (hR1 : am_R gx_G d 128 (.ref px :: []) H (some (.int v)) H1) (hR2 : am_R gx_G d 203 (.ref pm :: []) H1 (some (.int v)) H2) (kk : am_XL gx_G d gx_ML b L xs 682 (lw_lv b px pm i) [] H2 r H') : am_XL gx_G d gx_ML b L xs 544 (lw_lv b px pm i) [] H r H' := by
  refine am_XL.go (i := .aload_n 1) (n := 1) (pc' := 545) (lv' := lw_lv b px pm i) (st' := [.ref px]) (H1 := H) (by decide +kernel) rfl (fun _ => rfl) ?_
  refine am_XL.goD (i := .invokevirtual 74) (n := 3) (pc' := 548) (lv' := lw_lv b px pm i) (st' := [.int v]) (H1 := H1) (by decide +kernel) rfl (am_oneV (own := "") (j := 128) (z := 0) (Mj := gx_m128) (as := []) (p := px) (rest := []) (v := some (.int v)) rfl rfl rfl (by decide +kernel) rfl rfl rfl (Nat.le_of_ble_eq_true rfl) hx hR1) ?_
  refine am_XL.go (i := .aload_n 2) (n := 1) (pc' := 549) (lv' := lw_lv b px pm i) (st' := [.ref pm, .int v]) (H1 := H1) (by decide +kernel) rfl (fun _ => rfl) ?_
  refine am_XL.goD (i := .invokevirtual 77) (n := 3) (pc' := 552) (lv' := lw_lv b px pm i) (st' := [.int v, .int v]) (H1 := H2) (by decide +kernel) rfl (am_oneV (own := "") (j := 203) (z := 0) (Mj := gx_m203) (as := []) (p := pm) (rest := [.int v]) (v := some (.int v)) rfl rfl rfl (by decide +kernel) rfl rfl rfl (Nat.le_of_ble_eq_true rfl) hm hR2) ?_
  refine am_XL.go (i := .if_icmp .eq 130) (n := 3) (pc' := 682) (lv' := lw_lv b px pm i) (st' := []) (H1 := H2) (by decide +kernel) rfl (am_eqi rfl (by decide +kernel)) ?_
  exact kk

set_option maxHeartbeats 4000000 in
set_option maxRecDepth 100000 in
theorem lw_case14 {d px pm b L : Nat} {xs : Nat → Int32} {i : Int32} {H H1 H2 H' : am_H} {r : Option Value} {v : Int32}  (hx : am_isC gx_G H px "GrammarStream" = true) (hm : am_isC gx_G H1 pm "GrammarStreamModel" = true) (hR1 : am_R gx_G d 130 (.ref px :: []) H (some (.int v)) H1) (hR2 : am_R gx_G d 204 (.ref pm :: []) H1 (some (.int v)) H2) (kk : am_XL gx_G d gx_ML b L xs 682 (lw_lv b px pm i) [] H2 r H') : am_XL gx_G d gx_ML b L xs 557 (lw_lv b px pm i) [] H r H' := by
  refine am_XL.go (i := .aload_n 1) (n := 1) (pc' := 558) (lv' := lw_lv b px pm i) (st' := [.ref px]) (H1 := H) (by decide +kernel) rfl (fun _ => rfl) ?_
  refine am_XL.goD (i := .invokevirtual 78) (n := 3) (pc' := 561) (lv' := lw_lv b px pm i) (st' := [.int v]) (H1 := H1) (by decide +kernel) rfl (am_oneV (own := "") (j := 130) (z := 0) (Mj := gx_m130) (as := []) (p := px) (rest := []) (v := some (.int v)) rfl rfl rfl (by decide +kernel) rfl rfl rfl (Nat.le_of_ble_eq_true rfl) hx hR1) ?_
  refine am_XL.go (i := .aload_n 2) (n := 1) (pc' := 562) (lv' := lw_lv b px pm i) (st' := [.ref pm, .int v]) (H1 := H1) (by decide +kernel) rfl (fun _ => rfl) ?_
  refine am_XL.goD (i := .invokevirtual 81) (n := 3) (pc' := 565) (lv' := lw_lv b px pm i) (st' := [.int v, .int v]) (H1 := H2) (by decide +kernel) rfl (am_oneV (own := "") (j := 204) (z := 0) (Mj := gx_m204) (as := []) (p := pm) (rest := [.int v]) (v := some (.int v)) rfl rfl rfl (by decide +kernel) rfl rfl rfl (Nat.le_of_ble_eq_true rfl) hm hR2) ?_
  refine am_XL.go (i := .if_icmp .eq 117) (n := 3) (pc' := 682) (lv' := lw_lv b px pm i) (st' := []) (H1 := H2) (by decide +kernel) rfl (am_eqi rfl (by decide +kernel)) ?_
  exact kk

set_option maxHeartbeats 4000000 in
set_option maxRecDepth 100000 in
theorem lw_case15 {d px pm b L : Nat} {xs : Nat → Int32} {i : Int32} {H H1 H2 H' : am_H} {r : Option Value} {v : Int32} (h1 : am_inb (i + Int32.ofInt 1) L = true) (hx : am_isC gx_G H px "GrammarStream" = true) (hm : am_isC gx_G H1 pm "GrammarStreamModel" = true) (hR1 : am_R gx_G d 131 (.ref px :: [.int (xs ((i + (Int32.ofInt 1))).toNatClampNeg)]) H (some (.int v)) H1) (hR2 : am_R gx_G d 205 (.ref pm :: [.int (xs ((i + (Int32.ofInt 1))).toNatClampNeg)]) H1 (some (.int v)) H2) (kk : am_XL gx_G d gx_ML b L xs 682 (lw_lv b px pm i) [] H2 r H') : am_XL gx_G d gx_ML b L xs 570 (lw_lv b px pm i) [] H r H' := by
  refine am_XL.go (i := .aload_n 1) (n := 1) (pc' := 571) (lv' := lw_lv b px pm i) (st' := [.ref px]) (H1 := H) (by decide +kernel) rfl (fun _ => rfl) ?_
  refine am_XL.go (i := .aload_n 0) (n := 1) (pc' := 572) (lv' := lw_lv b px pm i) (st' := [.retAddr b, .ref px]) (H1 := H) (by decide +kernel) rfl (fun _ => rfl) ?_
  refine am_XL.go (i := .iload_n 3) (n := 1) (pc' := 573) (lv' := lw_lv b px pm i) (st' := [.int i, .retAddr b, .ref px]) (H1 := H) (by decide +kernel) rfl (fun _ => rfl) ?_
  refine am_XL.go (i := .iconst 1) (n := 1) (pc' := 574) (lv' := lw_lv b px pm i) (st' := [.int (Int32.ofInt 1), .int i, .retAddr b, .ref px]) (H1 := H) (by decide +kernel) rfl (fun _ => rfl) ?_
  refine am_XL.go (i := .iadd) (n := 1) (pc' := 575) (lv' := lw_lv b px pm i) (st' := [.int (i + (Int32.ofInt 1)), .retAddr b, .ref px]) (H1 := H) (by decide +kernel) rfl (fun _ => rfl) ?_
  refine am_XL.goS (i := .iaload) (n := 1) (st' := [.int (xs ((i + (Int32.ofInt 1))).toNatClampNeg), .ref px]) (by decide +kernel) (am_stS_ld h1) ?_
  refine am_XL.goD (i := .invokevirtual 82) (n := 3) (pc' := 579) (lv' := lw_lv b px pm i) (st' := [.int v]) (H1 := H1) (by decide +kernel) rfl (am_oneV (own := "") (j := 131) (z := 0) (Mj := gx_m131) (as := [.int (xs ((i + (Int32.ofInt 1))).toNatClampNeg)]) (p := px) (rest := []) (v := some (.int v)) rfl rfl rfl (by decide +kernel) rfl rfl rfl (Nat.le_of_ble_eq_true rfl) hx hR1) ?_
  refine am_XL.go (i := .aload_n 2) (n := 1) (pc' := 580) (lv' := lw_lv b px pm i) (st' := [.ref pm, .int v]) (H1 := H1) (by decide +kernel) rfl (fun _ => rfl) ?_
  refine am_XL.go (i := .aload_n 0) (n := 1) (pc' := 581) (lv' := lw_lv b px pm i) (st' := [.retAddr b, .ref pm, .int v]) (H1 := H1) (by decide +kernel) rfl (fun _ => rfl) ?_
  refine am_XL.go (i := .iload_n 3) (n := 1) (pc' := 582) (lv' := lw_lv b px pm i) (st' := [.int i, .retAddr b, .ref pm, .int v]) (H1 := H1) (by decide +kernel) rfl (fun _ => rfl) ?_
  refine am_XL.go (i := .iconst 1) (n := 1) (pc' := 583) (lv' := lw_lv b px pm i) (st' := [.int (Int32.ofInt 1), .int i, .retAddr b, .ref pm, .int v]) (H1 := H1) (by decide +kernel) rfl (fun _ => rfl) ?_
  refine am_XL.go (i := .iadd) (n := 1) (pc' := 584) (lv' := lw_lv b px pm i) (st' := [.int (i + (Int32.ofInt 1)), .retAddr b, .ref pm, .int v]) (H1 := H1) (by decide +kernel) rfl (fun _ => rfl) ?_
  refine am_XL.goS (i := .iaload) (n := 1) (st' := [.int (xs ((i + (Int32.ofInt 1))).toNatClampNeg), .ref pm, .int v]) (by decide +kernel) (am_stS_ld h1) ?_
  refine am_XL.goD (i := .invokevirtual 85) (n := 3) (pc' := 588) (lv' := lw_lv b px pm i) (st' := [.int v, .int v]) (H1 := H2) (by decide +kernel) rfl (am_oneV (own := "") (j := 205) (z := 0) (Mj := gx_m205) (as := [.int (xs ((i + (Int32.ofInt 1))).toNatClampNeg)]) (p := pm) (rest := [.int v]) (v := some (.int v)) rfl rfl rfl (by decide +kernel) rfl rfl rfl (Nat.le_of_ble_eq_true rfl) hm hR2) ?_
  refine am_XL.go (i := .if_icmp .eq 94) (n := 3) (pc' := 682) (lv' := lw_lv b px pm i) (st' := []) (H1 := H2) (by decide +kernel) rfl (am_eqi rfl (by decide +kernel)) ?_
  exact kk

set_option maxHeartbeats 4000000 in
set_option maxRecDepth 100000 in
theorem lw_case16 {d px pm b L : Nat} {xs : Nat → Int32} {i : Int32} {H H1 H2 H' : am_H} {r : Option Value} {v : Int32} (h1 : am_inb (i + Int32.ofInt 1) L = true) (h2 : am_inb (i + Int32.ofInt 2) L = true) (hx : am_isC gx_G H px "GrammarStream" = true) (hm : am_isC gx_G H1 pm "GrammarStreamModel" = true) (hR1 : am_R gx_G d 132 (.ref px :: [.int (xs ((i + (Int32.ofInt 1))).toNatClampNeg), .int (xs ((i + (Int32.ofInt 2))).toNatClampNeg)]) H (some (.int v)) H1) (hR2 : am_R gx_G d 206 (.ref pm :: [.int (xs ((i + (Int32.ofInt 1))).toNatClampNeg), .int (xs ((i + (Int32.ofInt 2))).toNatClampNeg)]) H1 (some (.int v)) H2) (kk : am_XL gx_G d gx_ML b L xs 682 (lw_lv b px pm i) [] H2 r H') : am_XL gx_G d gx_ML b L xs 593 (lw_lv b px pm i) [] H r H' := by
  refine am_XL.go (i := .aload_n 1) (n := 1) (pc' := 594) (lv' := lw_lv b px pm i) (st' := [.ref px]) (H1 := H) (by decide +kernel) rfl (fun _ => rfl) ?_
  refine am_XL.go (i := .aload_n 0) (n := 1) (pc' := 595) (lv' := lw_lv b px pm i) (st' := [.retAddr b, .ref px]) (H1 := H) (by decide +kernel) rfl (fun _ => rfl) ?_
  refine am_XL.go (i := .iload_n 3) (n := 1) (pc' := 596) (lv' := lw_lv b px pm i) (st' := [.int i, .retAddr b, .ref px]) (H1 := H) (by decide +kernel) rfl (fun _ => rfl) ?_
  refine am_XL.go (i := .iconst 1) (n := 1) (pc' := 597) (lv' := lw_lv b px pm i) (st' := [.int (Int32.ofInt 1), .int i, .retAddr b, .ref px]) (H1 := H) (by decide +kernel) rfl (fun _ => rfl) ?_
  refine am_XL.go (i := .iadd) (n := 1) (pc' := 598) (lv' := lw_lv b px pm i) (st' := [.int (i + (Int32.ofInt 1)), .retAddr b, .ref px]) (H1 := H) (by decide +kernel) rfl (fun _ => rfl) ?_
  refine am_XL.goS (i := .iaload) (n := 1) (st' := [.int (xs ((i + (Int32.ofInt 1))).toNatClampNeg), .ref px]) (by decide +kernel) (am_stS_ld h1) ?_
  refine am_XL.go (i := .aload_n 0) (n := 1) (pc' := 600) (lv' := lw_lv b px pm i) (st' := [.retAddr b, .int (xs ((i + (Int32.ofInt 1))).toNatClampNeg), .ref px]) (H1 := H) (by decide +kernel) rfl (fun _ => rfl) ?_
  refine am_XL.go (i := .iload_n 3) (n := 1) (pc' := 601) (lv' := lw_lv b px pm i) (st' := [.int i, .retAddr b, .int (xs ((i + (Int32.ofInt 1))).toNatClampNeg), .ref px]) (H1 := H) (by decide +kernel) rfl (fun _ => rfl) ?_
  refine am_XL.go (i := .iconst 2) (n := 1) (pc' := 602) (lv' := lw_lv b px pm i) (st' := [.int (Int32.ofInt 2), .int i, .retAddr b, .int (xs ((i + (Int32.ofInt 1))).toNatClampNeg), .ref px]) (H1 := H) (by decide +kernel) rfl (fun _ => rfl) ?_
  refine am_XL.go (i := .iadd) (n := 1) (pc' := 603) (lv' := lw_lv b px pm i) (st' := [.int (i + (Int32.ofInt 2)), .retAddr b, .int (xs ((i + (Int32.ofInt 1))).toNatClampNeg), .ref px]) (H1 := H) (by decide +kernel) rfl (fun _ => rfl) ?_
  refine am_XL.goS (i := .iaload) (n := 1) (st' := [.int (xs ((i + (Int32.ofInt 2))).toNatClampNeg), .int (xs ((i + (Int32.ofInt 1))).toNatClampNeg), .ref px]) (by decide +kernel) (am_stS_ld h2) ?_
  refine am_XL.goD (i := .invokevirtual 86) (n := 3) (pc' := 607) (lv' := lw_lv b px pm i) (st' := [.int v]) (H1 := H1) (by decide +kernel) rfl (am_oneV (own := "") (j := 132) (z := 0) (Mj := gx_m132) (as := [.int (xs ((i + (Int32.ofInt 1))).toNatClampNeg), .int (xs ((i + (Int32.ofInt 2))).toNatClampNeg)]) (p := px) (rest := []) (v := some (.int v)) rfl rfl rfl (by decide +kernel) rfl rfl rfl (Nat.le_of_ble_eq_true rfl) hx hR1) ?_
  refine am_XL.go (i := .aload_n 2) (n := 1) (pc' := 608) (lv' := lw_lv b px pm i) (st' := [.ref pm, .int v]) (H1 := H1) (by decide +kernel) rfl (fun _ => rfl) ?_
  refine am_XL.go (i := .aload_n 0) (n := 1) (pc' := 609) (lv' := lw_lv b px pm i) (st' := [.retAddr b, .ref pm, .int v]) (H1 := H1) (by decide +kernel) rfl (fun _ => rfl) ?_
  refine am_XL.go (i := .iload_n 3) (n := 1) (pc' := 610) (lv' := lw_lv b px pm i) (st' := [.int i, .retAddr b, .ref pm, .int v]) (H1 := H1) (by decide +kernel) rfl (fun _ => rfl) ?_
  refine am_XL.go (i := .iconst 1) (n := 1) (pc' := 611) (lv' := lw_lv b px pm i) (st' := [.int (Int32.ofInt 1), .int i, .retAddr b, .ref pm, .int v]) (H1 := H1) (by decide +kernel) rfl (fun _ => rfl) ?_
  refine am_XL.go (i := .iadd) (n := 1) (pc' := 612) (lv' := lw_lv b px pm i) (st' := [.int (i + (Int32.ofInt 1)), .retAddr b, .ref pm, .int v]) (H1 := H1) (by decide +kernel) rfl (fun _ => rfl) ?_
  refine am_XL.goS (i := .iaload) (n := 1) (st' := [.int (xs ((i + (Int32.ofInt 1))).toNatClampNeg), .ref pm, .int v]) (by decide +kernel) (am_stS_ld h1) ?_
  refine am_XL.go (i := .aload_n 0) (n := 1) (pc' := 614) (lv' := lw_lv b px pm i) (st' := [.retAddr b, .int (xs ((i + (Int32.ofInt 1))).toNatClampNeg), .ref pm, .int v]) (H1 := H1) (by decide +kernel) rfl (fun _ => rfl) ?_
  refine am_XL.go (i := .iload_n 3) (n := 1) (pc' := 615) (lv' := lw_lv b px pm i) (st' := [.int i, .retAddr b, .int (xs ((i + (Int32.ofInt 1))).toNatClampNeg), .ref pm, .int v]) (H1 := H1) (by decide +kernel) rfl (fun _ => rfl) ?_
  refine am_XL.go (i := .iconst 2) (n := 1) (pc' := 616) (lv' := lw_lv b px pm i) (st' := [.int (Int32.ofInt 2), .int i, .retAddr b, .int (xs ((i + (Int32.ofInt 1))).toNatClampNeg), .ref pm, .int v]) (H1 := H1) (by decide +kernel) rfl (fun _ => rfl) ?_
  refine am_XL.go (i := .iadd) (n := 1) (pc' := 617) (lv' := lw_lv b px pm i) (st' := [.int (i + (Int32.ofInt 2)), .retAddr b, .int (xs ((i + (Int32.ofInt 1))).toNatClampNeg), .ref pm, .int v]) (H1 := H1) (by decide +kernel) rfl (fun _ => rfl) ?_
  refine am_XL.goS (i := .iaload) (n := 1) (st' := [.int (xs ((i + (Int32.ofInt 2))).toNatClampNeg), .int (xs ((i + (Int32.ofInt 1))).toNatClampNeg), .ref pm, .int v]) (by decide +kernel) (am_stS_ld h2) ?_
  refine am_XL.goD (i := .invokevirtual 89) (n := 3) (pc' := 621) (lv' := lw_lv b px pm i) (st' := [.int v, .int v]) (H1 := H2) (by decide +kernel) rfl (am_oneV (own := "") (j := 206) (z := 0) (Mj := gx_m206) (as := [.int (xs ((i + (Int32.ofInt 1))).toNatClampNeg), .int (xs ((i + (Int32.ofInt 2))).toNatClampNeg)]) (p := pm) (rest := [.int v]) (v := some (.int v)) rfl rfl rfl (by decide +kernel) rfl rfl rfl (Nat.le_of_ble_eq_true rfl) hm hR2) ?_
  refine am_XL.go (i := .if_icmp .eq 61) (n := 3) (pc' := 682) (lv' := lw_lv b px pm i) (st' := []) (H1 := H2) (by decide +kernel) rfl (am_eqi rfl (by decide +kernel)) ?_
  exact kk

set_option maxHeartbeats 4000000 in
set_option maxRecDepth 100000 in
theorem lw_case17 {d px pm b L : Nat} {xs : Nat → Int32} {i : Int32} {H H1 H2 H' : am_H} {r : Option Value} {v : Int32} (h1 : am_inb (i + Int32.ofInt 1) L = true) (h2 : am_inb (i + Int32.ofInt 2) L = true) (hx : am_isC gx_G H px "GrammarStream" = true) (hm : am_isC gx_G H1 pm "GrammarStreamModel" = true) (hR1 : am_R gx_G d 133 (.ref px :: [.int (xs ((i + (Int32.ofInt 1))).toNatClampNeg), .int (xs ((i + (Int32.ofInt 2))).toNatClampNeg)]) H (some (.int v)) H1) (hR2 : am_R gx_G d 207 (.ref pm :: [.int (xs ((i + (Int32.ofInt 1))).toNatClampNeg), .int (xs ((i + (Int32.ofInt 2))).toNatClampNeg)]) H1 (some (.int v)) H2) (kk : am_XL gx_G d gx_ML b L xs 682 (lw_lv b px pm i) [] H2 r H') : am_XL gx_G d gx_ML b L xs 626 (lw_lv b px pm i) [] H r H' := by
  refine am_XL.go (i := .aload_n 1) (n := 1) (pc' := 627) (lv' := lw_lv b px pm i) (st' := [.ref px]) (H1 := H) (by decide +kernel) rfl (fun _ => rfl) ?_
  refine am_XL.go (i := .aload_n 0) (n := 1) (pc' := 628) (lv' := lw_lv b px pm i) (st' := [.retAddr b, .ref px]) (H1 := H) (by decide +kernel) rfl (fun _ => rfl) ?_
  refine am_XL.go (i := .iload_n 3) (n := 1) (pc' := 629) (lv' := lw_lv b px pm i) (st' := [.int i, .retAddr b, .ref px]) (H1 := H) (by decide +kernel) rfl (fun _ => rfl) ?_
  refine am_XL.go (i := .iconst 1) (n := 1) (pc' := 630) (lv' := lw_lv b px pm i) (st' := [.int (Int32.ofInt 1), .int i, .retAddr b, .ref px]) (H1 := H) (by decide +kernel) rfl (fun _ => rfl) ?_
  refine am_XL.go (i := .iadd) (n := 1) (pc' := 631) (lv' := lw_lv b px pm i) (st' := [.int (i + (Int32.ofInt 1)), .retAddr b, .ref px]) (H1 := H) (by decide +kernel) rfl (fun _ => rfl) ?_
  refine am_XL.goS (i := .iaload) (n := 1) (st' := [.int (xs ((i + (Int32.ofInt 1))).toNatClampNeg), .ref px]) (by decide +kernel) (am_stS_ld h1) ?_
  refine am_XL.go (i := .aload_n 0) (n := 1) (pc' := 633) (lv' := lw_lv b px pm i) (st' := [.retAddr b, .int (xs ((i + (Int32.ofInt 1))).toNatClampNeg), .ref px]) (H1 := H) (by decide +kernel) rfl (fun _ => rfl) ?_
  refine am_XL.go (i := .iload_n 3) (n := 1) (pc' := 634) (lv' := lw_lv b px pm i) (st' := [.int i, .retAddr b, .int (xs ((i + (Int32.ofInt 1))).toNatClampNeg), .ref px]) (H1 := H) (by decide +kernel) rfl (fun _ => rfl) ?_
  refine am_XL.go (i := .iconst 2) (n := 1) (pc' := 635) (lv' := lw_lv b px pm i) (st' := [.int (Int32.ofInt 2), .int i, .retAddr b, .int (xs ((i + (Int32.ofInt 1))).toNatClampNeg), .ref px]) (H1 := H) (by decide +kernel) rfl (fun _ => rfl) ?_
  refine am_XL.go (i := .iadd) (n := 1) (pc' := 636) (lv' := lw_lv b px pm i) (st' := [.int (i + (Int32.ofInt 2)), .retAddr b, .int (xs ((i + (Int32.ofInt 1))).toNatClampNeg), .ref px]) (H1 := H) (by decide +kernel) rfl (fun _ => rfl) ?_
  refine am_XL.goS (i := .iaload) (n := 1) (st' := [.int (xs ((i + (Int32.ofInt 2))).toNatClampNeg), .int (xs ((i + (Int32.ofInt 1))).toNatClampNeg), .ref px]) (by decide +kernel) (am_stS_ld h2) ?_
  refine am_XL.goD (i := .invokevirtual 90) (n := 3) (pc' := 640) (lv' := lw_lv b px pm i) (st' := [.int v]) (H1 := H1) (by decide +kernel) rfl (am_oneV (own := "") (j := 133) (z := 0) (Mj := gx_m133) (as := [.int (xs ((i + (Int32.ofInt 1))).toNatClampNeg), .int (xs ((i + (Int32.ofInt 2))).toNatClampNeg)]) (p := px) (rest := []) (v := some (.int v)) rfl rfl rfl (by decide +kernel) rfl rfl rfl (Nat.le_of_ble_eq_true rfl) hx hR1) ?_
  refine am_XL.go (i := .aload_n 2) (n := 1) (pc' := 641) (lv' := lw_lv b px pm i) (st' := [.ref pm, .int v]) (H1 := H1) (by decide +kernel) rfl (fun _ => rfl) ?_
  refine am_XL.go (i := .aload_n 0) (n := 1) (pc' := 642) (lv' := lw_lv b px pm i) (st' := [.retAddr b, .ref pm, .int v]) (H1 := H1) (by decide +kernel) rfl (fun _ => rfl) ?_
  refine am_XL.go (i := .iload_n 3) (n := 1) (pc' := 643) (lv' := lw_lv b px pm i) (st' := [.int i, .retAddr b, .ref pm, .int v]) (H1 := H1) (by decide +kernel) rfl (fun _ => rfl) ?_
  refine am_XL.go (i := .iconst 1) (n := 1) (pc' := 644) (lv' := lw_lv b px pm i) (st' := [.int (Int32.ofInt 1), .int i, .retAddr b, .ref pm, .int v]) (H1 := H1) (by decide +kernel) rfl (fun _ => rfl) ?_
  refine am_XL.go (i := .iadd) (n := 1) (pc' := 645) (lv' := lw_lv b px pm i) (st' := [.int (i + (Int32.ofInt 1)), .retAddr b, .ref pm, .int v]) (H1 := H1) (by decide +kernel) rfl (fun _ => rfl) ?_
  refine am_XL.goS (i := .iaload) (n := 1) (st' := [.int (xs ((i + (Int32.ofInt 1))).toNatClampNeg), .ref pm, .int v]) (by decide +kernel) (am_stS_ld h1) ?_
  refine am_XL.go (i := .aload_n 0) (n := 1) (pc' := 647) (lv' := lw_lv b px pm i) (st' := [.retAddr b, .int (xs ((i + (Int32.ofInt 1))).toNatClampNeg), .ref pm, .int v]) (H1 := H1) (by decide +kernel) rfl (fun _ => rfl) ?_
  refine am_XL.go (i := .iload_n 3) (n := 1) (pc' := 648) (lv' := lw_lv b px pm i) (st' := [.int i, .retAddr b, .int (xs ((i + (Int32.ofInt 1))).toNatClampNeg), .ref pm, .int v]) (H1 := H1) (by decide +kernel) rfl (fun _ => rfl) ?_
  refine am_XL.go (i := .iconst 2) (n := 1) (pc' := 649) (lv' := lw_lv b px pm i) (st' := [.int (Int32.ofInt 2), .int i, .retAddr b, .int (xs ((i + (Int32.ofInt 1))).toNatClampNeg), .ref pm, .int v]) (H1 := H1) (by decide +kernel) rfl (fun _ => rfl) ?_
  refine am_XL.go (i := .iadd) (n := 1) (pc' := 650) (lv' := lw_lv b px pm i) (st' := [.int (i + (Int32.ofInt 2)), .retAddr b, .int (xs ((i + (Int32.ofInt 1))).toNatClampNeg), .ref pm, .int v]) (H1 := H1) (by decide +kernel) rfl (fun _ => rfl) ?_
  refine am_XL.goS (i := .iaload) (n := 1) (st' := [.int (xs ((i + (Int32.ofInt 2))).toNatClampNeg), .int (xs ((i + (Int32.ofInt 1))).toNatClampNeg), .ref pm, .int v]) (by decide +kernel) (am_stS_ld h2) ?_
  refine am_XL.goD (i := .invokevirtual 93) (n := 3) (pc' := 654) (lv' := lw_lv b px pm i) (st' := [.int v, .int v]) (H1 := H2) (by decide +kernel) rfl (am_oneV (own := "") (j := 207) (z := 0) (Mj := gx_m207) (as := [.int (xs ((i + (Int32.ofInt 1))).toNatClampNeg), .int (xs ((i + (Int32.ofInt 2))).toNatClampNeg)]) (p := pm) (rest := [.int v]) (v := some (.int v)) rfl rfl rfl (by decide +kernel) rfl rfl rfl (Nat.le_of_ble_eq_true rfl) hm hR2) ?_
  refine am_XL.go (i := .if_icmp .eq 28) (n := 3) (pc' := 682) (lv' := lw_lv b px pm i) (st' := []) (H1 := H2) (by decide +kernel) rfl (am_eqi rfl (by decide +kernel)) ?_
  exact kk

set_option maxHeartbeats 4000000 in
set_option maxRecDepth 100000 in
theorem lw_case18 {d px pm b L : Nat} {xs : Nat → Int32} {i : Int32} {H H1 H2 H' : am_H} {r : Option Value} {v : Int32} (h1 : am_inb (i + Int32.ofInt 1) L = true) (hx : am_isC gx_G H px "GrammarStream" = true) (hm : am_isC gx_G H1 pm "GrammarStreamModel" = true) (hR1 : am_R gx_G d 134 (.ref px :: [.int (xs ((i + (Int32.ofInt 1))).toNatClampNeg)]) H (some (.int v)) H1) (hR2 : am_R gx_G d 208 (.ref pm :: [.int (xs ((i + (Int32.ofInt 1))).toNatClampNeg)]) H1 (some (.int v)) H2) (kk : am_XL gx_G d gx_ML b L xs 682 (lw_lv b px pm i) [] H2 r H') : am_XL gx_G d gx_ML b L xs 659 (lw_lv b px pm i) [] H r H' := by
  refine am_XL.go (i := .aload_n 1) (n := 1) (pc' := 660) (lv' := lw_lv b px pm i) (st' := [.ref px]) (H1 := H) (by decide +kernel) rfl (fun _ => rfl) ?_
  refine am_XL.go (i := .aload_n 0) (n := 1) (pc' := 661) (lv' := lw_lv b px pm i) (st' := [.retAddr b, .ref px]) (H1 := H) (by decide +kernel) rfl (fun _ => rfl) ?_
  refine am_XL.go (i := .iload_n 3) (n := 1) (pc' := 662) (lv' := lw_lv b px pm i) (st' := [.int i, .retAddr b, .ref px]) (H1 := H) (by decide +kernel) rfl (fun _ => rfl) ?_
  refine am_XL.go (i := .iconst 1) (n := 1) (pc' := 663) (lv' := lw_lv b px pm i) (st' := [.int (Int32.ofInt 1), .int i, .retAddr b, .ref px]) (H1 := H) (by decide +kernel) rfl (fun _ => rfl) ?_
  refine am_XL.go (i := .iadd) (n := 1) (pc' := 664) (lv' := lw_lv b px pm i) (st' := [.int (i + (Int32.ofInt 1)), .retAddr b, .ref px]) (H1 := H) (by decide +kernel) rfl (fun _ => rfl) ?_
  refine am_XL.goS (i := .iaload) (n := 1) (st' := [.int (xs ((i + (Int32.ofInt 1))).toNatClampNeg), .ref px]) (by decide +kernel) (am_stS_ld h1) ?_
  refine am_XL.goD (i := .invokevirtual 94) (n := 3) (pc' := 668) (lv' := lw_lv b px pm i) (st' := [.int v]) (H1 := H1) (by decide +kernel) rfl (am_oneV (own := "") (j := 134) (z := 0) (Mj := gx_m134) (as := [.int (xs ((i + (Int32.ofInt 1))).toNatClampNeg)]) (p := px) (rest := []) (v := some (.int v)) rfl rfl rfl (by decide +kernel) rfl rfl rfl (Nat.le_of_ble_eq_true rfl) hx hR1) ?_
  refine am_XL.go (i := .aload_n 2) (n := 1) (pc' := 669) (lv' := lw_lv b px pm i) (st' := [.ref pm, .int v]) (H1 := H1) (by decide +kernel) rfl (fun _ => rfl) ?_
  refine am_XL.go (i := .aload_n 0) (n := 1) (pc' := 670) (lv' := lw_lv b px pm i) (st' := [.retAddr b, .ref pm, .int v]) (H1 := H1) (by decide +kernel) rfl (fun _ => rfl) ?_
  refine am_XL.go (i := .iload_n 3) (n := 1) (pc' := 671) (lv' := lw_lv b px pm i) (st' := [.int i, .retAddr b, .ref pm, .int v]) (H1 := H1) (by decide +kernel) rfl (fun _ => rfl) ?_
  refine am_XL.go (i := .iconst 1) (n := 1) (pc' := 672) (lv' := lw_lv b px pm i) (st' := [.int (Int32.ofInt 1), .int i, .retAddr b, .ref pm, .int v]) (H1 := H1) (by decide +kernel) rfl (fun _ => rfl) ?_
  refine am_XL.go (i := .iadd) (n := 1) (pc' := 673) (lv' := lw_lv b px pm i) (st' := [.int (i + (Int32.ofInt 1)), .retAddr b, .ref pm, .int v]) (H1 := H1) (by decide +kernel) rfl (fun _ => rfl) ?_
  refine am_XL.goS (i := .iaload) (n := 1) (st' := [.int (xs ((i + (Int32.ofInt 1))).toNatClampNeg), .ref pm, .int v]) (by decide +kernel) (am_stS_ld h1) ?_
  refine am_XL.goD (i := .invokevirtual 97) (n := 3) (pc' := 677) (lv' := lw_lv b px pm i) (st' := [.int v, .int v]) (H1 := H2) (by decide +kernel) rfl (am_oneV (own := "") (j := 208) (z := 0) (Mj := gx_m208) (as := [.int (xs ((i + (Int32.ofInt 1))).toNatClampNeg)]) (p := pm) (rest := [.int v]) (v := some (.int v)) rfl rfl rfl (by decide +kernel) rfl rfl rfl (Nat.le_of_ble_eq_true rfl) hm hR2) ?_
  refine am_XL.go (i := .if_icmp .eq 5) (n := 3) (pc' := 682) (lv' := lw_lv b px pm i) (st' := []) (H1 := H2) (by decide +kernel) rfl (am_eqi rfl (by decide +kernel)) ?_
  exact kk
end
section
/-! the law's loop, written by wip/loopgen.py -/
def lw_I (d px pm : Nat) (P Q : am_H → Prop) (jx jm : Nat) (as : List Value) : Prop := ∀ H, P H → ∃ (v : Int32) (H1 H2 : am_H), am_isC gx_G H px "GrammarStream" = true ∧ am_isC gx_G H1 pm "GrammarStreamModel" = true ∧ am_R gx_G d jx (.ref px :: as) H (some (.int v)) H1 ∧ am_R gx_G d jm (.ref pm :: as) H1 (some (.int v)) H2 ∧ Q H2
def lw_J (d px pm : Nat) (P Q : am_H → Prop) (jx jm : Nat) (as : List Value) : Prop := ∀ H, P H → ∃ (v : Int64) (H1 H2 : am_H), am_isC gx_G H px "GrammarStream" = true ∧ am_isC gx_G H1 pm "GrammarStreamModel" = true ∧ am_R gx_G d jx (.ref px :: as) H (some (.long v)) H1 ∧ am_R gx_G d jm (.ref pm :: as) H1 (some (.long v)) H2 ∧ Q H2
theorem am_one_B {G : am_G} {M : am_M} {i : Instr} {n pc pc' : Nat} {lv : am_L} {st st' : List Value} {H : am_H} (hA : am_stA M.2.2.1 i n lv st = none) (hB : am_stB i n pc st = some (pc', st')) : ∀ call, am_one G call M i n pc lv st H = some (.inl (pc', lv, st', H)) := by
  intro call
  unfold am_one
  rw [hA]
  dsimp only
  rw [hB]
theorem am_one_R {G : am_G} {M : am_M} {i : Instr} {n pc : Nat} {lv : am_L} {st : List Value} {H : am_H} {r : Option Value} (hA : am_stA M.2.2.1 i n lv st = none) (hB : am_stB i n pc st = none) (hC : am_stC G M.1.cls (M.1.name == "<init>") i n st H = none) (hD : ∀ call, am_stD G call M.1.cls i n st H = none) (hR : am_ret M.2.2.2.1 i n st = some r) : ∀ call, am_one G call M i n pc lv st H = some (.inr (r, H)) := by
  intro call
  unfold am_one
  rw [hA]
  dsimp only
  rw [hB]
  dsimp only
  rw [hC]
  dsimp only
  rw [hD]
  dsimp only
  rw [hR]
/-- what each of the law's calls must keep: class and reference answer alike -/
def lw_steps (d px pm : Nat) (P Q : am_H → Prop) : Prop :=
  (∀ (w : Int64) (a1 : Int32), lw_I d px pm P Q 1 137 [.long w, .int a1])
  ∧ (lw_I d px pm P Q 3 138 [])
  ∧ (∀ (a0 : Int32), lw_I d px pm P Q 95 184 [.int a0])
  ∧ (∀ (a0 : Int32), lw_I d px pm P Q 96 185 [.int a0])
  ∧ (∀ (a0 : Int32) (a1 : Int32), lw_I d px pm P Q 97 186 [.int a0, .int a1])
  ∧ (∀ (a0 : Int32) (a1 : Int32), lw_I d px pm P Q 100 189 [.int a0, .int a1])
  ∧ (∀ (a0 : Int32), lw_I d px pm P Q 102 191 [.int a0])
  ∧ (∀ (a0 : Int32) (a1 : Int32), lw_I d px pm P Q 103 192 [.int a0, .int a1])
  ∧ (∀ (a0 : Int32), lw_I d px pm P Q 105 193 [.int a0])
  ∧ (∀ (a0 : Int32) (a1 : Int32), lw_I d px pm P Q 106 194 [.int a0, .int a1])
  ∧ (∀ (a0 : Int32) (a1 : Int32), lw_I d px pm P Q 107 195 [.int a0, .int a1])
  ∧ (∀ (a0 : Int32), lw_J d px pm P Q 108 196 [.int a0])
  ∧ (∀ (w : Int64) (a1 : Int32), lw_I d px pm P Q 117 199 [.long w, .int a1])
  ∧ (lw_I d px pm P Q 128 203 [])
  ∧ (lw_I d px pm P Q 130 204 [])
  ∧ (∀ (a0 : Int32), lw_I d px pm P Q 131 205 [.int a0])
  ∧ (∀ (a0 : Int32) (a1 : Int32), lw_I d px pm P Q 132 206 [.int a0, .int a1])
  ∧ (∀ (a0 : Int32) (a1 : Int32), lw_I d px pm P Q 133 207 [.int a0, .int a1])
  ∧ (∀ (a0 : Int32), lw_I d px pm P Q 134 208 [.int a0])
  ∧ (∀ H, P H → Q H)
def lw_tg (q : Nat) : Nat := ([124, 187, 200, 223, 246, 279, 312, 335, 368, 391, 424, 457, 481, 544, 557, 570, 593, 626, 659] : List Nat).getD q 682
set_option maxRecDepth 100000 in
theorem lw_sw : ∀ q, q < 32 → am_stB (.tableswitch 650 0 18 #[92, 155, 168, 191, 214, 247, 280, 303, 336, 359, 392, 425, 449, 512, 525, 538, 561, 594, 627]) 92 32 [.int (nI q)] = some (lw_tg q, []) := by decide +kernel
theorem lw_k1 (n : Nat) : nI n + Int32.ofInt 1 = nI (n + 1) := by rw [show (Int32.ofInt 1 : Int32) = nI 1 by decide +kernel, nI_add]
theorem lw_k2 (n : Nat) : nI n + Int32.ofInt 2 = nI (n + 2) := by rw [show (Int32.ofInt 2 : Int32) = nI 2 by decide +kernel, nI_add]
theorem lw_k3 (n : Nat) : nI n + Int32.ofInt 3 = nI (n + 3) := by rw [show (Int32.ofInt 3 : Int32) = nI 3 by decide +kernel, nI_add]
theorem lw_k4 (n : Nat) : nI n + Int32.ofInt 4 = nI (n + 4) := by rw [show (Int32.ofInt 4 : Int32) = nI 4 by decide +kernel, nI_add]
theorem lw_inb {n L : Nat} (h : n < L) (hL : L ≤ 4096) : am_inb (nI n) L = true := decide_eq_true (vp_in_nI h (by omega))
theorem lw_cmp {n L : Nat} (hn : n ≤ 8192) (hL : L ≤ 4096) : (Int32.ofNat L - Int32.ofInt 4 < nI n) ↔ L < n + 4 := by
  have e : (Int32.ofInt 4 : Int32) = nI 4 := by decide +kernel
  rw [e, show Int32.ofNat L = nI L from rfl, Int32.lt_iff_toInt_lt, pk_sub_toInt (by omega) (by omega), nI_toInt (by omega)]
  omega
set_option maxHeartbeats 4000000 in
set_option maxRecDepth 100000 in
theorem lw_round {d px pm b L : Nat} {xs : Nat → Int32} {P Q : am_H → Prop} (hs : lw_steps d px pm P Q) {n : Nat} (hL : L ≤ 4096) (hn : n + 4 ≤ L) {H : am_H} (hP : P H) :
    ∃ H2, Q H2 ∧ ∀ {r : Option Value} {H' : am_H}, am_XL gx_G d gx_ML b L xs 18 (lw_lv b px pm (nI (n + 4))) [] H2 r H' → am_XL gx_G d gx_ML b L xs 18 (lw_lv b px pm (nI n)) [] H r H' := by
  have h0 := lw_inb (n := n) (L := L) (by omega) hL
  have h1 : am_inb (nI n + Int32.ofInt 1) L = true := by rw [lw_k1]; exact lw_inb (by omega) hL
  have h2 : am_inb (nI n + Int32.ofInt 2) L = true := by rw [lw_k2]; exact lw_inb (by omega) hL
  have h3 : am_inb (nI n + Int32.ofInt 3) L = true := by rw [lw_k3]; exact lw_inb (by omega) hL
  obtain ⟨q, hq, eq⟩ := pk_andE (xs (nI n).toNatClampNeg) (m := (Int8.ofInt 31).toInt32) 5 (by decide +kernel)
  have hq : q < 32 := hq
  have back : ∀ {H2 H' : am_H} {r : Option Value}, am_XL gx_G d gx_ML b L xs 18 (lw_lv b px pm (nI (n + 4))) [] H2 r H' → am_XL gx_G d gx_ML b L xs 682 (lw_lv b px pm (nI n)) [] H2 r H' := by
    intro H2 H' r k
    refine am_XL.go (i := .iinc 3 4) (n := 3) (pc' := 685) (lv' := lw_lv b px pm (nI (n + 4))) (st' := []) (H1 := H2) (by decide +kernel) rfl (fun _ => by rw [← lw_k4]; rfl) ?_
    refine am_XL.go (i := .goto (-667)) (n := 3) (pc' := 18) (lv' := lw_lv b px pm (nI (n + 4))) (st' := []) (H1 := H2) (by decide +kernel) rfl (fun _ => rfl) ?_
    exact k
  have fore : ∀ {H' : am_H} {r : Option Value}, am_XL gx_G d gx_ML b L xs (lw_tg q) (lw_lv b px pm (nI n)) [] H r H' → am_XL gx_G d gx_ML b L xs 18 (lw_lv b px pm (nI n)) [] H r H' := by
    intro H' r k
    refine am_XL.go (i := .iload_n 3) (n := 1) (pc' := 19) (lv' := lw_lv b px pm (nI n)) (st' := [.int (nI n)]) (H1 := H) (by decide +kernel) rfl (fun _ => rfl) ?_
    refine am_XL.go (i := .aload_n 0) (n := 1) (pc' := 20) (lv' := lw_lv b px pm (nI n)) (st' := [.retAddr b, .int (nI n)]) (H1 := H) (by decide +kernel) rfl (fun _ => rfl) ?_
    refine am_XL.goS (i := .arraylength) (n := 1) (st' := [.int (Int32.ofNat L), .int (nI n)]) (by decide +kernel) am_stS_len ?_
    refine am_XL.go (i := .iconst 4) (n := 1) (pc' := 22) (lv' := lw_lv b px pm (nI n)) (st' := [.int (Int32.ofInt 4), .int (Int32.ofNat L), .int (nI n)]) (H1 := H) (by decide +kernel) rfl (fun _ => rfl) ?_
    refine am_XL.go (i := .isub) (n := 1) (pc' := 23) (lv' := lw_lv b px pm (nI n)) (st' := [.int (Int32.ofNat L - Int32.ofInt 4), .int (nI n)]) (H1 := H) (by decide +kernel) rfl (fun _ => rfl) ?_
    refine am_XL.go (i := .if_icmp .gt 665) (n := 3) (pc' := 26) (lv' := lw_lv b px pm (nI n)) (st' := []) (H1 := H) (by decide +kernel) rfl (am_gtF (t := 688) (fun h => by have := (lw_cmp (by omega) hL).mp h; omega) (by decide +kernel)) ?_
    refine am_XL.go (i := .aload_n 0) (n := 1) (pc' := 27) (lv' := lw_lv b px pm (nI n)) (st' := [.retAddr b]) (H1 := H) (by decide +kernel) rfl (fun _ => rfl) ?_
    refine am_XL.go (i := .iload_n 3) (n := 1) (pc' := 28) (lv' := lw_lv b px pm (nI n)) (st' := [.int (nI n), .retAddr b]) (H1 := H) (by decide +kernel) rfl (fun _ => rfl) ?_
    refine am_XL.goS (i := .iaload) (n := 1) (st' := [.int (xs (nI n).toNatClampNeg)]) (by decide +kernel) (am_stS_ld h0) ?_
    refine am_XL.go (i := .bipush 31) (n := 2) (pc' := 31) (lv' := lw_lv b px pm (nI n)) (st' := [.int (Int8.ofInt 31).toInt32, .int (xs (nI n).toNatClampNeg)]) (H1 := H) (by decide +kernel) rfl (fun _ => rfl) ?_
    refine am_XL.go (i := .iand) (n := 1) (pc' := 32) (lv' := lw_lv b px pm (nI n)) (st' := [.int (xs (nI n).toNatClampNeg &&& (Int8.ofInt 31).toInt32)]) (H1 := H) (by decide +kernel) rfl (fun _ => rfl) ?_
    rw [eq]
    refine am_XL.go (i := .tableswitch 650 0 18 #[92, 155, 168, 191, 214, 247, 280, 303, 336, 359, 392, 425, 449, 512, 525, 538, 561, 594, 627]) (n := 92) (pc' := lw_tg q) (lv' := lw_lv b px pm (nI n)) (st' := []) (H1 := H) (by decide +kernel) rfl (am_one_B rfl (lw_sw q hq)) ?_
    exact k
  rcases (show q = 0 ∨ q = 1 ∨ q = 2 ∨ q = 3 ∨ q = 4 ∨ q = 5 ∨ q = 6 ∨ q = 7 ∨ q = 8 ∨ q = 9 ∨ q = 10 ∨ q = 11 ∨ q = 12 ∨ q = 13 ∨ q = 14 ∨ q = 15 ∨ q = 16 ∨ q = 17 ∨ q = 18 ∨ 19 ≤ q by omega) with rfl | rfl | rfl | rfl | rfl | rfl | rfl | rfl | rfl | rfl | rfl | rfl | rfl | rfl | rfl | rfl | rfl | rfl | rfl | hb
  · obtain ⟨v, H1, H2, hx, hm, hR1, hR2, hQ⟩ := hs.1 _ _ H hP
    exact ⟨H2, hQ, fun k => fore (lw_case0 h1 h2 h3 hx hm hR1 hR2 (back k))⟩
  · obtain ⟨v, H1, H2, hx, hm, hR1, hR2, hQ⟩ := hs.2.1 H hP
    exact ⟨H2, hQ, fun k => fore (lw_case1  hx hm hR1 hR2 (back k))⟩
  · obtain ⟨v, H1, H2, hx, hm, hR1, hR2, hQ⟩ := hs.2.2.1 _ H hP
    exact ⟨H2, hQ, fun k => fore (lw_case2 h1 hx hm hR1 hR2 (back k))⟩
  · obtain ⟨v, H1, H2, hx, hm, hR1, hR2, hQ⟩ := hs.2.2.2.1 _ H hP
    exact ⟨H2, hQ, fun k => fore (lw_case3 h1 hx hm hR1 hR2 (back k))⟩
  · obtain ⟨v, H1, H2, hx, hm, hR1, hR2, hQ⟩ := hs.2.2.2.2.1 _ _ H hP
    exact ⟨H2, hQ, fun k => fore (lw_case4 h1 h2 hx hm hR1 hR2 (back k))⟩
  · obtain ⟨v, H1, H2, hx, hm, hR1, hR2, hQ⟩ := hs.2.2.2.2.2.1 _ _ H hP
    exact ⟨H2, hQ, fun k => fore (lw_case5 h1 h2 hx hm hR1 hR2 (back k))⟩
  · obtain ⟨v, H1, H2, hx, hm, hR1, hR2, hQ⟩ := hs.2.2.2.2.2.2.1 _ H hP
    exact ⟨H2, hQ, fun k => fore (lw_case6 h1 hx hm hR1 hR2 (back k))⟩
  · obtain ⟨v, H1, H2, hx, hm, hR1, hR2, hQ⟩ := hs.2.2.2.2.2.2.2.1 _ _ H hP
    exact ⟨H2, hQ, fun k => fore (lw_case7 h1 h2 hx hm hR1 hR2 (back k))⟩
  · obtain ⟨v, H1, H2, hx, hm, hR1, hR2, hQ⟩ := hs.2.2.2.2.2.2.2.2.1 _ H hP
    exact ⟨H2, hQ, fun k => fore (lw_case8 h1 hx hm hR1 hR2 (back k))⟩
  · obtain ⟨v, H1, H2, hx, hm, hR1, hR2, hQ⟩ := hs.2.2.2.2.2.2.2.2.2.1 _ _ H hP
    exact ⟨H2, hQ, fun k => fore (lw_case9 h1 h2 hx hm hR1 hR2 (back k))⟩
  · obtain ⟨v, H1, H2, hx, hm, hR1, hR2, hQ⟩ := hs.2.2.2.2.2.2.2.2.2.2.1 _ _ H hP
    exact ⟨H2, hQ, fun k => fore (lw_case10 h1 h2 hx hm hR1 hR2 (back k))⟩
  · obtain ⟨v, H1, H2, hx, hm, hR1, hR2, hQ⟩ := hs.2.2.2.2.2.2.2.2.2.2.2.1 _ H hP
    exact ⟨H2, hQ, fun k => fore (lw_case11 h1 hx hm hR1 hR2 (back k))⟩
  · obtain ⟨v, H1, H2, hx, hm, hR1, hR2, hQ⟩ := hs.2.2.2.2.2.2.2.2.2.2.2.2.1 _ _ H hP
    exact ⟨H2, hQ, fun k => fore (lw_case12 h1 h2 h3 hx hm hR1 hR2 (back k))⟩
  · obtain ⟨v, H1, H2, hx, hm, hR1, hR2, hQ⟩ := hs.2.2.2.2.2.2.2.2.2.2.2.2.2.1 H hP
    exact ⟨H2, hQ, fun k => fore (lw_case13  hx hm hR1 hR2 (back k))⟩
  · obtain ⟨v, H1, H2, hx, hm, hR1, hR2, hQ⟩ := hs.2.2.2.2.2.2.2.2.2.2.2.2.2.2.1 H hP
    exact ⟨H2, hQ, fun k => fore (lw_case14  hx hm hR1 hR2 (back k))⟩
  · obtain ⟨v, H1, H2, hx, hm, hR1, hR2, hQ⟩ := hs.2.2.2.2.2.2.2.2.2.2.2.2.2.2.2.1 _ H hP
    exact ⟨H2, hQ, fun k => fore (lw_case15 h1 hx hm hR1 hR2 (back k))⟩
  · obtain ⟨v, H1, H2, hx, hm, hR1, hR2, hQ⟩ := hs.2.2.2.2.2.2.2.2.2.2.2.2.2.2.2.2.1 _ _ H hP
    exact ⟨H2, hQ, fun k => fore (lw_case16 h1 h2 hx hm hR1 hR2 (back k))⟩
  · obtain ⟨v, H1, H2, hx, hm, hR1, hR2, hQ⟩ := hs.2.2.2.2.2.2.2.2.2.2.2.2.2.2.2.2.2.1 _ _ H hP
    exact ⟨H2, hQ, fun k => fore (lw_case17 h1 h2 hx hm hR1 hR2 (back k))⟩
  · obtain ⟨v, H1, H2, hx, hm, hR1, hR2, hQ⟩ := hs.2.2.2.2.2.2.2.2.2.2.2.2.2.2.2.2.2.2.1 _ H hP
    exact ⟨H2, hQ, fun k => fore (lw_case18 h1 hx hm hR1 hR2 (back k))⟩
  · refine ⟨H, hs.2.2.2.2.2.2.2.2.2.2.2.2.2.2.2.2.2.2.2 H hP, fun k => fore ?_⟩
    have e : lw_tg q = 682 := by unfold lw_tg; rw [List.getD_eq_getElem?_getD, List.getElem?_eq_none (by simpa using hb)]; rfl
    rw [e]
    exact back k
/-- the loop, to its end -/
theorem lw_run {d px pm b L : Nat} {xs : Nat → Int32} {Inv : Nat → am_H → Prop} (hL : L ≤ 4096) (hs : ∀ k, 4 * k + 4 ≤ L → lw_steps d px pm (Inv k) (Inv (k + 1))) : ∀ (t k : Nat) (H : am_H), Inv k H → 4 * k ≤ L + 4 → L < 4 * k + 4 * t + 4 → ∃ (k' : Nat) (H' : am_H), Inv k' H' ∧ am_XL gx_G d gx_ML b L xs 18 (lw_lv b px pm (nI (4 * k))) [] H (some (.int 1)) H' := by
  intro t
  induction t with
  | zero =>
    intro k H hI hk ht
    refine ⟨k, H, hI, ?_⟩
    refine am_XL.go (i := .iload_n 3) (n := 1) (pc' := 19) (lv' := lw_lv b px pm (nI (4 * k))) (st' := [.int (nI (4 * k))]) (H1 := H) (by decide +kernel) rfl (fun _ => rfl) ?_
    refine am_XL.go (i := .aload_n 0) (n := 1) (pc' := 20) (lv' := lw_lv b px pm (nI (4 * k))) (st' := [.retAddr b, .int (nI (4 * k))]) (H1 := H) (by decide +kernel) rfl (fun _ => rfl) ?_
    refine am_XL.goS (i := .arraylength) (n := 1) (st' := [.int (Int32.ofNat L), .int (nI (4 * k))]) (by decide +kernel) am_stS_len ?_
    refine am_XL.go (i := .iconst 4) (n := 1) (pc' := 22) (lv' := lw_lv b px pm (nI (4 * k))) (st' := [.int (Int32.ofInt 4), .int (Int32.ofNat L), .int (nI (4 * k))]) (H1 := H) (by decide +kernel) rfl (fun _ => rfl) ?_
    refine am_XL.go (i := .isub) (n := 1) (pc' := 23) (lv' := lw_lv b px pm (nI (4 * k))) (st' := [.int (Int32.ofNat L - Int32.ofInt 4), .int (nI (4 * k))]) (H1 := H) (by decide +kernel) rfl (fun _ => rfl) ?_
    refine am_XL.go (i := .if_icmp .gt 665) (n := 3) (pc' := 688) (lv' := lw_lv b px pm (nI (4 * k))) (st' := []) (H1 := H) (by decide +kernel) rfl (am_gtT (t := 688) ((lw_cmp (by omega) hL).mpr (by omega)) (by decide +kernel)) ?_
    refine am_XL.go (i := .iconst 1) (n := 1) (pc' := 689) (lv' := lw_lv b px pm (nI (4 * k))) (st' := [.int (Int32.ofInt 1)]) (H1 := H) (by decide +kernel) rfl (fun _ => rfl) ?_
    exact am_XL.ret (i := .ireturn) (n := 1) (by decide +kernel) rfl (am_one_R (r := some (.int 1)) rfl rfl rfl (fun _ => rfl) (by decide +kernel))
  | succ t ih =>
    intro k H hI hk ht
    by_cases hlt : L < 4 * k + 4
    · exact (ih k H hI hk (by omega))
    · obtain ⟨H2, hQ, hgo⟩ := lw_round (b := b) (xs := xs) (hs k (by omega)) (n := 4 * k) hL (by omega) hI
      obtain ⟨k', H', hI', hr⟩ := ih (k + 1) H2 hQ (by omega) (by omega)
      exact ⟨k', H', hI', hgo (by rw [show 4 * k + 4 = 4 * (k + 1) by omega]; exact hr)⟩
end
section
/-! blocks and branches of a method's run -/
section XB
variable {G : am_G} {d : Nat} {M : am_M} {pc pc' t : Nat} {lv lv' : am_L} {st st' : List Value} {H H1 H' : am_H} {r : Option Value} {off : Int}
theorem am_X.blk (n : Nat) (h : ∀ (call : Nat → List Value → am_H → Option (Option Value × am_H)) (f : Nat), am_exec G call M (f + n) pc lv st H = am_exec G call M f pc' lv' st' H1) (k : am_X G d M pc' lv' st' H1 r H') : am_X G d M pc lv st H r H' := by
  obtain ⟨N, h2⟩ := k
  refine ⟨N + n, fun fuel f hf hf2 => ?_⟩
  obtain ⟨g, rfl⟩ : ∃ g, f = g + n := ⟨f - n, by omega⟩
  rw [h]
  exact h2 fuel g (by omega) (by omega)
theorem am_X.done (n : Nat) (h : ∀ (call : Nat → List Value → am_H → Option (Option Value × am_H)) (f : Nat), am_exec G call M (f + n) pc lv st H = some (r, H')) : am_X G d M pc lv st H r H' := by
  refine ⟨n, fun fuel f hf hf2 => ?_⟩
  obtain ⟨g, rfl⟩ : ∃ g, f = g + n := ⟨f - n, by omega⟩
  exact h _ _
theorem am_X.br1 {k : ClassFile.Cond} {x : Int32} {A B : Int32} (hrow : am_row M pc = some (.ifCond k off, 3)) (ht : am_jp pc off = some t) (hT : am_if1 k x = true → am_X G d M t lv st H (some (.int A)) H') (hF : am_if1 k x = false → am_X G d M (pc + 3) lv st H (some (.int B)) H') : am_X G d M pc lv (.int x :: st) H (some (.int (if am_if1 k x = true then A else B))) H' := by
  have hB : ∀ b, am_if1 k x = b → am_stB (.ifCond k off) 3 pc (.int x :: st) = some (if b = true then t else pc + 3, st) := by
    intro b hb
    dsimp only [am_stB, am_br]
    rw [ht, hb]
    rfl
  cases hb : am_if1 k x with
  | true => exact am_X.go hrow (am_one_B rfl (hB true hb)) (by simpa [hb] using hT hb)
  | false => exact am_X.go hrow (am_one_B rfl (hB false hb)) (by simpa [hb] using hF hb)
theorem am_X.br2 {k : ClassFile.Cond} {x y : Int32} {A B : Int32} (hrow : am_row M pc = some (.if_icmp k off, 3)) (ht : am_jp pc off = some t) (hT : am_if2 k x y = true → am_X G d M t lv st H (some (.int A)) H') (hF : am_if2 k x y = false → am_X G d M (pc + 3) lv st H (some (.int B)) H') : am_X G d M pc lv (.int y :: .int x :: st) H (some (.int (if am_if2 k x y = true then A else B))) H' := by
  have hB : ∀ b, am_if2 k x y = b → am_stB (.if_icmp k off) 3 pc (.int y :: .int x :: st) = some (if b = true then t else pc + 3, st) := by
    intro b hb
    dsimp only [am_stB, am_br]
    rw [ht, hb]
    rfl
  cases hb : am_if2 k x y with
  | true => exact am_X.go hrow (am_one_B rfl (hB true hb)) (by simpa [hb] using hT hb)
  | false => exact am_X.go hrow (am_one_B rfl (hB false hb)) (by simpa [hb] using hF hb)
theorem am_X.br1l {k : ClassFile.Cond} {x : Int32} {A B : Int64} (hrow : am_row M pc = some (.ifCond k off, 3)) (ht : am_jp pc off = some t) (hT : am_if1 k x = true → am_X G d M t lv st H (some (.long A)) H') (hF : am_if1 k x = false → am_X G d M (pc + 3) lv st H (some (.long B)) H') : am_X G d M pc lv (.int x :: st) H (some (.long (if am_if1 k x = true then A else B))) H' := by
  have hB : ∀ b, am_if1 k x = b → am_stB (.ifCond k off) 3 pc (.int x :: st) = some (if b = true then t else pc + 3, st) := by
    intro b hb
    dsimp only [am_stB, am_br]
    rw [ht, hb]
    rfl
  cases hb : am_if1 k x with
  | true => exact am_X.go hrow (am_one_B rfl (hB true hb)) (by simpa [hb] using hT hb)
  | false => exact am_X.go hrow (am_one_B rfl (hB false hb)) (by simpa [hb] using hF hb)
/-- a switch over 0, 1, .. -/
theorem am_X.sw {n N : Nat} {dflt hi : Int} {offs : Array Int} {x : Int32} {rs : Nat → Int32} {tq : Nat → Nat} {A : Int32} (hrow : am_row M pc = some (.tableswitch dflt 0 hi offs, n)) (hhi : hi = (N : Int)) (hq : ∀ q : Nat, q ≤ N → ∃ o, offs[q]? = some o ∧ am_jp pc o = some (tq q)) (ht : am_jp pc dflt = some t)
    (hall : ∀ q : Nat, q ≤ N → am_X G d M (tq q) lv st H (some (.int (rs q))) H') (hout : am_X G d M t lv st H (some (.int A)) H') : am_X G d M pc lv (.int x :: st) H (some (.int (if x.toInt < 0 ∨ hi < x.toInt then A else rs x.toInt.toNat))) H' := by
  by_cases hc : x.toInt < 0 ∨ hi < x.toInt
  · rw [if_pos hc]
    refine am_X.go (pc' := t) (lv' := lv) (st' := st) (H1 := H) hrow (am_one_B rfl ?_) hout
    dsimp only [am_stB]
    rw [if_pos hc]
    unfold am_jmp
    rw [ht]
  · rw [if_neg hc]
    have h1 : x.toInt.toNat ≤ N := by omega
    obtain ⟨o, ho, hj⟩ := hq _ h1
    refine am_X.go (pc' := tq x.toInt.toNat) (lv' := lv) (st' := st) (H1 := H) hrow (am_one_B rfl ?_) (hall _ h1)
    dsimp only [am_stB]
    rw [if_neg hc, show (x.toInt - 0).toNat = x.toInt.toNat by omega, ho]
    dsimp only
    unfold am_jmp
    rw [hj]
end XB
end
section
/-! the heap's instructions in a method's run, by what is known of the cells -/
theorem am_one_C {G : am_G} {M : am_M} {i : Instr} {n pc : Nat} {lv : am_L} {st st' : List Value} {H H1 : am_H} (hA : am_stA M.2.2.1 i n lv st = none) (hB : am_stB i n pc st = none) (hC : am_stC G M.1.cls (M.1.name == "<init>") i n st H = some (st', H1)) : ∀ call, am_one G call M i n pc lv st H = some (.inl (pc + n, lv, st', H1)) := by
  intro call
  unfold am_one
  rw [hA]
  dsimp only
  rw [hB]
  dsimp only
  rw [hC]
section XH
variable {G : am_G} {d : Nat} {M : am_M} {pc t : Nat} {lv : am_L} {st : List Value} {H H' : am_H} {r : Option Value} {a ci k idx w : Nat} {fs : List Value} {v : Value} {j x : Int32} {y : Int64} {f : Nat → Int32} {g : Nat → Int64}
theorem am_X.getf (hrow : am_row M pc = some (.getfield idx, 3)) (hlk : am_fld G M.1.cls idx = some (ci, k)) (hc : H[a]? = some (.inr (ci, fs))) (hv : fs[k]? = some v) (kk : am_X G d M (pc + 3) lv (v :: st) H r H') : am_X G d M pc lv (.ref a :: st) H r H' := by
  refine am_X.go hrow (am_one_C rfl rfl ?_) kk
  dsimp only [am_stC]
  rw [hlk]
  dsimp only [am_getf]
  rw [hc]
  dsimp only
  rw [if_pos rfl, hv]
  rfl
theorem am_X.putf (hrow : am_row M pc = some (.putfield idx, 3)) (hlk : am_fld G M.1.cls idx = some (ci, k)) (hc : H[a]? = some (.inr (ci, fs))) (hk : k < fs.length) (hok : am_canput G M.1.cls (M.1.name == "<init>") ci k v = true) (kk : am_X G d M (pc + 3) lv st (H.set a (.inr (ci, fs.set k v))) r H') : am_X G d M pc lv (v :: .ref a :: st) H r H' := by
  refine am_X.go hrow (am_one_C (by cases v <;> rfl) (by cases v <;> rfl) ?_) kk
  dsimp only [am_stC]
  rw [hlk]
  dsimp only [am_putf]
  rw [hc]
  dsimp only
  rw [if_pos ⟨rfl, hk, hok⟩]
  rfl
theorem am_X.iald (hrow : am_row M pc = some (.iaload, 1)) (hc : H[a]? = some (.inl (.int, w, .inl f))) (hj : am_inb j w = true) (kk : am_X G d M (pc + 1) lv (.int (f j.toNatClampNeg) :: st) H r H') : am_X G d M pc lv (.int j :: .ref a :: st) H r H' := by
  refine am_X.go hrow (am_one_C rfl rfl ?_) kk
  dsimp only [am_stC]
  rw [hc]
  dsimp only
  rw [if_pos ⟨rfl, hj⟩]
theorem am_X.zald (hrow : am_row M pc = some (.baload, 1)) (hc : H[a]? = some (.inl (.boolean, w, .inl f))) (hj : am_inb j w = true) (kk : am_X G d M (pc + 1) lv (.int (f j.toNatClampNeg) :: st) H r H') : am_X G d M pc lv (.int j :: .ref a :: st) H r H' := by
  refine am_X.go hrow (am_one_C rfl rfl ?_) kk
  dsimp only [am_stC]
  rw [hc]
  dsimp only
  rw [if_pos ⟨rfl, hj⟩]
theorem am_X.lald (hrow : am_row M pc = some (.laload, 1)) (hc : H[a]? = some (.inl (.long, w, .inr (.inl g)))) (hj : am_inb j w = true) (kk : am_X G d M (pc + 1) lv (.long (g j.toNatClampNeg) :: st) H r H') : am_X G d M pc lv (.int j :: .ref a :: st) H r H' := by
  refine am_X.go hrow (am_one_C rfl rfl ?_) kk
  dsimp only [am_stC]
  rw [hc]
  dsimp only
  rw [if_pos ⟨rfl, hj⟩]
theorem am_X.iast (hrow : am_row M pc = some (.iastore, 1)) (hc : H[a]? = some (.inl (.int, w, .inl f))) (hj : am_inb j w = true) (kk : am_X G d M (pc + 1) lv st (H.set a (.inl (.int, w, .inl (upd f j.toNatClampNeg x)))) r H') : am_X G d M pc lv (.int x :: .int j :: .ref a :: st) H r H' := by
  refine am_X.go hrow (am_one_C rfl rfl ?_) kk
  dsimp only [am_stC]
  rw [hc]
  dsimp only
  rw [if_pos ⟨rfl, hj⟩]
theorem am_X.zast (hrow : am_row M pc = some (.bastore, 1)) (hc : H[a]? = some (.inl (.boolean, w, .inl f))) (hj : am_inb j w = true) (kk : am_X G d M (pc + 1) lv st (H.set a (.inl (.boolean, w, .inl (upd f j.toNatClampNeg (vp_nar .boolean x))))) r H') : am_X G d M pc lv (.int x :: .int j :: .ref a :: st) H r H' := by
  refine am_X.go hrow (am_one_C rfl rfl ?_) kk
  dsimp only [am_stC]
  rw [hc]
  dsimp only
  rw [if_pos ⟨rfl, hj⟩]
theorem am_X.last (hrow : am_row M pc = some (.lastore, 1)) (hc : H[a]? = some (.inl (.long, w, .inr (.inl g)))) (hj : am_inb j w = true) (kk : am_X G d M (pc + 1) lv st (H.set a (.inl (.long, w, .inr (.inl (vp_updL g j.toNatClampNeg y))))) r H') : am_X G d M pc lv (.long y :: .int j :: .ref a :: st) H r H' := by
  refine am_X.go hrow (am_one_C rfl rfl ?_) kk
  dsimp only [am_stC]
  rw [hc]
  dsimp only
  rw [if_pos ⟨rfl, hj⟩]
theorem am_X.alen {ty : FieldType} {c : (Nat → Int32) ⊕ (Nat → Int64) ⊕ (Nat → UInt32) ⊕ (Nat → UInt64) ⊕ (Nat → Option Nat)} (hrow : am_row M pc = some (.arraylength, 1)) (hc : H[a]? = some (.inl (ty, w, c))) (hm : ty ∈ G.2.2.2.2) (kk : am_X G d M (pc + 1) lv (.int (Int32.ofNat w) :: st) H r H') : am_X G d M pc lv (.ref a :: st) H r H' := by
  refine am_X.go hrow (am_one_C rfl rfl ?_) kk
  dsimp only [am_stC]
  rw [hc]
  dsimp only
  rw [if_pos ⟨rfl, hm⟩]
/-- branches, one way -/
theorem am_X.if1 {kd : ClassFile.Cond} {off : Int} {b : Bool} (hrow : am_row M pc = some (.ifCond kd off, 3)) (ht : am_jp pc off = some t) (hb : am_if1 kd x = b) (kk : am_X G d M (if b = true then t else pc + 3) lv st H r H') : am_X G d M pc lv (.int x :: st) H r H' := by
  refine am_X.go hrow (am_one_B rfl ?_) kk
  dsimp only [am_stB, am_br]
  rw [ht, hb]
  rfl
theorem am_X.if2 {kd : ClassFile.Cond} {off : Int} {b : Bool} {x2 : Int32} (hrow : am_row M pc = some (.if_icmp kd off, 3)) (ht : am_jp pc off = some t) (hb : am_if2 kd x x2 = b) (kk : am_X G d M (if b = true then t else pc + 3) lv st H r H') : am_X G d M pc lv (.int x2 :: .int x :: st) H r H' := by
  refine am_X.go hrow (am_one_B rfl ?_) kk
  dsimp only [am_stB, am_br]
  rw [ht, hb]
  rfl
/-- a call of a method of a class, of which the run is known -/
theorem am_oneS {H1 : am_H} {jm kind : Nat} {z : Int64} {Mj : am_M} {as rest : List Value} {u : Option Value} (hA : am_stA M.2.2.1 (.invokestatic idx) 3 lv st = none) (hB : am_stB (.invokestatic idx) 3 pc st = none) (hC : am_stC G M.1.cls (M.1.name == "<init>") (.invokestatic idx) 3 st H = none) (hlk : G.2.2.1 M.1.cls idx = some (1, jm, kind, z)) (hkd : kind = 3 ∨ kind = 4) (hM : G.2.2.2.1[jm]? = some Mj) (hst : st = as.reverse ++ rest) (has : as.length = Mj.2.2.2.2.1) (hcat : (rest.map fun v => v.category).sum ≤ 8) (hR : am_R G d jm as H u H1) :
    ∃ N, ∀ fuel, N ≤ fuel → am_one G (am_call G fuel d) M (.invokestatic idx) 3 pc lv st H = some (.inl (pc + 3, lv, u.toList ++ rest, H1)) := by
  obtain ⟨N, hR⟩ := hR
  refine ⟨N, fun fuel hf => ?_⟩
  have e1 : st.drop Mj.2.2.2.2.1 = rest := by rw [hst, ← has, ← List.length_reverse, List.drop_left]
  have e2 : (st.take Mj.2.2.2.2.1).reverse = as := by rw [hst, ← has, ← List.length_reverse, List.take_left, List.reverse_reverse]
  have e3 : Mj.2.2.2.2.1 ≤ st.length := by rw [hst, ← has]; simp
  have hcs : am_cs G (am_call G fuel d) jm 3 st H = some (u.toList ++ rest, H1) := by
    unfold am_cs
    rw [hM]
    dsimp only
    rw [e1, if_pos ⟨rfl, e3, hcat⟩, e2, hR fuel hf]
    rfl
  have hD : am_stD G (am_call G fuel d) M.1.cls (.invokestatic idx) 3 st H = some (u.toList ++ rest, H1) := by
    dsimp only [am_stD]
    rw [hlk]
    rcases hkd with rfl | rfl
    · exact hcs
    · exact hcs
  unfold am_one
  rw [hA]
  dsimp only
  rw [hB]
  dsimp only
  rw [hC]
  dsimp only
  rw [hD]
end XH
end
section
/-- iinc by a rule of its own (a block's 'rfl' over a negative number runs away in the kernel) -/
theorem am_X.iinc {G : am_G} {d : Nat} {M : am_M} {pc k : Nat} {lv : am_L} {st : List Value} {H H' : am_H} {r : Option Value} {dn : Int} {x y : Int32} (hrow : am_row M pc = some (.iinc k dn, 3)) (hl : am_ld lv k = some (.int x)) (hk : k < M.2.2.1) (hy : x + Int32.ofInt dn = y) (kk : am_X G d M (pc + 3) (am_s1 lv k (.int y)) st H r H') : am_X G d M pc lv st H r H' := by
  subst hy
  have hA : am_stA M.2.2.1 (.iinc k dn) 3 lv st = some (am_s1 lv k (.int (x + Int32.ofInt dn)), st) := by
    dsimp only [am_stA, am_inc]
    rw [hl]
    dsimp only
    rw [if_pos ⟨rfl, hk⟩]
  refine am_X.go (pc' := pc + 3) (lv' := am_s1 lv k (.int (x + Int32.ofInt dn))) (st' := st) (H1 := H) hrow (fun call => ?_) kk
  unfold am_one
  rw [hA]
end
section
/-! p1: fresh objects, written by wip/p1gen.py -/
def p1_H0 : am_H := [.inr (11, [.null, .int 0, .null, .int 0, .null, .null, .null, .null, .null, .null])]
def p1_H1 : am_H := [.inr (11, [.ref 1, .int (Int32.ofInt (0)), .ref 2, .int (Int32.ofInt (0)), .null, .null, .null, .null, .null, .null]), .inl (.int, 2000, .inl (fun _ => 0)), .inl (.int, 4, .inl (fun _ => 0))]
def p1_H2 : am_H := [.inr (11, [.ref 1, .int (Int32.ofInt (0)), .ref 2, .int (Int32.ofInt (0)), .null, .null, .null, .null, .null, .null]), .inl (.int, 2000, .inl (fun _ => 0)), .inl (.int, 4, .inl (fun _ => 0)), .inr (12, [.null, .int 0, .int 0, .int 0, .int 0, .int 0, .int 0, .int 0, .null, .null, .null, .int 0, .null, .null, .int 0, .null, .null, .null, .int 0, .null, .null, .null, .int 0, .int 0, .null, .null, .null, .null, .null, .null, .null, .null, .int 0, .int 0, .null, .null, .int 0, .null, .null, .null, .null, .null, .null, .long 0, .long 0, .int 0, .null, .int 0, .null, .null, .null, .null, .null, .null, .null, .null, .null, .null, .null, .null, .null, .int 0, .null, .int 0, .int 0, .int 0, .null, .null, .int 0, .int 0, .null, .null, .null, .int 0, .int 0, .int 0, .null, .null, .null, .null, .null, .null, .null, .int 0, .null, .null, .null, .null, .int 0, .int 0, .int 0, .int 0, .int 0, .int 0, .int 0, .int 0, .int 0, .int 0, .null, .null, .null, .int 0, .null, .null, .null, .null, .int 0, .int 0, .null, .null, .null, .null])]
def p1_H3 : am_H := [.inr (11, [.ref 1, .int (Int32.ofInt (0)), .ref 2, .int (Int32.ofInt (0)), .null, .null, .null, .null, .null, .null]), .inl (.int, 2000, .inl (fun _ => 0)), .inl (.int, 4, .inl (fun _ => 0)), .inr (12, [.ref 4, .int 0, .int 0, .int 0, .int 0, .int 0, .int 0, .int 0, .ref 5, .ref 6, .ref 7, .int 0, .ref 8, .ref 9, .int 0, .ref 10, .ref 11, .ref 12, .int 0, .ref 13, .ref 14, .ref 15, .int 0, .int 0, .ref 16, .ref 17, .ref 18, .ref 19, .ref 20, .ref 21, .ref 22, .ref 23, .int 0, .int 0, .ref 24, .ref 25, .int 0, .ref 26, .ref 27, .ref 28, .ref 29, .ref 30, .ref 31, .long 0, .long 0, .int 0, .ref 32, .int 0, .ref 33, .ref 34, .ref 35, .ref 36, .ref 37, .ref 38, .ref 39, .ref 40, .ref 41, .ref 42, .ref 43, .ref 44, .ref 45, .int 0, .ref 46, .int 0, .int 0, .int 0, .ref 47, .ref 48, .int 0, .int 0, .ref 49, .ref 50, .ref 51, .int 0, .int 0, .int 0, .ref 52, .ref 53, .ref 54, .ref 55, .ref 56, .ref 57, .ref 58, .int 0, .ref 59, .ref 60, .ref 61, .ref 62, .int 0, .int 0, .int 0, .int 0, .int 0, .int 0, .int 0, .int 0, .int 0, .int 0, .ref 63, .ref 64, .ref 65, .int 0, .ref 66, .ref 67, .ref 68, .ref 69, .int 0, .int 0, .ref 70, .ref 71, .ref 72, .ref 73]), .inl (.int, 2000, .inl (fun _ => 0)), .inl (.int, 700, .inl (fun _ => 0)), .inl (.int, 700, .inl (fun _ => 0)), .inl (.boolean, 700, .inl (fun _ => 0)), .inl (.int, 700, .inl (fun _ => 0)), .inl (.int, 700, .inl (fun _ => 0)), .inl (.int, 2100, .inl (fun _ => 0)), .inl (.int, 2100, .inl (fun _ => 0)), .inl (.int, 2100, .inl (fun _ => 0)), .inl (.int, 2100, .inl (fun _ => 0)), .inl (.int, 2100, .inl (fun _ => 0)), .inl (.int, 2100, .inl (fun _ => 0)), .inl (.boolean, 22, .inl (fun _ => 0)), .inl (.boolean, 22, .inl (fun _ => 0)), .inl (.long, 220, .inr (.inl (fun _ => 0))), .inl (.long, 220, .inr (.inl (fun _ => 0))), .inl (.boolean, 22, .inl (fun _ => 0)), .inl (.boolean, 22, .inl (fun _ => 0)), .inl (.long, 220, .inr (.inl (fun _ => 0))), .inl (.long, 220, .inr (.inl (fun _ => 0))), .inl (.long, 10, .inr (.inl (fun _ => 0))), .inl (.long, 10, .inr (.inl (fun _ => 0))), .inl (.long, 600, .inr (.inl (fun _ => 0))), .inl (.long, 600, .inr (.inl (fun _ => 0))), .inl (.int, 600, .inl (fun _ => 0)), .inl (.long, 6000, .inr (.inl (fun _ => 0))), .inl (.long, 10, .inr (.inl (fun _ => 0))), .inl (.long, 10, .inr (.inl (fun _ => 0))), .inl (.boolean, 700, .inl (fun _ => 0)), .inl (.long, 4000, .inr (.inl (fun _ => 0))), .inl (.int, 51200, .inl (fun _ => 0)), .inl (.int, 400, .inl (fun _ => 0)), .inl (.boolean, 400, .inl (fun _ => 0)), .inl (.int, 24, .inl (fun _ => 0)), .inl (.long, 10, .inr (.inl (fun _ => 0))), .inl (.long, 10, .inr (.inl (fun _ => 0))), .inl (.int, 400, .inl (fun _ => 0)), .inl (.boolean, 30, .inl (fun _ => 0)), .inl (.int, 30, .inl (fun _ => 0)), .inl (.int, 30, .inl (fun _ => 0)), .inl (.boolean, 30, .inl (fun _ => 0)), .inl (.int, 750, .inl (fun _ => 0)), .inl (.int, 4, .inl (fun _ => 0)), .inl (.boolean, 24, .inl (fun _ => 0)), .inl (.int, 24, .inl (fun _ => 0)), .inl (.int, 60, .inl (fun _ => 0)), .inl (.int, 60, .inl (fun _ => 0)), .inl (.int, 480, .inl (fun _ => 0)), .inl (.int, 51200, .inl (fun _ => 0)), .inl (.int, 400, .inl (fun _ => 0)), .inl (.boolean, 30, .inl (fun _ => 0)), .inl (.boolean, 30, .inl (fun _ => 0)), .inl (.int, 30, .inl (fun _ => 0)), .inl (.int, 30, .inl (fun _ => 0)), .inl (.int, 750, .inl (fun _ => 0)), .inl (.long, 1230, .inr (.inl (fun _ => 0))), .inl (.long, 41, .inr (.inl (fun _ => 0))), .inl (.long, 41, .inr (.inl (fun _ => 0))), .inl (.int, 4000, .inl (fun _ => 0)), .inl (.int, 4000, .inl (fun _ => 0)), .inl (.int, 4000, .inl (fun _ => 0)), .inl (.int, 4000, .inl (fun _ => 0)), .inl (.int, 20000, .inl (fun _ => 0)), .inl (.int, 20000, .inl (fun _ => 0)), .inl (.int, 20000, .inl (fun _ => 0)), .inl (.int, 20000, .inl (fun _ => 0)), .inl (.int, 6008, .inl (fun _ => 0)), .inl (.int, 6008, .inl (fun _ => 0)), .inl (.int, 6008, .inl (fun _ => 0)), .inl (.int, 6008, .inl (fun _ => 0))]
set_option maxHeartbeats 4000000 in
set_option maxRecDepth 100000 in
theorem p1_ix : am_R gx_G 1 0 [.ref 0] p1_H0 none p1_H1 := by
  refine am_R.enter (M := gx_m0) rfl (by decide +kernel) ?_
  exact am_X.done 35 (fun _ _ => rfl)
set_option maxHeartbeats 4000000 in
set_option maxRecDepth 100000 in
theorem p1_im : am_R gx_G 1 136 [.ref 3] p1_H2 none p1_H3 := by
  refine am_R.enter (M := gx_m136) rfl (by decide +kernel) ?_
  exact am_X.done 283 (fun _ _ => rfl)
end
section
def px2_f (a0 : Int32) : Int32 := (if am_if1 .lt a0 = true then (Int32.ofInt (-1)) else (if am_if2 .le a0 (Int32.ofInt (1)) = true then (Int32.ofInt (0)) else (Int32.ofInt (-1))))
set_option maxHeartbeats 4000000 in
set_option maxRecDepth 100000 in
theorem px2 (a0 : Int32) : am_R gx_G 1 95 [.ref 0, .int a0] p1_H3 (some (.int (px2_f a0))) p1_H3 := by
  refine am_R.enter (M := gx_m95) rfl ⟨Nat.le_of_ble_eq_true rfl, Nat.le_of_ble_eq_true rfl⟩ ?_
  unfold px2_f
  show am_X gx_G 0 gx_m95 0 [(0, .ref 0), (1, .int a0)] [] p1_H3 _ p1_H3
  refine am_X.blk 1 (pc' := 1) (lv' := [(0, .ref 0), (1, .int a0)]) (st' := [.int a0]) (H1 := p1_H3) (fun _ _ => rfl) ?_
  refine am_X.br1 (off := 8) (t := 9) (by decide +kernel) (by decide +kernel) (fun hb0 => ?_) (fun hb0 => ?_)
  · exact am_X.done 2 (fun _ _ => rfl)
  · refine am_X.blk 2 (pc' := 6) (lv' := [(0, .ref 0), (1, .int a0)]) (st' := [.int (Int32.ofInt (1)), .int a0]) (H1 := p1_H3) (fun _ _ => rfl) ?_
    refine am_X.br2 (off := 5) (t := 11) (by decide +kernel) (by decide +kernel) (fun hb1 => ?_) (fun hb1 => ?_)
    · exact am_X.done 5 (fun _ _ => rfl)
    · exact am_X.done 2 (fun _ _ => rfl)
def pm2_f (a0 : Int32) : Int32 := (if am_if1 .ne a0 = true then (if am_if2 .ne a0 (Int32.ofInt (1)) = true then (Int32.ofInt (-1)) else 0) else 0)
set_option maxHeartbeats 4000000 in
set_option maxRecDepth 100000 in
theorem pm2 (a0 : Int32) : am_R gx_G 1 184 [.ref 3, .int a0] p1_H3 (some (.int (pm2_f a0))) p1_H3 := by
  refine am_R.enter (M := gx_m184) rfl ⟨Nat.le_of_ble_eq_true rfl, Nat.le_of_ble_eq_true rfl⟩ ?_
  unfold pm2_f
  show am_X gx_G 0 gx_m184 0 [(0, .ref 3), (1, .int a0)] [] p1_H3 _ p1_H3
  refine am_X.blk 1 (pc' := 1) (lv' := [(0, .ref 3), (1, .int a0)]) (st' := [.int a0]) (H1 := p1_H3) (fun _ _ => rfl) ?_
  refine am_X.br1 (off := 10) (t := 11) (by decide +kernel) (by decide +kernel) (fun hb0 => ?_) (fun hb0 => ?_)
  · refine am_X.blk 2 (pc' := 13) (lv' := [(0, .ref 3), (1, .int a0)]) (st' := [.int (Int32.ofInt (1)), .int a0]) (H1 := p1_H3) (fun _ _ => rfl) ?_
    refine am_X.br2 (off := 10) (t := 23) (by decide +kernel) (by decide +kernel) (fun hb1 => ?_) (fun hb1 => ?_)
    · exact am_X.done 2 (fun _ _ => rfl)
    · exact am_X.done 4 (fun _ _ => rfl)
  · exact am_X.done 4 (fun _ _ => rfl)
def px3_f (a0 : Int32) : Int32 := (Int32.ofInt (-1))
set_option maxHeartbeats 4000000 in
set_option maxRecDepth 100000 in
theorem px3 (a0 : Int32) : am_R gx_G 1 96 [.ref 0, .int a0] p1_H3 (some (.int (px3_f a0))) p1_H3 := by
  refine am_R.enter (M := gx_m96) rfl ⟨Nat.le_of_ble_eq_true rfl, Nat.le_of_ble_eq_true rfl⟩ ?_
  unfold px3_f
  show am_X gx_G 0 gx_m96 0 [(0, .ref 0), (1, .int a0)] [] p1_H3 _ p1_H3
  exact am_X.done 5 (fun _ _ => rfl)
def pm3_f (a0 : Int32) : Int32 := (Int32.ofInt (-1))
set_option maxHeartbeats 4000000 in
set_option maxRecDepth 100000 in
theorem pm3 (a0 : Int32) : am_R gx_G 1 185 [.ref 3, .int a0] p1_H3 (some (.int (pm3_f a0))) p1_H3 := by
  refine am_R.enter (M := gx_m185) rfl ⟨Nat.le_of_ble_eq_true rfl, Nat.le_of_ble_eq_true rfl⟩ ?_
  unfold pm3_f
  show am_X gx_G 0 gx_m185 0 [(0, .ref 3), (1, .int a0)] [] p1_H3 _ p1_H3
  exact am_X.done 5 (fun _ _ => rfl)
def px4_f (a0 : Int32) (a1 : Int32) : Int32 := (Int32.ofInt (0))
set_option maxHeartbeats 4000000 in
set_option maxRecDepth 100000 in
theorem px4 (a0 : Int32) (a1 : Int32) : am_R gx_G 1 97 [.ref 0, .int a0, .int a1] p1_H3 (some (.int (px4_f a0 a1))) p1_H3 := by
  refine am_R.enter (M := gx_m97) rfl ⟨Nat.le_of_ble_eq_true rfl, Nat.le_of_ble_eq_true rfl⟩ ?_
  unfold px4_f
  show am_X gx_G 0 gx_m97 0 [(0, .ref 0), (1, .int a0), (2, .int a1)] [] p1_H3 _ p1_H3
  exact am_X.done 5 (fun _ _ => rfl)
def pm4c187_0_f (v0 : Int32) : Int32 := (Int32.ofInt (0))
set_option maxHeartbeats 4000000 in
set_option maxRecDepth 100000 in
theorem pm4c187_0 (v0 : Int32) : am_R gx_G 1 187 [.ref 3, .int v0] p1_H3 (some (.int (pm4c187_0_f v0))) p1_H3 := by
  refine am_R.enter (M := gx_m187) rfl ⟨Nat.le_of_ble_eq_true rfl, Nat.le_of_ble_eq_true rfl⟩ ?_
  unfold pm4c187_0_f
  show am_X gx_G 0 gx_m187 0 [(0, .ref 3), (1, .int v0)] [] p1_H3 _ p1_H3
  exact am_X.done 5 (fun _ _ => rfl)
def pm4_f (a0 : Int32) (a1 : Int32) : Int32 := (Int32.ofInt (0))
set_option maxHeartbeats 4000000 in
set_option maxRecDepth 100000 in
theorem pm4 (a0 : Int32) (a1 : Int32) : am_R gx_G 2 186 [.ref 3, .int a0, .int a1] p1_H3 (some (.int (pm4_f a0 a1))) p1_H3 := by
  refine am_R.enter (M := gx_m186) rfl ⟨Nat.le_of_ble_eq_true rfl, Nat.le_of_ble_eq_true rfl⟩ ?_
  unfold pm4_f
  show am_X gx_G 1 gx_m186 0 [(0, .ref 3), (1, .int a0), (2, .int a1)] [] p1_H3 _ p1_H3
  refine am_X.blk 2 (pc' := 2) (lv' := [(0, .ref 3), (1, .int a0), (2, .int a1)]) (st' := [.int a0, .ref 3]) (H1 := p1_H3) (fun _ _ => rfl) ?_
  refine am_X.goD (i := .invokevirtual 457) (n := 3) (pc' := 5) (lv' := [(0, .ref 3), (1, .int a0), (2, .int a1)]) (st' := [.int (Int32.ofInt (0))]) (H1 := p1_H3) (by decide +kernel) (am_oneV (own := "") (j := 187) (z := 0) (Mj := gx_m187) (as := [.int a0]) (p := 3) (rest := []) (v := some (.int (Int32.ofInt (0)))) rfl rfl rfl (by decide +kernel) rfl rfl rfl (Nat.le_of_ble_eq_true rfl) (by decide +kernel) ((pm4c187_0 a0).deeper (by decide))) ?_
  exact am_X.done 3 (fun _ _ => rfl)
def px5_f (a0 : Int32) (a1 : Int32) : Int32 := (Int32.ofInt (0))
set_option maxHeartbeats 4000000 in
set_option maxRecDepth 100000 in
theorem px5 (a0 : Int32) (a1 : Int32) : am_R gx_G 1 100 [.ref 0, .int a0, .int a1] p1_H3 (some (.int (px5_f a0 a1))) p1_H3 := by
  refine am_R.enter (M := gx_m100) rfl ⟨Nat.le_of_ble_eq_true rfl, Nat.le_of_ble_eq_true rfl⟩ ?_
  unfold px5_f
  show am_X gx_G 0 gx_m100 0 [(0, .ref 0), (1, .int a0), (2, .int a1)] [] p1_H3 _ p1_H3
  exact am_X.done 5 (fun _ _ => rfl)
def pm5c187_0_f (v0 : Int32) : Int32 := (Int32.ofInt (0))
set_option maxHeartbeats 4000000 in
set_option maxRecDepth 100000 in
theorem pm5c187_0 (v0 : Int32) : am_R gx_G 1 187 [.ref 3, .int v0] p1_H3 (some (.int (pm5c187_0_f v0))) p1_H3 := by
  refine am_R.enter (M := gx_m187) rfl ⟨Nat.le_of_ble_eq_true rfl, Nat.le_of_ble_eq_true rfl⟩ ?_
  unfold pm5c187_0_f
  show am_X gx_G 0 gx_m187 0 [(0, .ref 3), (1, .int v0)] [] p1_H3 _ p1_H3
  exact am_X.done 5 (fun _ _ => rfl)
def pm5_f (a0 : Int32) (a1 : Int32) : Int32 := (Int32.ofInt (0))
set_option maxHeartbeats 4000000 in
set_option maxRecDepth 100000 in
theorem pm5 (a0 : Int32) (a1 : Int32) : am_R gx_G 2 189 [.ref 3, .int a0, .int a1] p1_H3 (some (.int (pm5_f a0 a1))) p1_H3 := by
  refine am_R.enter (M := gx_m189) rfl ⟨Nat.le_of_ble_eq_true rfl, Nat.le_of_ble_eq_true rfl⟩ ?_
  unfold pm5_f
  show am_X gx_G 1 gx_m189 0 [(0, .ref 3), (1, .int a0), (2, .int a1)] [] p1_H3 _ p1_H3
  refine am_X.blk 2 (pc' := 2) (lv' := [(0, .ref 3), (1, .int a0), (2, .int a1)]) (st' := [.int a0, .ref 3]) (H1 := p1_H3) (fun _ _ => rfl) ?_
  refine am_X.goD (i := .invokevirtual 457) (n := 3) (pc' := 5) (lv' := [(0, .ref 3), (1, .int a0), (2, .int a1)]) (st' := [.int (Int32.ofInt (0))]) (H1 := p1_H3) (by decide +kernel) (am_oneV (own := "") (j := 187) (z := 0) (Mj := gx_m187) (as := [.int a0]) (p := 3) (rest := []) (v := some (.int (Int32.ofInt (0)))) rfl rfl rfl (by decide +kernel) rfl rfl rfl (Nat.le_of_ble_eq_true rfl) (by decide +kernel) ((pm5c187_0 a0).deeper (by decide))) ?_
  exact am_X.done 3 (fun _ _ => rfl)
def px6_f (a0 : Int32) : Int32 := (Int32.ofInt (0))
set_option maxHeartbeats 4000000 in
set_option maxRecDepth 100000 in
theorem px6 (a0 : Int32) : am_R gx_G 1 102 [.ref 0, .int a0] p1_H3 (some (.int (px6_f a0))) p1_H3 := by
  refine am_R.enter (M := gx_m102) rfl ⟨Nat.le_of_ble_eq_true rfl, Nat.le_of_ble_eq_true rfl⟩ ?_
  unfold px6_f
  show am_X gx_G 0 gx_m102 0 [(0, .ref 0), (1, .int a0)] [] p1_H3 _ p1_H3
  exact am_X.done 5 (fun _ _ => rfl)
def pm6c187_0_f (v0 : Int32) : Int32 := (Int32.ofInt (0))
set_option maxHeartbeats 4000000 in
set_option maxRecDepth 100000 in
theorem pm6c187_0 (v0 : Int32) : am_R gx_G 1 187 [.ref 3, .int v0] p1_H3 (some (.int (pm6c187_0_f v0))) p1_H3 := by
  refine am_R.enter (M := gx_m187) rfl ⟨Nat.le_of_ble_eq_true rfl, Nat.le_of_ble_eq_true rfl⟩ ?_
  unfold pm6c187_0_f
  show am_X gx_G 0 gx_m187 0 [(0, .ref 3), (1, .int v0)] [] p1_H3 _ p1_H3
  exact am_X.done 5 (fun _ _ => rfl)
def pm6_f (a0 : Int32) : Int32 := (Int32.ofInt (0))
set_option maxHeartbeats 4000000 in
set_option maxRecDepth 100000 in
theorem pm6 (a0 : Int32) : am_R gx_G 2 191 [.ref 3, .int a0] p1_H3 (some (.int (pm6_f a0))) p1_H3 := by
  refine am_R.enter (M := gx_m191) rfl ⟨Nat.le_of_ble_eq_true rfl, Nat.le_of_ble_eq_true rfl⟩ ?_
  unfold pm6_f
  show am_X gx_G 1 gx_m191 0 [(0, .ref 3), (1, .int a0)] [] p1_H3 _ p1_H3
  refine am_X.blk 2 (pc' := 2) (lv' := [(0, .ref 3), (1, .int a0)]) (st' := [.int a0, .ref 3]) (H1 := p1_H3) (fun _ _ => rfl) ?_
  refine am_X.goD (i := .invokevirtual 457) (n := 3) (pc' := 5) (lv' := [(0, .ref 3), (1, .int a0)]) (st' := [.int (Int32.ofInt (0))]) (H1 := p1_H3) (by decide +kernel) (am_oneV (own := "") (j := 187) (z := 0) (Mj := gx_m187) (as := [.int a0]) (p := 3) (rest := []) (v := some (.int (Int32.ofInt (0)))) rfl rfl rfl (by decide +kernel) rfl rfl rfl (Nat.le_of_ble_eq_true rfl) (by decide +kernel) ((pm6c187_0 a0).deeper (by decide))) ?_
  exact am_X.done 3 (fun _ _ => rfl)
def px7_f (a0 : Int32) (a1 : Int32) : Int32 := (Int32.ofInt (-1))
set_option maxHeartbeats 4000000 in
set_option maxRecDepth 100000 in
theorem px7 (a0 : Int32) (a1 : Int32) : am_R gx_G 1 103 [.ref 0, .int a0, .int a1] p1_H3 (some (.int (px7_f a0 a1))) p1_H3 := by
  refine am_R.enter (M := gx_m103) rfl ⟨Nat.le_of_ble_eq_true rfl, Nat.le_of_ble_eq_true rfl⟩ ?_
  unfold px7_f
  show am_X gx_G 0 gx_m103 0 [(0, .ref 0), (1, .int a0), (2, .int a1)] [] p1_H3 _ p1_H3
  exact am_X.done 5 (fun _ _ => rfl)
def pm7c187_0_f (v0 : Int32) : Int32 := (Int32.ofInt (0))
set_option maxHeartbeats 4000000 in
set_option maxRecDepth 100000 in
theorem pm7c187_0 (v0 : Int32) : am_R gx_G 1 187 [.ref 3, .int v0] p1_H3 (some (.int (pm7c187_0_f v0))) p1_H3 := by
  refine am_R.enter (M := gx_m187) rfl ⟨Nat.le_of_ble_eq_true rfl, Nat.le_of_ble_eq_true rfl⟩ ?_
  unfold pm7c187_0_f
  show am_X gx_G 0 gx_m187 0 [(0, .ref 3), (1, .int v0)] [] p1_H3 _ p1_H3
  exact am_X.done 5 (fun _ _ => rfl)
def pm7_f (a0 : Int32) (a1 : Int32) : Int32 := (Int32.ofInt (-1))
set_option maxHeartbeats 4000000 in
set_option maxRecDepth 100000 in
theorem pm7 (a0 : Int32) (a1 : Int32) : am_R gx_G 2 192 [.ref 3, .int a0, .int a1] p1_H3 (some (.int (pm7_f a0 a1))) p1_H3 := by
  refine am_R.enter (M := gx_m192) rfl ⟨Nat.le_of_ble_eq_true rfl, Nat.le_of_ble_eq_true rfl⟩ ?_
  unfold pm7_f
  show am_X gx_G 1 gx_m192 0 [(0, .ref 3), (1, .int a0), (2, .int a1)] [] p1_H3 _ p1_H3
  refine am_X.blk 2 (pc' := 2) (lv' := [(0, .ref 3), (1, .int a0), (2, .int a1)]) (st' := [.int a0, .ref 3]) (H1 := p1_H3) (fun _ _ => rfl) ?_
  refine am_X.goD (i := .invokevirtual 457) (n := 3) (pc' := 5) (lv' := [(0, .ref 3), (1, .int a0), (2, .int a1)]) (st' := [.int (Int32.ofInt (0))]) (H1 := p1_H3) (by decide +kernel) (am_oneV (own := "") (j := 187) (z := 0) (Mj := gx_m187) (as := [.int a0]) (p := 3) (rest := []) (v := some (.int (Int32.ofInt (0)))) rfl rfl rfl (by decide +kernel) rfl rfl rfl (Nat.le_of_ble_eq_true rfl) (by decide +kernel) ((pm7c187_0 a0).deeper (by decide))) ?_
  exact am_X.done 3 (fun _ _ => rfl)
def px8_f (a0 : Int32) : Int32 := (if am_if1 .lt a0 = true then (Int32.ofInt (-1)) else (if am_if2 .le a0 (Int8.ofInt (6)).toInt32 = true then (if am_if2 .ne a0 (Int8.ofInt (6)).toInt32 = true then (Int32.ofInt (0)) else (Int32.ofInt (0))) else (Int32.ofInt (-1))))
set_option maxHeartbeats 4000000 in
set_option maxRecDepth 100000 in
theorem px8 (a0 : Int32) : am_R gx_G 1 105 [.ref 0, .int a0] p1_H3 (some (.int (px8_f a0))) p1_H3 := by
  refine am_R.enter (M := gx_m105) rfl ⟨Nat.le_of_ble_eq_true rfl, Nat.le_of_ble_eq_true rfl⟩ ?_
  unfold px8_f
  show am_X gx_G 0 gx_m105 0 [(0, .ref 0), (1, .int a0)] [] p1_H3 _ p1_H3
  refine am_X.blk 1 (pc' := 1) (lv' := [(0, .ref 0), (1, .int a0)]) (st' := [.int a0]) (H1 := p1_H3) (fun _ _ => rfl) ?_
  refine am_X.br1 (off := 9) (t := 10) (by decide +kernel) (by decide +kernel) (fun hb0 => ?_) (fun hb0 => ?_)
  · exact am_X.done 2 (fun _ _ => rfl)
  · refine am_X.blk 2 (pc' := 7) (lv' := [(0, .ref 0), (1, .int a0)]) (st' := [.int (Int8.ofInt (6)).toInt32, .int a0]) (H1 := p1_H3) (fun _ _ => rfl) ?_
    refine am_X.br2 (off := 5) (t := 12) (by decide +kernel) (by decide +kernel) (fun hb1 => ?_) (fun hb1 => ?_)
    · refine am_X.blk 2 (pc' := 15) (lv' := [(0, .ref 0), (1, .int a0)]) (st' := [.int (Int8.ofInt (6)).toInt32, .int a0]) (H1 := p1_H3) (fun _ _ => rfl) ?_
      refine am_X.br2 (off := 8) (t := 23) (by decide +kernel) (by decide +kernel) (fun hb2 => ?_) (fun hb2 => ?_)
      · exact am_X.done 5 (fun _ _ => rfl)
      · exact am_X.done 3 (fun _ _ => rfl)
    · exact am_X.done 2 (fun _ _ => rfl)
def pm8_f (a0 : Int32) : Int32 := (if (a0).toInt < 0 ∨ 6 < (a0).toInt then (Int32.ofInt (-1)) else (fun q => ([0, 0, 0, 0, 0, 0, 0] : List Int32).getD q 0) (a0).toInt.toNat)
set_option maxHeartbeats 4000000 in
set_option maxRecDepth 100000 in
theorem pm8 (a0 : Int32) : am_R gx_G 1 193 [.ref 3, .int a0] p1_H3 (some (.int (pm8_f a0))) p1_H3 := by
  refine am_R.enter (M := gx_m193) rfl ⟨Nat.le_of_ble_eq_true rfl, Nat.le_of_ble_eq_true rfl⟩ ?_
  unfold pm8_f
  show am_X gx_G 0 gx_m193 0 [(0, .ref 3), (1, .int a0)] [] p1_H3 _ p1_H3
  refine am_X.blk 1 (pc' := 1) (lv' := [(0, .ref 3), (1, .int a0)]) (st' := [.int a0]) (H1 := p1_H3) (fun _ _ => rfl) ?_
  refine am_X.sw (n := 43) (N := 6) (dflt := 78) (hi := 6) (offs := #[43, 48, 53, 58, 63, 68, 73]) (rs := (fun q => ([0, 0, 0, 0, 0, 0, 0] : List Int32).getD q 0)) (tq := fun q => ([44, 49, 54, 59, 64, 69, 74] : List Nat).getD q 0) (t := 79) (by decide +kernel) rfl (fun q hq => ?_) (by decide +kernel) (fun q hq => ?_) ?_
  · rcases (show q = 0 ∨ q = 1 ∨ q = 2 ∨ q = 3 ∨ q = 4 ∨ q = 5 ∨ q = 6 by omega) with rfl | rfl | rfl | rfl | rfl | rfl | rfl <;> exact ⟨_, rfl, by decide +kernel⟩
  · rcases (show q = 0 ∨ q = 1 ∨ q = 2 ∨ q = 3 ∨ q = 4 ∨ q = 5 ∨ q = 6 by omega) with rfl | rfl | rfl | rfl | rfl | rfl | rfl
    · exact am_X.done 3 (fun _ _ => rfl)
    · exact am_X.done 3 (fun _ _ => rfl)
    · exact am_X.done 3 (fun _ _ => rfl)
    · exact am_X.done 3 (fun _ _ => rfl)
    · exact am_X.done 3 (fun _ _ => rfl)
    · exact am_X.done 3 (fun _ _ => rfl)
    · exact am_X.done 3 (fun _ _ => rfl)
  · exact am_X.done 2 (fun _ _ => rfl)
def px9_f (a0 : Int32) (a1 : Int32) : Int32 := (Int32.ofInt (-1))
set_option maxHeartbeats 4000000 in
set_option maxRecDepth 100000 in
theorem px9 (a0 : Int32) (a1 : Int32) : am_R gx_G 1 106 [.ref 0, .int a0, .int a1] p1_H3 (some (.int (px9_f a0 a1))) p1_H3 := by
  refine am_R.enter (M := gx_m106) rfl ⟨Nat.le_of_ble_eq_true rfl, Nat.le_of_ble_eq_true rfl⟩ ?_
  unfold px9_f
  show am_X gx_G 0 gx_m106 0 [(0, .ref 0), (1, .int a0), (2, .int a1)] [] p1_H3 _ p1_H3
  exact am_X.done 5 (fun _ _ => rfl)
def pm9_f (a0 : Int32) (a1 : Int32) : Int32 := (if am_if1 .lt a0 = true then (Int32.ofInt (-1)) else (if am_if2 .ge a0 0 = true then (Int32.ofInt (-1)) else (if am_if1 .lt a1 = true then (Int32.ofInt (-1)) else (if am_if2 .le a1 (Int32.ofInt (1)) = true then (if am_if1 .ne a1 = true then (if am_if2 .ne a1 (Int32.ofInt (1)) = true then (Int32.ofInt (0)) else (Int32.ofInt (0))) else (Int32.ofInt (0))) else (Int32.ofInt (0))))))
set_option maxHeartbeats 4000000 in
set_option maxRecDepth 100000 in
theorem pm9 (a0 : Int32) (a1 : Int32) : am_R gx_G 1 194 [.ref 3, .int a0, .int a1] p1_H3 (some (.int (pm9_f a0 a1))) p1_H3 := by
  refine am_R.enter (M := gx_m194) rfl ⟨Nat.le_of_ble_eq_true rfl, Nat.le_of_ble_eq_true rfl⟩ ?_
  unfold pm9_f
  show am_X gx_G 0 gx_m194 0 [(0, .ref 3), (1, .int a0), (2, .int a1)] [] p1_H3 _ p1_H3
  refine am_X.blk 1 (pc' := 1) (lv' := [(0, .ref 3), (1, .int a0), (2, .int a1)]) (st' := [.int a0]) (H1 := p1_H3) (fun _ _ => rfl) ?_
  refine am_X.br1 (off := 32) (t := 33) (by decide +kernel) (by decide +kernel) (fun hb0 => ?_) (fun hb0 => ?_)
  · exact am_X.done 2 (fun _ _ => rfl)
  · refine am_X.blk 3 (pc' := 9) (lv' := [(0, .ref 3), (1, .int a0), (2, .int a1)]) (st' := [.int 0, .int a0]) (H1 := p1_H3) (fun _ _ => rfl) ?_
    refine am_X.br2 (off := 24) (t := 33) (by decide +kernel) (by decide +kernel) (fun hb1 => ?_) (fun hb1 => ?_)
    · exact am_X.done 2 (fun _ _ => rfl)
    · refine am_X.blk 1 (pc' := 13) (lv' := [(0, .ref 3), (1, .int a0), (2, .int a1)]) (st' := [.int a1]) (H1 := p1_H3) (fun _ _ => rfl) ?_
      refine am_X.br1 (off := 20) (t := 33) (by decide +kernel) (by decide +kernel) (fun hb2 => ?_) (fun hb2 => ?_)
      · exact am_X.done 2 (fun _ _ => rfl)
      · refine am_X.blk 2 (pc' := 18) (lv' := [(0, .ref 3), (1, .int a0), (2, .int a1)]) (st' := [.int (Int32.ofInt (1)), .int a1]) (H1 := p1_H3) (fun _ _ => rfl) ?_
        refine am_X.br2 (off := 17) (t := 35) (by decide +kernel) (by decide +kernel) (fun hb3 => ?_) (fun hb3 => ?_)
        · refine am_X.blk 1 (pc' := 36) (lv' := [(0, .ref 3), (1, .int a0), (2, .int a1)]) (st' := [.int a1]) (H1 := p1_H3) (fun _ _ => rfl) ?_
          refine am_X.br1 (off := 12) (t := 48) (by decide +kernel) (by decide +kernel) (fun hb4 => ?_) (fun hb4 => ?_)
          · refine am_X.blk 2 (pc' := 50) (lv' := [(0, .ref 3), (1, .int a0), (2, .int a1)]) (st' := [.int (Int32.ofInt (1)), .int a1]) (H1 := p1_H3) (fun _ _ => rfl) ?_
            refine am_X.br2 (off := 12) (t := 62) (by decide +kernel) (by decide +kernel) (fun hb5 => ?_) (fun hb5 => ?_)
            · exfalso
              simp only [am_if1, am_if2, decide_eq_true_eq, decide_eq_false_iff_not, Int32.lt_iff_toInt_lt, Int32.le_iff_toInt_le, Int32.toInt_zero, show (Int32.ofInt (1) : Int32).toInt = (1) by decide +kernel] at hb0 hb1 hb2 hb3 hb4 hb5
              omega
            · exfalso
              simp only [am_if1, am_if2, decide_eq_true_eq, decide_eq_false_iff_not, Int32.lt_iff_toInt_lt, Int32.le_iff_toInt_le, Int32.toInt_zero, show (Int32.ofInt (1) : Int32).toInt = (1) by decide +kernel] at hb0 hb1 hb2 hb3 hb4 hb5
              omega
          · exfalso
            simp only [am_if1, am_if2, decide_eq_true_eq, decide_eq_false_iff_not, Int32.lt_iff_toInt_lt, Int32.le_iff_toInt_le, Int32.toInt_zero, show (Int32.ofInt (1) : Int32).toInt = (1) by decide +kernel] at hb0 hb1 hb2 hb3 hb4
            omega
        · exfalso
          simp only [am_if1, am_if2, decide_eq_true_eq, decide_eq_false_iff_not, Int32.lt_iff_toInt_lt, Int32.le_iff_toInt_le, Int32.toInt_zero, show (Int32.ofInt (1) : Int32).toInt = (1) by decide +kernel] at hb0 hb1 hb2 hb3
          omega
def px10_f (a0 : Int32) (a1 : Int32) : Int32 := (Int32.ofInt (-1))
set_option maxHeartbeats 4000000 in
set_option maxRecDepth 100000 in
theorem px10 (a0 : Int32) (a1 : Int32) : am_R gx_G 1 107 [.ref 0, .int a0, .int a1] p1_H3 (some (.int (px10_f a0 a1))) p1_H3 := by
  refine am_R.enter (M := gx_m107) rfl ⟨Nat.le_of_ble_eq_true rfl, Nat.le_of_ble_eq_true rfl⟩ ?_
  unfold px10_f
  show am_X gx_G 0 gx_m107 0 [(0, .ref 0), (1, .int a0), (2, .int a1)] [] p1_H3 _ p1_H3
  exact am_X.done 5 (fun _ _ => rfl)
def pm10c188_0_f (v0 : Int32) : Int32 := (Int32.ofInt (0))
set_option maxHeartbeats 4000000 in
set_option maxRecDepth 100000 in
theorem pm10c188_0 (v0 : Int32) : am_R gx_G 1 188 [.ref 3, .int v0] p1_H3 (some (.int (pm10c188_0_f v0))) p1_H3 := by
  refine am_R.enter (M := gx_m188) rfl ⟨Nat.le_of_ble_eq_true rfl, Nat.le_of_ble_eq_true rfl⟩ ?_
  unfold pm10c188_0_f
  show am_X gx_G 0 gx_m188 0 [(0, .ref 3), (1, .int v0)] [] p1_H3 _ p1_H3
  exact am_X.done 5 (fun _ _ => rfl)
def pm10_f (a0 : Int32) (a1 : Int32) : Int32 := (Int32.ofInt (-1))
set_option maxHeartbeats 4000000 in
set_option maxRecDepth 100000 in
theorem pm10 (a0 : Int32) (a1 : Int32) : am_R gx_G 2 195 [.ref 3, .int a0, .int a1] p1_H3 (some (.int (pm10_f a0 a1))) p1_H3 := by
  refine am_R.enter (M := gx_m195) rfl ⟨Nat.le_of_ble_eq_true rfl, Nat.le_of_ble_eq_true rfl⟩ ?_
  unfold pm10_f
  show am_X gx_G 1 gx_m195 0 [(0, .ref 3), (1, .int a0), (2, .int a1)] [] p1_H3 _ p1_H3
  refine am_X.blk 2 (pc' := 2) (lv' := [(0, .ref 3), (1, .int a0), (2, .int a1)]) (st' := [.int a0, .ref 3]) (H1 := p1_H3) (fun _ _ => rfl) ?_
  refine am_X.goD (i := .invokevirtual 460) (n := 3) (pc' := 5) (lv' := [(0, .ref 3), (1, .int a0), (2, .int a1)]) (st' := [.int (Int32.ofInt (0))]) (H1 := p1_H3) (by decide +kernel) (am_oneV (own := "") (j := 188) (z := 0) (Mj := gx_m188) (as := [.int a0]) (p := 3) (rest := []) (v := some (.int (Int32.ofInt (0)))) rfl rfl rfl (by decide +kernel) rfl rfl rfl (Nat.le_of_ble_eq_true rfl) (by decide +kernel) ((pm10c188_0 a0).deeper (by decide))) ?_
  exact am_X.done 3 (fun _ _ => rfl)
def px11_f (a0 : Int32) : Int64 := (-1)
set_option maxHeartbeats 4000000 in
set_option maxRecDepth 100000 in
theorem px11 (a0 : Int32) : am_R gx_G 1 108 [.ref 0, .int a0] p1_H3 (some (.long (px11_f a0))) p1_H3 := by
  refine am_R.enter (M := gx_m108) rfl ⟨Nat.le_of_ble_eq_true rfl, Nat.le_of_ble_eq_true rfl⟩ ?_
  unfold px11_f
  show am_X gx_G 0 gx_m108 0 [(0, .ref 0), (1, .int a0)] [] p1_H3 _ p1_H3
  exact am_X.done 5 (fun _ _ => rfl)
def pm11_f (a0 : Int32) : Int64 := (-1)
set_option maxHeartbeats 4000000 in
set_option maxRecDepth 100000 in
theorem pm11 (a0 : Int32) : am_R gx_G 1 196 [.ref 3, .int a0] p1_H3 (some (.long (pm11_f a0))) p1_H3 := by
  refine am_R.enter (M := gx_m196) rfl ⟨Nat.le_of_ble_eq_true rfl, Nat.le_of_ble_eq_true rfl⟩ ?_
  unfold pm11_f
  show am_X gx_G 0 gx_m196 0 [(0, .ref 3), (1, .int a0)] [] p1_H3 _ p1_H3
  exact am_X.done 5 (fun _ _ => rfl)
def px12_f (a0 : Int64) (a1 : Int32) : Int32 := (if am_if2 .lt a1 (Int32.ofInt (1)) = true then (Int32.ofInt (-1)) else (if am_if2 .gt a1 (Int8.ofInt (8)).toInt32 = true then (Int32.ofInt (-1)) else (Int32.ofInt (-1))))
set_option maxHeartbeats 4000000 in
set_option maxRecDepth 100000 in
theorem px12 (a0 : Int64) (a1 : Int32) : am_R gx_G 1 117 [.ref 0, .long a0, .int a1] p1_H3 (some (.int (px12_f a0 a1))) p1_H3 := by
  refine am_R.enter (M := gx_m117) rfl ⟨Nat.le_of_ble_eq_true rfl, Nat.le_of_ble_eq_true rfl⟩ ?_
  unfold px12_f
  show am_X gx_G 0 gx_m117 0 [(0, .ref 0), (1, .long a0), (3, .int a1)] [] p1_H3 _ p1_H3
  refine am_X.blk 2 (pc' := 2) (lv' := [(0, .ref 0), (1, .long a0), (3, .int a1)]) (st' := [.int (Int32.ofInt (1)), .int a1]) (H1 := p1_H3) (fun _ _ => rfl) ?_
  refine am_X.br2 (off := 26) (t := 28) (by decide +kernel) (by decide +kernel) (fun hb0 => ?_) (fun hb0 => ?_)
  · exact am_X.done 2 (fun _ _ => rfl)
  · refine am_X.blk 2 (pc' := 8) (lv' := [(0, .ref 0), (1, .long a0), (3, .int a1)]) (st' := [.int (Int8.ofInt (8)).toInt32, .int a1]) (H1 := p1_H3) (fun _ _ => rfl) ?_
    refine am_X.br2 (off := 20) (t := 28) (by decide +kernel) (by decide +kernel) (fun hb1 => ?_) (fun hb1 => ?_)
    · exact am_X.done 2 (fun _ _ => rfl)
    · exact am_X.done 5 (fun _ _ => rfl)
def pm12_f (a0 : Int64) (a1 : Int32) : Int32 := (if am_if2 .lt a1 (Int32.ofInt (1)) = true then (Int32.ofInt (-1)) else (if am_if2 .gt a1 (Int8.ofInt (8)).toInt32 = true then (Int32.ofInt (-1)) else (Int32.ofInt (-1))))
set_option maxHeartbeats 4000000 in
set_option maxRecDepth 100000 in
theorem pm12 (a0 : Int64) (a1 : Int32) : am_R gx_G 1 199 [.ref 3, .long a0, .int a1] p1_H3 (some (.int (pm12_f a0 a1))) p1_H3 := by
  refine am_R.enter (M := gx_m199) rfl ⟨Nat.le_of_ble_eq_true rfl, Nat.le_of_ble_eq_true rfl⟩ ?_
  unfold pm12_f
  show am_X gx_G 0 gx_m199 0 [(0, .ref 3), (1, .long a0), (3, .int a1)] [] p1_H3 _ p1_H3
  refine am_X.blk 2 (pc' := 2) (lv' := [(0, .ref 3), (1, .long a0), (3, .int a1)]) (st' := [.int (Int32.ofInt (1)), .int a1]) (H1 := p1_H3) (fun _ _ => rfl) ?_
  refine am_X.br2 (off := 23) (t := 25) (by decide +kernel) (by decide +kernel) (fun hb0 => ?_) (fun hb0 => ?_)
  · exact am_X.done 2 (fun _ _ => rfl)
  · refine am_X.blk 2 (pc' := 8) (lv' := [(0, .ref 3), (1, .long a0), (3, .int a1)]) (st' := [.int (Int8.ofInt (8)).toInt32, .int a1]) (H1 := p1_H3) (fun _ _ => rfl) ?_
    refine am_X.br2 (off := 17) (t := 25) (by decide +kernel) (by decide +kernel) (fun hb1 => ?_) (fun hb1 => ?_)
    · exact am_X.done 2 (fun _ _ => rfl)
    · exact am_X.done 5 (fun _ _ => rfl)
def px13_f  : Int32 := (Int32.ofInt (-1))
set_option maxHeartbeats 4000000 in
set_option maxRecDepth 100000 in
theorem px13  : am_R gx_G 1 128 [.ref 0] p1_H3 (some (.int (px13_f ))) p1_H3 := by
  refine am_R.enter (M := gx_m128) rfl ⟨Nat.le_of_ble_eq_true rfl, Nat.le_of_ble_eq_true rfl⟩ ?_
  unfold px13_f
  show am_X gx_G 0 gx_m128 0 [(0, .ref 0)] [] p1_H3 _ p1_H3
  exact am_X.done 5 (fun _ _ => rfl)
def pm13_f  : Int32 := (Int32.ofInt (-1))
set_option maxHeartbeats 4000000 in
set_option maxRecDepth 100000 in
theorem pm13  : am_R gx_G 1 203 [.ref 3] p1_H3 (some (.int (pm13_f ))) p1_H3 := by
  refine am_R.enter (M := gx_m203) rfl ⟨Nat.le_of_ble_eq_true rfl, Nat.le_of_ble_eq_true rfl⟩ ?_
  unfold pm13_f
  show am_X gx_G 0 gx_m203 0 [(0, .ref 3)] [] p1_H3 _ p1_H3
  exact am_X.done 5 (fun _ _ => rfl)
def px14_f  : Int32 := (Int32.ofInt (-1))
set_option maxHeartbeats 4000000 in
set_option maxRecDepth 100000 in
theorem px14  : am_R gx_G 1 130 [.ref 0] p1_H3 (some (.int (px14_f ))) p1_H3 := by
  refine am_R.enter (M := gx_m130) rfl ⟨Nat.le_of_ble_eq_true rfl, Nat.le_of_ble_eq_true rfl⟩ ?_
  unfold px14_f
  show am_X gx_G 0 gx_m130 0 [(0, .ref 0)] [] p1_H3 _ p1_H3
  exact am_X.done 5 (fun _ _ => rfl)
def pm14_f  : Int32 := (Int32.ofInt (-1))
set_option maxHeartbeats 4000000 in
set_option maxRecDepth 100000 in
theorem pm14  : am_R gx_G 1 204 [.ref 3] p1_H3 (some (.int (pm14_f ))) p1_H3 := by
  refine am_R.enter (M := gx_m204) rfl ⟨Nat.le_of_ble_eq_true rfl, Nat.le_of_ble_eq_true rfl⟩ ?_
  unfold pm14_f
  show am_X gx_G 0 gx_m204 0 [(0, .ref 3)] [] p1_H3 _ p1_H3
  exact am_X.done 5 (fun _ _ => rfl)
def px15_f (a0 : Int32) : Int32 := (if am_if1 .lt a0 = true then (Int32.ofInt (-1)) else (if am_if2 .le a0 (Int8.ofInt (6)).toInt32 = true then (if am_if2 .ne a0 (Int32.ofInt (2)) = true then (Int32.ofInt (0)) else (Int32.ofInt (-1))) else (Int32.ofInt (-1))))
set_option maxHeartbeats 4000000 in
set_option maxRecDepth 100000 in
theorem px15 (a0 : Int32) : am_R gx_G 1 131 [.ref 0, .int a0] p1_H3 (some (.int (px15_f a0))) p1_H3 := by
  refine am_R.enter (M := gx_m131) rfl ⟨Nat.le_of_ble_eq_true rfl, Nat.le_of_ble_eq_true rfl⟩ ?_
  unfold px15_f
  show am_X gx_G 0 gx_m131 0 [(0, .ref 0), (1, .int a0)] [] p1_H3 _ p1_H3
  refine am_X.blk 1 (pc' := 1) (lv' := [(0, .ref 0), (1, .int a0)]) (st' := [.int a0]) (H1 := p1_H3) (fun _ _ => rfl) ?_
  refine am_X.br1 (off := 9) (t := 10) (by decide +kernel) (by decide +kernel) (fun hb0 => ?_) (fun hb0 => ?_)
  · exact am_X.done 2 (fun _ _ => rfl)
  · refine am_X.blk 2 (pc' := 7) (lv' := [(0, .ref 0), (1, .int a0)]) (st' := [.int (Int8.ofInt (6)).toInt32, .int a0]) (H1 := p1_H3) (fun _ _ => rfl) ?_
    refine am_X.br2 (off := 5) (t := 12) (by decide +kernel) (by decide +kernel) (fun hb1 => ?_) (fun hb1 => ?_)
    · refine am_X.blk 5 (pc' := 21) (lv' := [(0, .ref 0), (1, .int a0)]) (st' := [.int (Int32.ofInt (2)), .int a0]) (H1 := p1_H3) (fun _ _ => rfl) ?_
      refine am_X.br2 (off := 7) (t := 28) (by decide +kernel) (by decide +kernel) (fun hb2 => ?_) (fun hb2 => ?_)
      · exact am_X.done 2 (fun _ _ => rfl)
      · exact am_X.done 3 (fun _ _ => rfl)
    · exact am_X.done 2 (fun _ _ => rfl)
def pm15_f (a0 : Int32) : Int32 := (if (a0).toInt < 0 ∨ 6 < (a0).toInt then (Int32.ofInt (-1)) else (fun q => ([0, 0, (Int32.ofInt (-1)), (Int32.ofInt (0)), 0, 0, 0] : List Int32).getD q 0) (a0).toInt.toNat)
set_option maxHeartbeats 4000000 in
set_option maxRecDepth 100000 in
theorem pm15 (a0 : Int32) : am_R gx_G 1 205 [.ref 3, .int a0] p1_H3 (some (.int (pm15_f a0))) p1_H3 := by
  refine am_R.enter (M := gx_m205) rfl ⟨Nat.le_of_ble_eq_true rfl, Nat.le_of_ble_eq_true rfl⟩ ?_
  unfold pm15_f
  show am_X gx_G 0 gx_m205 0 [(0, .ref 3), (1, .int a0)] [] p1_H3 _ p1_H3
  refine am_X.blk 1 (pc' := 1) (lv' := [(0, .ref 3), (1, .int a0)]) (st' := [.int a0]) (H1 := p1_H3) (fun _ _ => rfl) ?_
  refine am_X.sw (n := 43) (N := 6) (dflt := 97) (hi := 6) (offs := #[43, 48, 53, 69, 82, 87, 92]) (rs := (fun q => ([0, 0, (Int32.ofInt (-1)), (Int32.ofInt (0)), 0, 0, 0] : List Int32).getD q 0)) (tq := fun q => ([44, 49, 54, 70, 83, 88, 93] : List Nat).getD q 0) (t := 98) (by decide +kernel) rfl (fun q hq => ?_) (by decide +kernel) (fun q hq => ?_) ?_
  · rcases (show q = 0 ∨ q = 1 ∨ q = 2 ∨ q = 3 ∨ q = 4 ∨ q = 5 ∨ q = 6 by omega) with rfl | rfl | rfl | rfl | rfl | rfl | rfl <;> exact ⟨_, rfl, by decide +kernel⟩
  · rcases (show q = 0 ∨ q = 1 ∨ q = 2 ∨ q = 3 ∨ q = 4 ∨ q = 5 ∨ q = 6 by omega) with rfl | rfl | rfl | rfl | rfl | rfl | rfl
    · exact am_X.done 3 (fun _ _ => rfl)
    · exact am_X.done 3 (fun _ _ => rfl)
    · exact am_X.done 6 (fun _ _ => rfl)
    · exact am_X.done 5 (fun _ _ => rfl)
    · exact am_X.done 3 (fun _ _ => rfl)
    · exact am_X.done 3 (fun _ _ => rfl)
    · exact am_X.done 3 (fun _ _ => rfl)
  · exact am_X.done 2 (fun _ _ => rfl)
def px16_f (a0 : Int32) (a1 : Int32) : Int32 := (Int32.ofInt (-1))
set_option maxHeartbeats 4000000 in
set_option maxRecDepth 100000 in
theorem px16 (a0 : Int32) (a1 : Int32) : am_R gx_G 1 132 [.ref 0, .int a0, .int a1] p1_H3 (some (.int (px16_f a0 a1))) p1_H3 := by
  refine am_R.enter (M := gx_m132) rfl ⟨Nat.le_of_ble_eq_true rfl, Nat.le_of_ble_eq_true rfl⟩ ?_
  unfold px16_f
  show am_X gx_G 0 gx_m132 0 [(0, .ref 0), (1, .int a0), (2, .int a1)] [] p1_H3 _ p1_H3
  exact am_X.done 5 (fun _ _ => rfl)
def pm16_f (a0 : Int32) (a1 : Int32) : Int32 := (if am_if1 .lt a0 = true then (Int32.ofInt (-1)) else (if am_if2 .lt a0 0 = true then (if (a1).toInt < 0 ∨ 2 < (a1).toInt then (Int32.ofInt (-1)) else (fun q => ([(Int32.ofInt (0)), (Int32.ofInt (0)), (Int32.ofInt (0))] : List Int32).getD q 0) (a1).toInt.toNat) else (Int32.ofInt (-1))))
set_option maxHeartbeats 4000000 in
set_option maxRecDepth 100000 in
theorem pm16 (a0 : Int32) (a1 : Int32) : am_R gx_G 1 206 [.ref 3, .int a0, .int a1] p1_H3 (some (.int (pm16_f a0 a1))) p1_H3 := by
  refine am_R.enter (M := gx_m206) rfl ⟨Nat.le_of_ble_eq_true rfl, Nat.le_of_ble_eq_true rfl⟩ ?_
  unfold pm16_f
  show am_X gx_G 0 gx_m206 0 [(0, .ref 3), (1, .int a0), (2, .int a1)] [] p1_H3 _ p1_H3
  refine am_X.blk 1 (pc' := 1) (lv' := [(0, .ref 3), (1, .int a0), (2, .int a1)]) (st' := [.int a0]) (H1 := p1_H3) (fun _ _ => rfl) ?_
  refine am_X.br1 (off := 11) (t := 12) (by decide +kernel) (by decide +kernel) (fun hb0 => ?_) (fun hb0 => ?_)
  · exact am_X.done 2 (fun _ _ => rfl)
  · refine am_X.blk 3 (pc' := 9) (lv' := [(0, .ref 3), (1, .int a0), (2, .int a1)]) (st' := [.int 0, .int a0]) (H1 := p1_H3) (fun _ _ => rfl) ?_
    refine am_X.br2 (off := 5) (t := 14) (by decide +kernel) (by decide +kernel) (fun hb1 => ?_) (fun hb1 => ?_)
    · refine am_X.blk 1 (pc' := 15) (lv' := [(0, .ref 3), (1, .int a0), (2, .int a1)]) (st' := [.int a1]) (H1 := p1_H3) (fun _ _ => rfl) ?_
      refine am_X.sw (n := 25) (N := 2) (dflt := 46) (hi := 2) (offs := #[25, 32, 39]) (rs := (fun q => ([(Int32.ofInt (0)), (Int32.ofInt (0)), (Int32.ofInt (0))] : List Int32).getD q 0)) (tq := fun q => ([40, 47, 54] : List Nat).getD q 0) (t := 61) (by decide +kernel) rfl (fun q hq => ?_) (by decide +kernel) (fun q hq => ?_) ?_
      · rcases (show q = 0 ∨ q = 1 ∨ q = 2 by omega) with rfl | rfl | rfl <;> exact ⟨_, rfl, by decide +kernel⟩
      · rcases (show q = 0 ∨ q = 1 ∨ q = 2 by omega) with rfl | rfl | rfl
        · exfalso
          simp only [am_if1, am_if2, decide_eq_true_eq, decide_eq_false_iff_not, Int32.lt_iff_toInt_lt, Int32.le_iff_toInt_le, Int32.toInt_zero] at hb0 hb1
          omega
        · exfalso
          simp only [am_if1, am_if2, decide_eq_true_eq, decide_eq_false_iff_not, Int32.lt_iff_toInt_lt, Int32.le_iff_toInt_le, Int32.toInt_zero] at hb0 hb1
          omega
        · exfalso
          simp only [am_if1, am_if2, decide_eq_true_eq, decide_eq_false_iff_not, Int32.lt_iff_toInt_lt, Int32.le_iff_toInt_le, Int32.toInt_zero] at hb0 hb1
          omega
      · exact am_X.done 2 (fun _ _ => rfl)
    · exact am_X.done 2 (fun _ _ => rfl)
def px17_f (a0 : Int32) (a1 : Int32) : Int32 := (Int32.ofInt (-1))
set_option maxHeartbeats 4000000 in
set_option maxRecDepth 100000 in
theorem px17 (a0 : Int32) (a1 : Int32) : am_R gx_G 1 133 [.ref 0, .int a0, .int a1] p1_H3 (some (.int (px17_f a0 a1))) p1_H3 := by
  refine am_R.enter (M := gx_m133) rfl ⟨Nat.le_of_ble_eq_true rfl, Nat.le_of_ble_eq_true rfl⟩ ?_
  unfold px17_f
  show am_X gx_G 0 gx_m133 0 [(0, .ref 0), (1, .int a0), (2, .int a1)] [] p1_H3 _ p1_H3
  exact am_X.done 5 (fun _ _ => rfl)
def pm17_f (a0 : Int32) (a1 : Int32) : Int32 := (if am_if1 .lt a0 = true then (Int32.ofInt (-1)) else (if am_if2 .lt a0 0 = true then (if (a1).toInt < 0 ∨ 3 < (a1).toInt then (Int32.ofInt (-1)) else (fun q => ([(Int32.ofInt (0)), (Int32.ofInt (0)), (Int32.ofInt (0)), (Int32.ofInt (0))] : List Int32).getD q 0) (a1).toInt.toNat) else (Int32.ofInt (-1))))
set_option maxHeartbeats 4000000 in
set_option maxRecDepth 100000 in
theorem pm17 (a0 : Int32) (a1 : Int32) : am_R gx_G 1 207 [.ref 3, .int a0, .int a1] p1_H3 (some (.int (pm17_f a0 a1))) p1_H3 := by
  refine am_R.enter (M := gx_m207) rfl ⟨Nat.le_of_ble_eq_true rfl, Nat.le_of_ble_eq_true rfl⟩ ?_
  unfold pm17_f
  show am_X gx_G 0 gx_m207 0 [(0, .ref 3), (1, .int a0), (2, .int a1)] [] p1_H3 _ p1_H3
  refine am_X.blk 1 (pc' := 1) (lv' := [(0, .ref 3), (1, .int a0), (2, .int a1)]) (st' := [.int a0]) (H1 := p1_H3) (fun _ _ => rfl) ?_
  refine am_X.br1 (off := 11) (t := 12) (by decide +kernel) (by decide +kernel) (fun hb0 => ?_) (fun hb0 => ?_)
  · exact am_X.done 2 (fun _ _ => rfl)
  · refine am_X.blk 3 (pc' := 9) (lv' := [(0, .ref 3), (1, .int a0), (2, .int a1)]) (st' := [.int 0, .int a0]) (H1 := p1_H3) (fun _ _ => rfl) ?_
    refine am_X.br2 (off := 5) (t := 14) (by decide +kernel) (by decide +kernel) (fun hb1 => ?_) (fun hb1 => ?_)
    · refine am_X.blk 1 (pc' := 15) (lv' := [(0, .ref 3), (1, .int a0), (2, .int a1)]) (st' := [.int a1]) (H1 := p1_H3) (fun _ _ => rfl) ?_
      refine am_X.sw (n := 29) (N := 3) (dflt := 57) (hi := 3) (offs := #[29, 36, 43, 50]) (rs := (fun q => ([(Int32.ofInt (0)), (Int32.ofInt (0)), (Int32.ofInt (0)), (Int32.ofInt (0))] : List Int32).getD q 0)) (tq := fun q => ([44, 51, 58, 65] : List Nat).getD q 0) (t := 72) (by decide +kernel) rfl (fun q hq => ?_) (by decide +kernel) (fun q hq => ?_) ?_
      · rcases (show q = 0 ∨ q = 1 ∨ q = 2 ∨ q = 3 by omega) with rfl | rfl | rfl | rfl <;> exact ⟨_, rfl, by decide +kernel⟩
      · rcases (show q = 0 ∨ q = 1 ∨ q = 2 ∨ q = 3 by omega) with rfl | rfl | rfl | rfl
        · exfalso
          simp only [am_if1, am_if2, decide_eq_true_eq, decide_eq_false_iff_not, Int32.lt_iff_toInt_lt, Int32.le_iff_toInt_le, Int32.toInt_zero] at hb0 hb1
          omega
        · exfalso
          simp only [am_if1, am_if2, decide_eq_true_eq, decide_eq_false_iff_not, Int32.lt_iff_toInt_lt, Int32.le_iff_toInt_le, Int32.toInt_zero] at hb0 hb1
          omega
        · exfalso
          simp only [am_if1, am_if2, decide_eq_true_eq, decide_eq_false_iff_not, Int32.lt_iff_toInt_lt, Int32.le_iff_toInt_le, Int32.toInt_zero] at hb0 hb1
          omega
        · exfalso
          simp only [am_if1, am_if2, decide_eq_true_eq, decide_eq_false_iff_not, Int32.lt_iff_toInt_lt, Int32.le_iff_toInt_le, Int32.toInt_zero] at hb0 hb1
          omega
      · exact am_X.done 2 (fun _ _ => rfl)
    · exact am_X.done 2 (fun _ _ => rfl)
def px18_f (a0 : Int32) : Int32 := (Int32.ofInt (0))
set_option maxHeartbeats 4000000 in
set_option maxRecDepth 100000 in
theorem px18 (a0 : Int32) : am_R gx_G 1 134 [.ref 0, .int a0] p1_H3 (some (.int (px18_f a0))) p1_H3 := by
  refine am_R.enter (M := gx_m134) rfl ⟨Nat.le_of_ble_eq_true rfl, Nat.le_of_ble_eq_true rfl⟩ ?_
  unfold px18_f
  show am_X gx_G 0 gx_m134 0 [(0, .ref 0), (1, .int a0)] [] p1_H3 _ p1_H3
  exact am_X.done 5 (fun _ _ => rfl)
def pm18c190_0_f (v0 : Int32) : Int32 := (Int32.ofInt (0))
set_option maxHeartbeats 4000000 in
set_option maxRecDepth 100000 in
theorem pm18c190_0 (v0 : Int32) : am_R gx_G 1 190 [.ref 3, .int v0] p1_H3 (some (.int (pm18c190_0_f v0))) p1_H3 := by
  refine am_R.enter (M := gx_m190) rfl ⟨Nat.le_of_ble_eq_true rfl, Nat.le_of_ble_eq_true rfl⟩ ?_
  unfold pm18c190_0_f
  show am_X gx_G 0 gx_m190 0 [(0, .ref 3), (1, .int v0)] [] p1_H3 _ p1_H3
  exact am_X.done 5 (fun _ _ => rfl)
def pm18_f (a0 : Int32) : Int32 := (Int32.ofInt (0))
set_option maxHeartbeats 4000000 in
set_option maxRecDepth 100000 in
theorem pm18 (a0 : Int32) : am_R gx_G 2 208 [.ref 3, .int a0] p1_H3 (some (.int (pm18_f a0))) p1_H3 := by
  refine am_R.enter (M := gx_m208) rfl ⟨Nat.le_of_ble_eq_true rfl, Nat.le_of_ble_eq_true rfl⟩ ?_
  unfold pm18_f
  show am_X gx_G 1 gx_m208 0 [(0, .ref 3), (1, .int a0)] [] p1_H3 _ p1_H3
  refine am_X.blk 2 (pc' := 2) (lv' := [(0, .ref 3), (1, .int a0)]) (st' := [.int a0, .ref 3]) (H1 := p1_H3) (fun _ _ => rfl) ?_
  refine am_X.goD (i := .invokevirtual 463) (n := 3) (pc' := 5) (lv' := [(0, .ref 3), (1, .int a0)]) (st' := [.int (Int32.ofInt (0))]) (H1 := p1_H3) (by decide +kernel) (am_oneV (own := "") (j := 190) (z := 0) (Mj := gx_m190) (as := [.int a0]) (p := 3) (rest := []) (v := some (.int (Int32.ofInt (0)))) rfl rfl rfl (by decide +kernel) rfl rfl rfl (Nat.le_of_ble_eq_true rfl) (by decide +kernel) ((pm18c190_0 a0).deeper (by decide))) ?_
  exact am_X.done 3 (fun _ _ => rfl)
end
section
/-- within the room -/
def p1_in (H : am_H) : Prop := H.length ≤ lw_cells ∧ am_sz H ≤ lw_slots
end
section
/-! Arrays.fill(long[], long) -/
theorem am_set_set {H : am_H} {a : Nat} {c1 c2 : am_C} : (H.set a c1).set a c2 = H.set a c2 := List.set_set ..
theorem am_set_get {H : am_H} {a : Nat} {c0 c1 : am_C} (h : H[a]? = some c0) : (H.set a c1)[a]? = some c1 := List.getElem?_set_self (List.getElem?_eq_some_iff.mp h).1
abbrev p_flA (a : Nat) (y : Int64) (w i : Nat) : am_L := [(4, .int (Int32.ofNat w)), (3, .int (nI i)), (0, .ref a), (1, .long y)]
abbrev p_flB (a : Nat) (y : Int64) (w i : Nat) : am_L := [(3, .int (nI i)), (4, .int (Int32.ofNat w)), (0, .ref a), (1, .long y)]
set_option maxHeartbeats 4000000 in
set_option maxRecDepth 100000 in
theorem p_fill_loop {a w : Nat} {y : Int64} (hw : w < 2 ^ 30) : ∀ (n i : Nat) (H : am_H) (g : Nat → Int64) (lv : am_L), (lv = p_flA a y w i ∨ lv = p_flB a y w i) → i + n = w → H[a]? = some (.inl (.long, w, .inr (.inl g))) → (∀ k, k < i → g k = y) →
    ∃ g' : Nat → Int64, (∀ k, k < w → g' k = y) ∧ am_X gx_G 0 gx_m18 6 lv [] H none (H.set a (.inl (.long, w, .inr (.inl g')))) := by
  intro n
  induction n with
  | zero =>
    intro i H g lv hlv hi hc hg
    refine ⟨g, fun k hk => hg k (by omega), ?_⟩
    have hH : H.set a (.inl (.long, w, .inr (.inl g))) = H := by
      apply List.ext_getElem?
      intro q
      by_cases hq : a = q
      · subst hq; rw [am_set_get hc, hc]
      · rw [List.getElem?_set_ne hq]
    rw [hH]
    have hb : am_if2 .ge (nI i) (Int32.ofNat w) = true := decide_eq_true (show nI w ≤ nI i from nI_le (by omega) (by omega))
    rcases hlv with rfl | rfl
    · refine am_X.blk 2 (pc' := 9) (lv' := p_flA a y w i) (st' := [.int (Int32.ofNat w), .int (nI i)]) (H1 := H) (fun _ _ => rfl) ?_
      refine am_X.if2 (off := 13) (t := 22) (by decide +kernel) (by decide +kernel) hb ?_
      exact am_X.done 1 (fun _ _ => rfl)
    · refine am_X.blk 2 (pc' := 9) (lv' := p_flB a y w i) (st' := [.int (Int32.ofNat w), .int (nI i)]) (H1 := H) (fun _ _ => rfl) ?_
      refine am_X.if2 (off := 13) (t := 22) (by decide +kernel) (by decide +kernel) hb ?_
      exact am_X.done 1 (fun _ _ => rfl)
  | succ n ih =>
    intro i H g lv hlv hi hc hg
    have hj : am_inb (nI i) w = true := decide_eq_true (vp_in_nI (by omega) (by omega))
    have ecl : (nI i).toNatClampNeg = i := nI_clamp (by omega)
    obtain ⟨g', hg', hx⟩ := ih (i + 1) (H.set a (.inl (.long, w, .inr (.inl (vp_updL g (nI i).toNatClampNeg y))))) (vp_updL g (nI i).toNatClampNeg y) (p_flB a y w (i + 1)) (Or.inr rfl) (by omega) (am_set_get hc) (fun k hk => by
      rw [ecl]
      by_cases hki : k = i
      · rw [hki, pk_uLs]
      · rw [pk_uLn hki]; exact hg k (by omega))
    rw [am_set_set] at hx
    refine ⟨g', hg', ?_⟩
    have hb : am_if2 .ge (nI i) (Int32.ofNat w) = false := decide_eq_false (show ¬ nI w ≤ nI i from nI_ge (by omega) (by omega))
    have e1 : nI i + Int32.ofInt 1 = nI (i + 1) := lw_k1 i
    rcases hlv with rfl | rfl
    · refine am_X.blk 2 (pc' := 9) (lv' := p_flA a y w i) (st' := [.int (Int32.ofNat w), .int (nI i)]) (H1 := H) (fun _ _ => rfl) ?_
      refine am_X.if2 (off := 13) (t := 22) (by decide +kernel) (by decide +kernel) hb ?_
      refine am_X.blk 3 (pc' := 15) (lv' := p_flA a y w i) (st' := [.long y, .int (nI i), .ref a]) (H1 := H) (fun _ _ => rfl) ?_
      refine am_X.last (by decide +kernel) hc hj ?_
      refine am_X.blk 2 (pc' := 6) (lv' := [(3, .int (nI i + Int32.ofInt 1)), (4, .int (Int32.ofNat w)), (0, .ref a), (1, .long y)]) (st' := []) (fun _ _ => rfl) ?_
      rw [e1]
      exact hx
    · refine am_X.blk 2 (pc' := 9) (lv' := p_flB a y w i) (st' := [.int (Int32.ofNat w), .int (nI i)]) (H1 := H) (fun _ _ => rfl) ?_
      refine am_X.if2 (off := 13) (t := 22) (by decide +kernel) (by decide +kernel) hb ?_
      refine am_X.blk 3 (pc' := 15) (lv' := p_flB a y w i) (st' := [.long y, .int (nI i), .ref a]) (H1 := H) (fun _ _ => rfl) ?_
      refine am_X.last (by decide +kernel) hc hj ?_
      refine am_X.blk 2 (pc' := 6) (lv' := [(3, .int (nI i + Int32.ofInt 1)), (4, .int (Int32.ofNat w)), (0, .ref a), (1, .long y)]) (st' := []) (fun _ _ => rfl) ?_
      rw [e1]
      exact hx
set_option maxHeartbeats 4000000 in
set_option maxRecDepth 100000 in
/-- Arrays.fill(long[], long): all its places hold the number -/
theorem p_fillL {H : am_H} {a w : Nat} {y : Int64} {g : Nat → Int64} (hw : w < 2 ^ 30) (hc : H[a]? = some (.inl (.long, w, .inr (.inl g)))) : ∃ g' : Nat → Int64, (∀ k, k < w → g' k = y) ∧ am_R gx_G 1 18 [.ref a, .long y] H none (H.set a (.inl (.long, w, .inr (.inl g')))) := by
  obtain ⟨g', hg', hx⟩ := p_fill_loop (a := a) (y := y) hw w 0 H g (p_flA a y w 0) (Or.inl rfl) (by omega) hc (fun k hk => by omega)
  refine ⟨g', hg', am_R.enter (M := gx_m18) rfl ⟨Nat.le_of_ble_eq_true rfl, Nat.le_of_ble_eq_true rfl⟩ ?_⟩
  refine am_X.blk 3 (pc' := 3) (lv' := [(3, .int (Int32.ofInt 0)), (0, .ref a), (1, .long y)]) (st' := [.ref a]) (H1 := H) (fun _ _ => rfl) ?_
  refine am_X.alen (by decide +kernel) hc (by decide +kernel) ?_
  refine am_X.blk 1 (pc' := 6) (lv' := p_flA a y w 0) (st' := []) (H1 := H) (fun _ _ => rfl) ?_
  exact hx
end
section
/-! type(), of the class and of the reference: contracts, whatever the heap -/
def s_byteX (w : Int64) (k : Int32) : Int32 := (w.toUInt64 >>> (((Int8.ofInt 8).toInt32 * k).toInt64.toUInt64 &&& Int64.toUInt64 63)).toInt64.toInt32 &&& (Int16.ofInt 255).toInt32
def s_byteM (w : Int64) (k : Int32) : Int32 := ((w >>> (((Int8.ofInt 8).toInt32 * k).toInt64 &&& 63)) &&& 255).toInt32
set_option maxRecDepth 100000 in
theorem s_byteOf {w : Int64} {k : Int32} {H : am_H} : am_R gx_G 1 2 [.long w, .int k] H (some (.int (s_byteX w k))) H := by
  refine am_R.enter (M := gx_m2) rfl ⟨Nat.le_of_ble_eq_true rfl, Nat.le_of_ble_eq_true rfl⟩ ?_
  exact am_X.done 9 (fun _ _ => rfl)

set_option maxHeartbeats 4000000 in
set_option maxRecDepth 100000 in
theorem s_typeX_loop {p a : Nat} {w : Int64} {n : Int32} {fs : List Value} : ∀ (rem t : Nat) (H : am_H) (f : Nat → Int32) (kk : Int32), kk = nI rem - 1 → rem ≤ 8 → t + rem ≤ 2000 → H[p]? = some (.inr (11, .ref a :: .int (nI t) :: fs)) → H[a]? = some (.inl (.int, 2000, .inl f)) →
    ∃ (f' : Nat → Int32) (H' : am_H), am_X gx_G 1 gx_m1 33 [(4, .int kk), (0, .ref p), (1, .long w), (3, .int n)] [] H (some (.int (nI (t + rem)))) H' ∧ H'[p]? = some (.inr (11, .ref a :: .int (nI (t + rem)) :: fs)) ∧ H'[a]? = some (.inl (.int, 2000, .inl f')) ∧ (∀ q, q ≠ p → q ≠ a → H'[q]? = H[q]?) ∧ H'.length = H.length ∧ am_sz H' = am_sz H ∧ (∀ k, k < t → f' k = f k) ∧ (∀ i, i < rem → f' (t + i) = s_byteX w (nI (rem - 1 - i))) := by
  intro rem
  induction rem with
  | zero =>
    intro t H f kk hk h8 ht hp ha
    refine ⟨f, H, ?_, by simpa using hp, ha, fun _ _ _ => rfl, rfl, rfl, fun _ _ => rfl, fun i hi => absurd hi (by omega)⟩
    have hb : am_if1 .lt kk = true := by rw [hk]; decide +kernel
    refine am_X.blk 1 (pc' := 35) (lv' := [(4, .int kk), (0, .ref p), (1, .long w), (3, .int n)]) (st' := [.int kk]) (H1 := H) (fun _ _ => rfl) ?_
    refine am_X.if1 (off := 34) (t := 69) (by decide +kernel) (by decide +kernel) hb ?_
    refine am_X.blk 1 (pc' := 70) (lv' := [(4, .int kk), (0, .ref p), (1, .long w), (3, .int n)]) (st' := [.ref p]) (H1 := H) (fun _ _ => rfl) ?_
    refine am_X.getf (idx := 13) (ci := 11) (k := 1) (by decide +kernel) (by decide +kernel) hp rfl ?_
    exact am_X.done 1 (fun _ _ => rfl)
  | succ rem ih =>
    intro t H f kk hk h8 ht hp ha
    have hpa : p ≠ a := fun e => by rw [e, ha] at hp; cases hp
    have hk : kk = nI rem := by rw [hk]; exact nI_pred rem
    subst hk
    have hb : am_if1 .lt (nI rem) = false := decide_eq_false (nI_pos (by omega))
    have hj : am_inb (nI t) 2000 = true := decide_eq_true (vp_in_nI (by omega) (by omega))
    have ecl : (nI t).toNatClampNeg = t := nI_clamp (by omega)
    have e1 : nI t + Int32.ofInt 1 = nI (t + 1) := lw_k1 t
    have e2 : nI rem + Int32.ofInt (-1) = nI rem - 1 := by rw [Int32.sub_eq_add_neg]; congr 1
    have hp1 : (H.set a (.inl (.int, 2000, .inl (upd f (nI t).toNatClampNeg (s_byteX w (nI rem))))))[p]? = some (.inr (11, .ref a :: .int (nI t) :: fs)) := by rw [List.getElem?_set_ne (Ne.symm hpa)]; exact hp
    have hp2 : ((H.set a (.inl (.int, 2000, .inl (upd f (nI t).toNatClampNeg (s_byteX w (nI rem)))))).set p (.inr (11, (.ref a :: .int (nI t) :: fs).set 1 (.int (nI t + Int32.ofInt 1)))))[p]? = some (.inr (11, .ref a :: .int (nI (t + 1)) :: fs)) := by rw [am_set_get hp1, e1]; rfl
    have ha2 : ((H.set a (.inl (.int, 2000, .inl (upd f (nI t).toNatClampNeg (s_byteX w (nI rem)))))).set p (.inr (11, (.ref a :: .int (nI t) :: fs).set 1 (.int (nI t + Int32.ofInt 1)))))[a]? = some (.inl (.int, 2000, .inl (upd f (nI t).toNatClampNeg (s_byteX w (nI rem))))) := by rw [List.getElem?_set_ne hpa, am_set_get ha]
    obtain ⟨f', H', hx, q1, q2, q3, q4, q5, q6, q7⟩ := ih (t + 1) _ _ (nI rem - 1) rfl (by omega) (by omega) hp2 ha2
    have hz1 : am_sz (H.set a (.inl (.int, 2000, .inl (upd f (nI t).toNatClampNeg (s_byteX w (nI rem)))))) = am_sz H := am_sz_set ha rfl
    refine ⟨f', H', ?_, by rw [q1, show t + 1 + rem = t + (rem + 1) by omega], q2, fun q h1 h2 => by rw [q3 q h1 h2, List.getElem?_set_ne (Ne.symm h1), List.getElem?_set_ne (Ne.symm h2)], by rw [q4, List.length_set, List.length_set], q5.trans ((am_sz_set hp1 (by simp [am_cz])).trans hz1), fun k hk => by rw [q6 k (by omega), ecl, pk_un (by omega)], fun i hi => ?_⟩
    · refine am_X.blk 1 (pc' := 35) (lv' := [(4, .int (nI rem)), (0, .ref p), (1, .long w), (3, .int n)]) (st' := [.int (nI rem)]) (H1 := H) (fun _ _ => rfl) ?_
      refine am_X.if1 (off := 34) (t := 69) (by decide +kernel) (by decide +kernel) hb ?_
      refine am_X.blk 1 (pc' := 39) (lv' := [(4, .int (nI rem)), (0, .ref p), (1, .long w), (3, .int n)]) (st' := [.ref p]) (H1 := H) (fun _ _ => rfl) ?_
      refine am_X.getf (idx := 9) (ci := 11) (k := 0) (by decide +kernel) (by decide +kernel) hp rfl ?_
      refine am_X.blk 1 (pc' := 43) (lv' := [(4, .int (nI rem)), (0, .ref p), (1, .long w), (3, .int n)]) (st' := [.ref p, .ref a]) (H1 := H) (fun _ _ => rfl) ?_
      refine am_X.getf (idx := 13) (ci := 11) (k := 1) (by decide +kernel) (by decide +kernel) hp rfl ?_
      refine am_X.blk 2 (pc' := 49) (lv' := [(4, .int (nI rem)), (0, .ref p), (1, .long w), (3, .int n)]) (st' := [.int (nI rem), .long w, .int (nI t), .ref a]) (H1 := H) (fun _ _ => rfl) ?_
      refine am_X.goD (i := .invokestatic 47) (n := 3) (pc' := 52) (lv' := [(4, .int (nI rem)), (0, .ref p), (1, .long w), (3, .int n)]) (st' := [.int (s_byteX w (nI rem)), .int (nI t), .ref a]) (H1 := H) (by decide +kernel) (am_oneS (jm := 2) (kind := 3) (z := 0) (Mj := gx_m2) (as := [.long w, .int (nI rem)]) (rest := [.int (nI t), .ref a]) (u := some (.int (s_byteX w (nI rem)))) rfl rfl rfl (by decide +kernel) (Or.inl rfl) rfl rfl rfl (Nat.le_of_ble_eq_true rfl) s_byteOf) ?_
      refine am_X.iast (by decide +kernel) ha hj ?_
      refine am_X.blk 2 (pc' := 55) (lv' := [(4, .int (nI rem)), (0, .ref p), (1, .long w), (3, .int n)]) (st' := [.ref p, .ref p]) (fun _ _ => rfl) ?_
      refine am_X.getf (idx := 13) (ci := 11) (k := 1) (by decide +kernel) (by decide +kernel) hp1 rfl ?_
      refine am_X.blk 2 (pc' := 60) (lv' := [(4, .int (nI rem)), (0, .ref p), (1, .long w), (3, .int n)]) (st' := [.int (nI t + Int32.ofInt 1), .ref p]) (fun _ _ => rfl) ?_
      refine am_X.putf (idx := 13) (ci := 11) (k := 1) (by decide +kernel) (by decide +kernel) hp1 (by simp) rfl ?_
      refine am_X.iinc (k := 4) (dn := -1) (x := nI rem) (y := nI rem - 1) (by decide +kernel) rfl (by decide +kernel) e2 ?_
      refine am_X.blk 1 (pc' := 33) (lv' := [(4, .int (nI rem - 1)), (0, .ref p), (1, .long w), (3, .int n)]) (st' := []) (fun _ _ => rfl) ?_
      rw [show t + (rem + 1) = t + 1 + rem by omega]
      exact hx
    · by_cases h0 : i = 0
      · subst h0
        rw [q6 (t + 0) (by omega), ecl, Nat.add_zero, pk_us, show rem + 1 - 1 - 0 = rem by omega]
      · have h1 := q7 (i - 1) (by omega)
        rw [show t + 1 + (i - 1) = t + i by omega, show rem - 1 - (i - 1) = rem + 1 - 1 - i by omega] at h1
        exact h1
set_option maxHeartbeats 4000000 in
set_option maxRecDepth 100000 in
/-- type(): the bytes come behind those of the tape -/
theorem s_typeX {p a t : Nat} {w : Int64} {fs : List Value} {H : am_H} {f : Nat → Int32} (m : Nat) (h1 : 1 ≤ m) (h8 : m ≤ 8) (ht : t + m ≤ 2000) (hp : H[p]? = some (.inr (11, .ref a :: .int (nI t) :: fs))) (ha : H[a]? = some (.inl (.int, 2000, .inl f))) :
    ∃ (f' : Nat → Int32) (H' : am_H), am_R gx_G 2 1 [.ref p, .long w, .int (nI m)] H (some (.int (nI (t + m)))) H' ∧ H'[p]? = some (.inr (11, .ref a :: .int (nI (t + m)) :: fs)) ∧ H'[a]? = some (.inl (.int, 2000, .inl f')) ∧ (∀ q, q ≠ p → q ≠ a → H'[q]? = H[q]?) ∧ H'.length = H.length ∧ am_sz H' = am_sz H ∧ (∀ k, k < t → f' k = f k) ∧ (∀ i, i < m → f' (t + i) = s_byteX w (nI (m - 1 - i))) := by
  obtain ⟨f', H', hx, q⟩ := s_typeX_loop (p := p) (a := a) (w := w) (n := nI m) (fs := fs) m t H f (nI m - Int32.ofInt 1) (by rw [show (Int32.ofInt 1 : Int32) = 1 by decide +kernel]) h8 ht hp ha
  refine ⟨f', H', am_R.enter (M := gx_m1) rfl ⟨Nat.le_of_ble_eq_true rfl, Nat.le_of_ble_eq_true rfl⟩ ?_, q⟩
  have b1 : am_if2 .lt (nI m) (Int32.ofInt 1) = false := decide_eq_false (by rw [show Int32.ofInt 1 = nI 1 by decide +kernel]; exact nI_nlt h1 (by omega))
  have b2 : am_if2 .le (nI m) (Int8.ofInt 8).toInt32 = true := decide_eq_true (by rw [show (Int8.ofInt 8).toInt32 = nI 8 by decide +kernel]; exact nI_le h8 (by omega))
  have b3 : am_if2 .le (nI t + nI m) (Int16.ofInt 2000).toInt32 = true := decide_eq_true (by rw [nI_add, show (Int16.ofInt 2000).toInt32 = nI 2000 by decide +kernel]; exact nI_le ht (by omega))
  show am_X gx_G 1 gx_m1 0 [(0, .ref p), (1, .long w), (3, .int (nI m))] [] H _ H'
  refine am_X.blk 2 (pc' := 2) (lv' := [(0, .ref p), (1, .long w), (3, .int (nI m))]) (st' := [.int (Int32.ofInt 1), .int (nI m)]) (H1 := H) (fun _ _ => rfl) ?_
  refine am_X.if2 (off := 9) (t := 11) (by decide +kernel) (by decide +kernel) b1 ?_
  refine am_X.blk 2 (pc' := 8) (lv' := [(0, .ref p), (1, .long w), (3, .int (nI m))]) (st' := [.int (Int8.ofInt 8).toInt32, .int (nI m)]) (H1 := H) (fun _ _ => rfl) ?_
  refine am_X.if2 (off := 5) (t := 13) (by decide +kernel) (by decide +kernel) b2 ?_
  refine am_X.blk 1 (pc' := 14) (lv' := [(0, .ref p), (1, .long w), (3, .int (nI m))]) (st' := [.ref p]) (H1 := H) (fun _ _ => rfl) ?_
  refine am_X.getf (idx := 13) (ci := 11) (k := 1) (by decide +kernel) (by decide +kernel) hp rfl ?_
  refine am_X.blk 3 (pc' := 22) (lv' := [(0, .ref p), (1, .long w), (3, .int (nI m))]) (st' := [.int (Int16.ofInt 2000).toInt32, .int (nI t + nI m)]) (H1 := H) (fun _ _ => rfl) ?_
  refine am_X.if2 (off := 6) (t := 28) (by decide +kernel) (by decide +kernel) b3 ?_
  refine am_X.blk 4 (pc' := 33) (lv' := [(4, .int (nI m - Int32.ofInt 1)), (0, .ref p), (1, .long w), (3, .int (nI m))]) (st' := []) (H1 := H) (fun _ _ => rfl) ?_
  exact hx
set_option maxHeartbeats 4000000 in
set_option maxRecDepth 100000 in
/-- type() with another n -/
theorem s_typeX_bad {p : Nat} {w : Int64} {n : Int32} {H : am_H} (h : n < 1 ∨ ¬ n ≤ 8) : am_R gx_G 2 1 [.ref p, .long w, .int n] H (some (.int (Int32.ofInt (-1)))) H := by
  refine am_R.enter (M := gx_m1) rfl ⟨Nat.le_of_ble_eq_true rfl, Nat.le_of_ble_eq_true rfl⟩ ?_
  show am_X gx_G 1 gx_m1 0 [(0, .ref p), (1, .long w), (3, .int n)] [] H _ H
  refine am_X.blk 2 (pc' := 2) (lv' := [(0, .ref p), (1, .long w), (3, .int n)]) (st' := [.int (Int32.ofInt 1), .int n]) (H1 := H) (fun _ _ => rfl) ?_
  by_cases h1 : n < 1
  · refine am_X.if2 (off := 9) (t := 11) (kd := .lt) (by decide +kernel) (by decide +kernel) (b := true) (decide_eq_true (by rw [show Int32.ofInt 1 = 1 by decide +kernel]; exact h1)) ?_
    exact am_X.done 2 (fun _ _ => rfl)
  · have h2 := h.resolve_left h1
    refine am_X.if2 (off := 9) (t := 11) (kd := .lt) (by decide +kernel) (by decide +kernel) (b := false) (decide_eq_false (by rw [show Int32.ofInt 1 = 1 by decide +kernel]; exact h1)) ?_
    refine am_X.blk 2 (pc' := 8) (lv' := [(0, .ref p), (1, .long w), (3, .int n)]) (st' := [.int (Int8.ofInt 8).toInt32, .int n]) (H1 := H) (fun _ _ => rfl) ?_
    refine am_X.if2 (off := 5) (t := 13) (kd := .le) (by decide +kernel) (by decide +kernel) (b := false) (decide_eq_false (by rw [show (Int8.ofInt 8).toInt32 = 8 by decide +kernel]; exact h2)) ?_
    exact am_X.done 2 (fun _ _ => rfl)

set_option maxHeartbeats 4000000 in
set_option maxRecDepth 100000 in
theorem s_typeM_loop {p a : Nat} {w : Int64} {n : Int32} {fs : List Value} : ∀ (rem t : Nat) (H : am_H) (f : Nat → Int32) (kk : Int32), kk = nI rem - 1 → rem ≤ 8 → t + rem ≤ 2000 → H[p]? = some (.inr (12, .ref a :: .int (nI t) :: fs)) → H[a]? = some (.inl (.int, 2000, .inl f)) →
    ∃ (f' : Nat → Int32) (H' : am_H), am_X gx_G 1 gx_m137 33 [(4, .int kk), (0, .ref p), (1, .long w), (3, .int n)] [] H (some (.int (nI (t + rem)))) H' ∧ H'[p]? = some (.inr (12, .ref a :: .int (nI (t + rem)) :: fs)) ∧ H'[a]? = some (.inl (.int, 2000, .inl f')) ∧ (∀ q, q ≠ p → q ≠ a → H'[q]? = H[q]?) ∧ H'.length = H.length ∧ am_sz H' = am_sz H ∧ (∀ k, k < t → f' k = f k) ∧ (∀ i, i < rem → f' (t + i) = s_byteM w (nI (rem - 1 - i))) := by
  intro rem
  induction rem with
  | zero =>
    intro t H f kk hk h8 ht hp ha
    refine ⟨f, H, ?_, by simpa using hp, ha, fun _ _ _ => rfl, rfl, rfl, fun _ _ => rfl, fun i hi => absurd hi (by omega)⟩
    have hb : am_if1 .lt kk = true := by rw [hk]; decide +kernel
    refine am_X.blk 1 (pc' := 35) (lv' := [(4, .int kk), (0, .ref p), (1, .long w), (3, .int n)]) (st' := [.int kk]) (H1 := H) (fun _ _ => rfl) ?_
    refine am_X.if1 (off := 40) (t := 75) (by decide +kernel) (by decide +kernel) hb ?_
    refine am_X.blk 1 (pc' := 76) (lv' := [(4, .int kk), (0, .ref p), (1, .long w), (3, .int n)]) (st' := [.ref p]) (H1 := H) (fun _ _ => rfl) ?_
    refine am_X.getf (idx := 223) (ci := 12) (k := 1) (by decide +kernel) (by decide +kernel) hp rfl ?_
    exact am_X.done 1 (fun _ _ => rfl)
  | succ rem ih =>
    intro t H f kk hk h8 ht hp ha
    have hpa : p ≠ a := fun e => by rw [e, ha] at hp; cases hp
    have hk : kk = nI rem := by rw [hk]; exact nI_pred rem
    subst hk
    have hb : am_if1 .lt (nI rem) = false := decide_eq_false (nI_pos (by omega))
    have hj : am_inb (nI t) 2000 = true := decide_eq_true (vp_in_nI (by omega) (by omega))
    have ecl : (nI t).toNatClampNeg = t := nI_clamp (by omega)
    have e1 : nI t + Int32.ofInt 1 = nI (t + 1) := lw_k1 t
    have e2 : nI rem + Int32.ofInt (-1) = nI rem - 1 := by rw [Int32.sub_eq_add_neg]; congr 1
    have hp1 : (H.set a (.inl (.int, 2000, .inl (upd f (nI t).toNatClampNeg (s_byteM w (nI rem))))))[p]? = some (.inr (12, .ref a :: .int (nI t) :: fs)) := by rw [List.getElem?_set_ne (Ne.symm hpa)]; exact hp
    have hp2 : ((H.set a (.inl (.int, 2000, .inl (upd f (nI t).toNatClampNeg (s_byteM w (nI rem)))))).set p (.inr (12, (.ref a :: .int (nI t) :: fs).set 1 (.int (nI t + Int32.ofInt 1)))))[p]? = some (.inr (12, .ref a :: .int (nI (t + 1)) :: fs)) := by rw [am_set_get hp1, e1]; rfl
    have ha2 : ((H.set a (.inl (.int, 2000, .inl (upd f (nI t).toNatClampNeg (s_byteM w (nI rem)))))).set p (.inr (12, (.ref a :: .int (nI t) :: fs).set 1 (.int (nI t + Int32.ofInt 1)))))[a]? = some (.inl (.int, 2000, .inl (upd f (nI t).toNatClampNeg (s_byteM w (nI rem))))) := by rw [List.getElem?_set_ne hpa, am_set_get ha]
    obtain ⟨f', H', hx, q1, q2, q3, q4, q5, q6, q7⟩ := ih (t + 1) _ _ (nI rem - 1) rfl (by omega) (by omega) hp2 ha2
    have hz1 : am_sz (H.set a (.inl (.int, 2000, .inl (upd f (nI t).toNatClampNeg (s_byteM w (nI rem)))))) = am_sz H := am_sz_set ha rfl
    refine ⟨f', H', ?_, by rw [q1, show t + 1 + rem = t + (rem + 1) by omega], q2, fun q h1 h2 => by rw [q3 q h1 h2, List.getElem?_set_ne (Ne.symm h1), List.getElem?_set_ne (Ne.symm h2)], by rw [q4, List.length_set, List.length_set], q5.trans ((am_sz_set hp1 (by simp [am_cz])).trans hz1), fun k hk => by rw [q6 k (by omega), ecl, pk_un (by omega)], fun i hi => ?_⟩
    · refine am_X.blk 1 (pc' := 35) (lv' := [(4, .int (nI rem)), (0, .ref p), (1, .long w), (3, .int n)]) (st' := [.int (nI rem)]) (H1 := H) (fun _ _ => rfl) ?_
      refine am_X.if1 (off := 40) (t := 75) (by decide +kernel) (by decide +kernel) hb ?_
      refine am_X.blk 1 (pc' := 39) (lv' := [(4, .int (nI rem)), (0, .ref p), (1, .long w), (3, .int n)]) (st' := [.ref p]) (H1 := H) (fun _ _ => rfl) ?_
      refine am_X.getf (idx := 7) (ci := 12) (k := 0) (by decide +kernel) (by decide +kernel) hp rfl ?_
      refine am_X.blk 1 (pc' := 43) (lv' := [(4, .int (nI rem)), (0, .ref p), (1, .long w), (3, .int n)]) (st' := [.ref p, .ref a]) (H1 := H) (fun _ _ => rfl) ?_
      refine am_X.getf (idx := 223) (ci := 12) (k := 1) (by decide +kernel) (by decide +kernel) hp rfl ?_
      refine am_X.blk 4 (pc' := 52) (lv' := [(4, .int (nI rem)), (0, .ref p), (1, .long w), (3, .int n)]) (st' := [.int ((Int8.ofInt 8).toInt32 * nI rem), .long w, .int (nI t), .ref a]) (H1 := H) (fun _ _ => rfl) ?_
      refine am_X.blk 1 (pc' := 53) (lv' := [(4, .int (nI rem)), (0, .ref p), (1, .long w), (3, .int n)]) (st' := [.long (w >>> (((Int8.ofInt 8).toInt32 * nI rem).toInt64 &&& 63)), .int (nI t), .ref a]) (H1 := H) (fun _ _ => rfl) ?_
      refine am_X.go (i := .ldc2_w 227) (n := 3) (by decide +kernel) (am_one_ldc2 (a := 0) (c := 0) (v := 255) (by decide +kernel)) ?_
      refine am_X.blk 2 (pc' := 58) (lv' := [(4, .int (nI rem)), (0, .ref p), (1, .long w), (3, .int n)]) (st' := [.int (s_byteM w (nI rem)), .int (nI t), .ref a]) (H1 := H) (fun _ _ => rfl) ?_
      refine am_X.iast (by decide +kernel) ha hj ?_
      refine am_X.blk 2 (pc' := 61) (lv' := [(4, .int (nI rem)), (0, .ref p), (1, .long w), (3, .int n)]) (st' := [.ref p, .ref p]) (fun _ _ => rfl) ?_
      refine am_X.getf (idx := 223) (ci := 12) (k := 1) (by decide +kernel) (by decide +kernel) hp1 rfl ?_
      refine am_X.blk 2 (pc' := 66) (lv' := [(4, .int (nI rem)), (0, .ref p), (1, .long w), (3, .int n)]) (st' := [.int (nI t + Int32.ofInt 1), .ref p]) (fun _ _ => rfl) ?_
      refine am_X.putf (idx := 223) (ci := 12) (k := 1) (by decide +kernel) (by decide +kernel) hp1 (by simp) rfl ?_
      refine am_X.iinc (k := 4) (dn := -1) (x := nI rem) (y := nI rem - 1) (by decide +kernel) rfl (by decide +kernel) e2 ?_
      refine am_X.blk 1 (pc' := 33) (lv' := [(4, .int (nI rem - 1)), (0, .ref p), (1, .long w), (3, .int n)]) (st' := []) (fun _ _ => rfl) ?_
      rw [show t + (rem + 1) = t + 1 + rem by omega]
      exact hx
    · by_cases h0 : i = 0
      · subst h0
        rw [q6 (t + 0) (by omega), ecl, Nat.add_zero, pk_us, show rem + 1 - 1 - 0 = rem by omega]
      · have h1 := q7 (i - 1) (by omega)
        rw [show t + 1 + (i - 1) = t + i by omega, show rem - 1 - (i - 1) = rem + 1 - 1 - i by omega] at h1
        exact h1
set_option maxHeartbeats 4000000 in
set_option maxRecDepth 100000 in
/-- type(): the bytes come behind those of the tape -/
theorem s_typeM {p a t : Nat} {w : Int64} {fs : List Value} {H : am_H} {f : Nat → Int32} (m : Nat) (h1 : 1 ≤ m) (h8 : m ≤ 8) (ht : t + m ≤ 2000) (hp : H[p]? = some (.inr (12, .ref a :: .int (nI t) :: fs))) (ha : H[a]? = some (.inl (.int, 2000, .inl f))) :
    ∃ (f' : Nat → Int32) (H' : am_H), am_R gx_G 2 137 [.ref p, .long w, .int (nI m)] H (some (.int (nI (t + m)))) H' ∧ H'[p]? = some (.inr (12, .ref a :: .int (nI (t + m)) :: fs)) ∧ H'[a]? = some (.inl (.int, 2000, .inl f')) ∧ (∀ q, q ≠ p → q ≠ a → H'[q]? = H[q]?) ∧ H'.length = H.length ∧ am_sz H' = am_sz H ∧ (∀ k, k < t → f' k = f k) ∧ (∀ i, i < m → f' (t + i) = s_byteM w (nI (m - 1 - i))) := by
  obtain ⟨f', H', hx, q⟩ := s_typeM_loop (p := p) (a := a) (w := w) (n := nI m) (fs := fs) m t H f (nI m - Int32.ofInt 1) (by rw [show (Int32.ofInt 1 : Int32) = 1 by decide +kernel]) h8 ht hp ha
  refine ⟨f', H', am_R.enter (M := gx_m137) rfl ⟨Nat.le_of_ble_eq_true rfl, Nat.le_of_ble_eq_true rfl⟩ ?_, q⟩
  have b1 : am_if2 .lt (nI m) (Int32.ofInt 1) = false := decide_eq_false (by rw [show Int32.ofInt 1 = nI 1 by decide +kernel]; exact nI_nlt h1 (by omega))
  have b2 : am_if2 .le (nI m) (Int8.ofInt 8).toInt32 = true := decide_eq_true (by rw [show (Int8.ofInt 8).toInt32 = nI 8 by decide +kernel]; exact nI_le h8 (by omega))
  have b3 : am_if2 .le (nI t + nI m) (Int16.ofInt 2000).toInt32 = true := decide_eq_true (by rw [nI_add, show (Int16.ofInt 2000).toInt32 = nI 2000 by decide +kernel]; exact nI_le ht (by omega))
  show am_X gx_G 1 gx_m137 0 [(0, .ref p), (1, .long w), (3, .int (nI m))] [] H _ H'
  refine am_X.blk 2 (pc' := 2) (lv' := [(0, .ref p), (1, .long w), (3, .int (nI m))]) (st' := [.int (Int32.ofInt 1), .int (nI m)]) (H1 := H) (fun _ _ => rfl) ?_
  refine am_X.if2 (off := 9) (t := 11) (by decide +kernel) (by decide +kernel) b1 ?_
  refine am_X.blk 2 (pc' := 8) (lv' := [(0, .ref p), (1, .long w), (3, .int (nI m))]) (st' := [.int (Int8.ofInt 8).toInt32, .int (nI m)]) (H1 := H) (fun _ _ => rfl) ?_
  refine am_X.if2 (off := 5) (t := 13) (by decide +kernel) (by decide +kernel) b2 ?_
  refine am_X.blk 1 (pc' := 14) (lv' := [(0, .ref p), (1, .long w), (3, .int (nI m))]) (st' := [.ref p]) (H1 := H) (fun _ _ => rfl) ?_
  refine am_X.getf (idx := 223) (ci := 12) (k := 1) (by decide +kernel) (by decide +kernel) hp rfl ?_
  refine am_X.blk 3 (pc' := 22) (lv' := [(0, .ref p), (1, .long w), (3, .int (nI m))]) (st' := [.int (Int16.ofInt 2000).toInt32, .int (nI t + nI m)]) (H1 := H) (fun _ _ => rfl) ?_
  refine am_X.if2 (off := 6) (t := 28) (by decide +kernel) (by decide +kernel) b3 ?_
  refine am_X.blk 4 (pc' := 33) (lv' := [(4, .int (nI m - Int32.ofInt 1)), (0, .ref p), (1, .long w), (3, .int (nI m))]) (st' := []) (H1 := H) (fun _ _ => rfl) ?_
  exact hx
set_option maxHeartbeats 4000000 in
set_option maxRecDepth 100000 in
/-- type() with another n -/
theorem s_typeM_bad {p : Nat} {w : Int64} {n : Int32} {H : am_H} (h : n < 1 ∨ ¬ n ≤ 8) : am_R gx_G 2 137 [.ref p, .long w, .int n] H (some (.int (Int32.ofInt (-1)))) H := by
  refine am_R.enter (M := gx_m137) rfl ⟨Nat.le_of_ble_eq_true rfl, Nat.le_of_ble_eq_true rfl⟩ ?_
  show am_X gx_G 1 gx_m137 0 [(0, .ref p), (1, .long w), (3, .int n)] [] H _ H
  refine am_X.blk 2 (pc' := 2) (lv' := [(0, .ref p), (1, .long w), (3, .int n)]) (st' := [.int (Int32.ofInt 1), .int n]) (H1 := H) (fun _ _ => rfl) ?_
  by_cases h1 : n < 1
  · refine am_X.if2 (off := 9) (t := 11) (kd := .lt) (by decide +kernel) (by decide +kernel) (b := true) (decide_eq_true (by rw [show Int32.ofInt 1 = 1 by decide +kernel]; exact h1)) ?_
    exact am_X.done 2 (fun _ _ => rfl)
  · have h2 := h.resolve_left h1
    refine am_X.if2 (off := 9) (t := 11) (kd := .lt) (by decide +kernel) (by decide +kernel) (b := false) (decide_eq_false (by rw [show Int32.ofInt 1 = 1 by decide +kernel]; exact h1)) ?_
    refine am_X.blk 2 (pc' := 8) (lv' := [(0, .ref p), (1, .long w), (3, .int n)]) (st' := [.int (Int8.ofInt 8).toInt32, .int n]) (H1 := H) (fun _ _ => rfl) ?_
    refine am_X.if2 (off := 5) (t := 13) (kd := .le) (by decide +kernel) (by decide +kernel) (b := false) (decide_eq_false (by rw [show (Int8.ofInt 8).toInt32 = 8 by decide +kernel]; exact h2)) ?_
    exact am_X.done 2 (fun _ _ => rfl)
end
section
/-! p1: class and reference answer alike on fresh objects (all but build()), written by wip/p1eq.py -/
theorem p1_split (a : Int32) (N : Nat) (hN : N < 1000) : a.toInt < 0 ∨ (N : Int) < a.toInt ∨ ∃ k : Nat, k ≤ N ∧ a = nI k := by
  by_cases h1 : a.toInt < 0
  · exact Or.inl h1
  · by_cases h2 : (N : Int) < a.toInt
    · exact Or.inr (Or.inl h2)
    · refine Or.inr (Or.inr ⟨a.toInt.toNat, by omega, ?_⟩)
      rw [← Int32.toInt_inj, nI_toInt (by omega)]
      omega
theorem p1_l1 : (Int32.ofInt 1).toInt = 1 := by decide +kernel
theorem p1_l2 : (Int32.ofInt 2).toInt = 2 := by decide +kernel
theorem p1_l6 : (Int8.ofInt 6).toInt32.toInt = 6 := by decide +kernel
theorem p1_l8 : (Int8.ofInt 8).toInt32.toInt = 8 := by decide +kernel
theorem p1_e2 (a0 : Int32) : px2_f a0 = pm2_f a0 := by
  have out : (a0.toInt < 0 ∨ (1 : Int) < a0.toInt) → px2_f a0 = pm2_f a0 := by
    intro h
    have c1 : ∀ q : Nat, q ≤ 1 → ¬ a0 = nI q := fun q hq e => by rw [e, nI_toInt (by omega)] at h; omega
    unfold px2_f pm2_f am_if1 am_if2
    simp only [decide_eq_true_eq, Int32.lt_iff_toInt_lt, Int32.le_iff_toInt_le, p1_l1, p1_l2, p1_l6, p1_l8, Int32.toInt_zero]
    repeat' split
    all_goals first | rfl | (exfalso; omega) | (exfalso; exact c1 0 (by decide) (by simp_all; rfl)) | (exfalso; exact c1 1 (by decide) (by simp_all; decide +kernel)) | (exfalso; simp_all; done)
  rcases p1_split a0 1 (by decide) with h | h | ⟨k, hk, rfl⟩
  · exact out (Or.inl h)
  · exact out (Or.inr h)
  · rcases (show k = 0 ∨ k = 1 by omega) with rfl | rfl <;> decide +kernel
theorem p1_e3 (a0 : Int32) : px3_f a0 = pm3_f a0 := by rfl
theorem p1_e4 (a0 : Int32) (a1 : Int32) : px4_f a0 a1 = pm4_f a0 a1 := by rfl
theorem p1_e5 (a0 : Int32) (a1 : Int32) : px5_f a0 a1 = pm5_f a0 a1 := by rfl
theorem p1_e6 (a0 : Int32) : px6_f a0 = pm6_f a0 := by rfl
theorem p1_e7 (a0 : Int32) (a1 : Int32) : px7_f a0 a1 = pm7_f a0 a1 := by rfl
theorem p1_e8 (a0 : Int32) : px8_f a0 = pm8_f a0 := by
  have out : (a0.toInt < 0 ∨ (6 : Int) < a0.toInt) → px8_f a0 = pm8_f a0 := by
    intro h
    have c1 : ∀ q : Nat, q ≤ 6 → ¬ a0 = nI q := fun q hq e => by rw [e, nI_toInt (by omega)] at h; omega
    unfold px8_f pm8_f am_if1 am_if2
    simp only [decide_eq_true_eq, Int32.lt_iff_toInt_lt, Int32.le_iff_toInt_le, p1_l1, p1_l2, p1_l6, p1_l8, Int32.toInt_zero]
    repeat' split
    all_goals first | rfl | (exfalso; omega) | (exfalso; exact c1 0 (by decide) (by simp_all; rfl)) | (exfalso; exact c1 1 (by decide) (by simp_all; decide +kernel)) | (exfalso; simp_all; done)
  rcases p1_split a0 6 (by decide) with h | h | ⟨k, hk, rfl⟩
  · exact out (Or.inl h)
  · exact out (Or.inr h)
  · rcases (show k = 0 ∨ k = 1 ∨ k = 2 ∨ k = 3 ∨ k = 4 ∨ k = 5 ∨ k = 6 by omega) with rfl | rfl | rfl | rfl | rfl | rfl | rfl <;> decide +kernel
theorem p1_e9 (a0 : Int32) (a1 : Int32) : px9_f a0 a1 = pm9_f a0 a1 := by
  unfold px9_f pm9_f
  by_cases h : a0 < 0
  · rw [if_pos (show am_if1 .lt a0 = true from decide_eq_true h)]
  · rw [if_neg (show ¬ am_if1 .lt a0 = true from fun q => h (of_decide_eq_true q))]
    rw [if_pos (show am_if2 .ge a0 0 = true from decide_eq_true (Int32.not_lt.mp h))]
theorem p1_e10 (a0 : Int32) (a1 : Int32) : px10_f a0 a1 = pm10_f a0 a1 := by rfl
theorem p1_e11 (a0 : Int32) : px11_f a0 = pm11_f a0 := by rfl
theorem p1_e12 (a0 : Int64) (a1 : Int32) : px12_f a0 a1 = pm12_f a0 a1 := by rfl
theorem p1_e13  : px13_f  = pm13_f  := by rfl
theorem p1_e14  : px14_f  = pm14_f  := by rfl
theorem p1_e15 (a0 : Int32) : px15_f a0 = pm15_f a0 := by
  have out : (a0.toInt < 0 ∨ (6 : Int) < a0.toInt) → px15_f a0 = pm15_f a0 := by
    intro h
    have c1 : ∀ q : Nat, q ≤ 6 → ¬ a0 = nI q := fun q hq e => by rw [e, nI_toInt (by omega)] at h; omega
    unfold px15_f pm15_f am_if1 am_if2
    simp only [decide_eq_true_eq, Int32.lt_iff_toInt_lt, Int32.le_iff_toInt_le, p1_l1, p1_l2, p1_l6, p1_l8, Int32.toInt_zero]
    repeat' split
    all_goals first | rfl | (exfalso; omega) | (exfalso; exact c1 0 (by decide) (by simp_all; rfl)) | (exfalso; exact c1 1 (by decide) (by simp_all; decide +kernel)) | (exfalso; simp_all; done)
  rcases p1_split a0 6 (by decide) with h | h | ⟨k, hk, rfl⟩
  · exact out (Or.inl h)
  · exact out (Or.inr h)
  · rcases (show k = 0 ∨ k = 1 ∨ k = 2 ∨ k = 3 ∨ k = 4 ∨ k = 5 ∨ k = 6 by omega) with rfl | rfl | rfl | rfl | rfl | rfl | rfl <;> decide +kernel
theorem p1_e16 (a0 : Int32) (a1 : Int32) : px16_f a0 a1 = pm16_f a0 a1 := by
  unfold px16_f pm16_f
  by_cases h : a0 < 0
  · rw [if_pos (show am_if1 .lt a0 = true from decide_eq_true h)]
  · rw [if_neg (show ¬ am_if1 .lt a0 = true from fun q => h (of_decide_eq_true q))]
    rw [if_neg (show ¬ am_if2 .lt a0 0 = true from fun q => h (of_decide_eq_true q))]
theorem p1_e17 (a0 : Int32) (a1 : Int32) : px17_f a0 a1 = pm17_f a0 a1 := by
  unfold px17_f pm17_f
  by_cases h : a0 < 0
  · rw [if_pos (show am_if1 .lt a0 = true from decide_eq_true h)]
  · rw [if_neg (show ¬ am_if1 .lt a0 = true from fun q => h (of_decide_eq_true q))]
    rw [if_neg (show ¬ am_if2 .lt a0 0 = true from fun q => h (of_decide_eq_true q))]
theorem p1_e18 (a0 : Int32) : px18_f a0 = pm18_f a0 := by rfl
def p1_Inv (k : Nat) (H : am_H) : Prop := match k with
  | 0 => H = p1_H3
  | _ + 1 => p1_in H
theorem p1_H3_in : p1_in p1_H3 := by unfold p1_in; decide +kernel
theorem p1_H3_x : am_isC gx_G p1_H3 0 "GrammarStream" = true := by decide +kernel
theorem p1_H3_m : am_isC gx_G p1_H3 3 "GrammarStreamModel" = true := by decide +kernel
theorem p1_isC {H H' : am_H} {p : Nat} {C : String} (h : am_isC gx_G H p C = true) (e : H'[p]? = H[p]?) : am_isC gx_G H' p C = true := by
  unfold am_isC at h ⊢
  rw [e]
  exact h
/-- type() on fresh objects -/
theorem p1_type (w : Int64) (n : Int32) : lw_I 12 0 3 (p1_Inv 0) (p1_Inv 1) 1 137 [.long w, .int n] := by
  intro H hH
  have hH : H = p1_H3 := hH
  subst hH
  by_cases h : n < 1 ∨ ¬ n ≤ 8
  · exact ⟨_, p1_H3, p1_H3, p1_H3_x, p1_H3_m, (s_typeX_bad h).deeper (by decide), (s_typeM_bad h).deeper (by decide), p1_H3_in⟩
  · have h1 : ¬ n < 1 := fun q => h (Or.inl q)
    have h2 : n ≤ 8 := Classical.byContradiction fun q => h (Or.inr q)
    obtain ⟨m, hm, rfl⟩ : ∃ m : Nat, (1 ≤ m ∧ m ≤ 8) ∧ n = nI m := by
      rw [Int32.lt_iff_toInt_lt] at h1
      rw [Int32.le_iff_toInt_le] at h2
      have e1 : (1 : Int32).toInt = 1 := by decide +kernel
      have e8 : (8 : Int32).toInt = 8 := by decide +kernel
      rw [e1] at h1
      rw [e8] at h2
      exact ⟨n.toInt.toNat, by omega, by rw [← Int32.toInt_inj, nI_toInt (by omega)]; omega⟩
    obtain ⟨f1, H1, r1, a1, a2, a3, a4, a5, -⟩ := s_typeX (p := 0) (a := 1) (t := 0) (w := w) (H := p1_H3) m hm.1 hm.2 (by omega) rfl rfl
    have e3 : H1[3]? = p1_H3[3]? := a3 3 (by decide) (by decide)
    have e4 : H1[4]? = p1_H3[4]? := a3 4 (by decide) (by decide)
    obtain ⟨f2, H2, r2, b1, b2, b3, b4, b5, -⟩ := s_typeM (p := 3) (a := 4) (t := 0) (w := w) (H := H1) m hm.1 hm.2 (by omega) (by rw [e3]; rfl) (by rw [e4]; rfl)
    refine ⟨_, H1, H2, p1_H3_x, p1_isC p1_H3_m e3, r1.deeper (by decide), r2.deeper (by decide), ?_⟩
    exact ⟨by rw [b4, a4]; exact p1_H3_in.1, by rw [b5, a5]; exact p1_H3_in.2⟩
/-- all of the law's calls on fresh objects; build()'s is still owed: its hypothesis -/
theorem p1_steps_open (hb : lw_I 12 0 3 (p1_Inv 0) (p1_Inv 1) 3 138 []) : lw_steps 12 0 3 (p1_Inv 0) (p1_Inv 1) :=
  ⟨p1_type, hb, (fun a0 H hH => by have hH : H = p1_H3 := hH; subst hH; exact ⟨px2_f a0, p1_H3, p1_H3, p1_H3_x, p1_H3_m, (px2 a0).deeper (by decide), by rw [p1_e2 a0]; exact (pm2 a0).deeper (by decide), p1_H3_in⟩), (fun a0 H hH => by have hH : H = p1_H3 := hH; subst hH; exact ⟨px3_f a0, p1_H3, p1_H3, p1_H3_x, p1_H3_m, (px3 a0).deeper (by decide), by rw [p1_e3 a0]; exact (pm3 a0).deeper (by decide), p1_H3_in⟩), (fun a0 a1 H hH => by have hH : H = p1_H3 := hH; subst hH; exact ⟨px4_f a0 a1, p1_H3, p1_H3, p1_H3_x, p1_H3_m, (px4 a0 a1).deeper (by decide), by rw [p1_e4 a0 a1]; exact (pm4 a0 a1).deeper (by decide), p1_H3_in⟩), (fun a0 a1 H hH => by have hH : H = p1_H3 := hH; subst hH; exact ⟨px5_f a0 a1, p1_H3, p1_H3, p1_H3_x, p1_H3_m, (px5 a0 a1).deeper (by decide), by rw [p1_e5 a0 a1]; exact (pm5 a0 a1).deeper (by decide), p1_H3_in⟩), (fun a0 H hH => by have hH : H = p1_H3 := hH; subst hH; exact ⟨px6_f a0, p1_H3, p1_H3, p1_H3_x, p1_H3_m, (px6 a0).deeper (by decide), by rw [p1_e6 a0]; exact (pm6 a0).deeper (by decide), p1_H3_in⟩), (fun a0 a1 H hH => by have hH : H = p1_H3 := hH; subst hH; exact ⟨px7_f a0 a1, p1_H3, p1_H3, p1_H3_x, p1_H3_m, (px7 a0 a1).deeper (by decide), by rw [p1_e7 a0 a1]; exact (pm7 a0 a1).deeper (by decide), p1_H3_in⟩), (fun a0 H hH => by have hH : H = p1_H3 := hH; subst hH; exact ⟨px8_f a0, p1_H3, p1_H3, p1_H3_x, p1_H3_m, (px8 a0).deeper (by decide), by rw [p1_e8 a0]; exact (pm8 a0).deeper (by decide), p1_H3_in⟩), (fun a0 a1 H hH => by have hH : H = p1_H3 := hH; subst hH; exact ⟨px9_f a0 a1, p1_H3, p1_H3, p1_H3_x, p1_H3_m, (px9 a0 a1).deeper (by decide), by rw [p1_e9 a0 a1]; exact (pm9 a0 a1).deeper (by decide), p1_H3_in⟩), (fun a0 a1 H hH => by have hH : H = p1_H3 := hH; subst hH; exact ⟨px10_f a0 a1, p1_H3, p1_H3, p1_H3_x, p1_H3_m, (px10 a0 a1).deeper (by decide), by rw [p1_e10 a0 a1]; exact (pm10 a0 a1).deeper (by decide), p1_H3_in⟩), (fun a0 H hH => by have hH : H = p1_H3 := hH; subst hH; exact ⟨px11_f a0, p1_H3, p1_H3, p1_H3_x, p1_H3_m, (px11 a0).deeper (by decide), by rw [p1_e11 a0]; exact (pm11 a0).deeper (by decide), p1_H3_in⟩), (fun a0 a1 H hH => by have hH : H = p1_H3 := hH; subst hH; exact ⟨px12_f a0 a1, p1_H3, p1_H3, p1_H3_x, p1_H3_m, (px12 a0 a1).deeper (by decide), by rw [p1_e12 a0 a1]; exact (pm12 a0 a1).deeper (by decide), p1_H3_in⟩), (fun H hH => by have hH : H = p1_H3 := hH; subst hH; exact ⟨px13_f, p1_H3, p1_H3, p1_H3_x, p1_H3_m, (px13).deeper (by decide), by rw [p1_e13]; exact (pm13).deeper (by decide), p1_H3_in⟩), (fun H hH => by have hH : H = p1_H3 := hH; subst hH; exact ⟨px14_f, p1_H3, p1_H3, p1_H3_x, p1_H3_m, (px14).deeper (by decide), by rw [p1_e14]; exact (pm14).deeper (by decide), p1_H3_in⟩), (fun a0 H hH => by have hH : H = p1_H3 := hH; subst hH; exact ⟨px15_f a0, p1_H3, p1_H3, p1_H3_x, p1_H3_m, (px15 a0).deeper (by decide), by rw [p1_e15 a0]; exact (pm15 a0).deeper (by decide), p1_H3_in⟩), (fun a0 a1 H hH => by have hH : H = p1_H3 := hH; subst hH; exact ⟨px16_f a0 a1, p1_H3, p1_H3, p1_H3_x, p1_H3_m, (px16 a0 a1).deeper (by decide), by rw [p1_e16 a0 a1]; exact (pm16 a0 a1).deeper (by decide), p1_H3_in⟩), (fun a0 a1 H hH => by have hH : H = p1_H3 := hH; subst hH; exact ⟨px17_f a0 a1, p1_H3, p1_H3, p1_H3_x, p1_H3_m, (px17 a0 a1).deeper (by decide), by rw [p1_e17 a0 a1]; exact (pm17 a0 a1).deeper (by decide), p1_H3_in⟩), (fun a0 H hH => by have hH : H = p1_H3 := hH; subst hH; exact ⟨px18_f a0, p1_H3, p1_H3, p1_H3_x, p1_H3_m, (px18 a0).deeper (by decide), by rw [p1_e18 a0]; exact (pm18 a0).deeper (by decide), p1_H3_in⟩), fun H hH => by have hH : H = p1_H3 := hH; subst hH; exact p1_H3_in⟩
end
section
/-! p1: the law's entry, and the pure statement -/
theorem am_oneI {G : am_G} {d : Nat} {M : am_M} {pc : Nat} {lv : am_L} {st : List Value} {H H1 : am_H} {idx j kind : Nat} {z : Int64} {Mj : am_M} {as : List Value} {p : Nat} {rest : List Value} {v : Option Value} (hA : am_stA M.2.2.1 (.invokespecial idx) 3 lv st = none) (hB : am_stB (.invokespecial idx) 3 pc st = none) (hC : am_stC G M.1.cls (M.1.name == "<init>") (.invokespecial idx) 3 st H = none) (hlk : G.2.2.1 M.1.cls idx = some (1, j, kind, z)) (hkd : kind = 1 ∨ kind = 2) (hM : G.2.2.2.1[j]? = some Mj) (hst : st = as.reverse ++ .ref p :: rest) (has : as.length = Mj.2.2.2.2.1) (hcat : (rest.map fun v => v.category).sum ≤ 8) (hR : am_R G d j (.ref p :: as) H v H1) :
    ∃ N, ∀ fuel, N ≤ fuel → am_one G (am_call G fuel d) M (.invokespecial idx) 3 pc lv st H = some (.inl (pc + 3, lv, v.toList ++ rest, H1)) := by
  obtain ⟨N, hR⟩ := hR
  refine ⟨N, fun fuel hf => ?_⟩
  have e1 : st.drop Mj.2.2.2.2.1 = .ref p :: rest := by rw [hst, ← has, ← List.length_reverse, List.drop_left]
  have e2 : (st.take Mj.2.2.2.2.1).reverse = as := by rw [hst, ← has, ← List.length_reverse, List.take_left, List.reverse_reverse]
  have e3 : Mj.2.2.2.2.1 ≤ st.length := by rw [hst, ← has]; simp
  have hcv : am_cv G (am_call G fuel d) j 3 false st H = some (v.toList ++ rest, H1) := by
    unfold am_cv
    rw [hM]
    dsimp only
    rw [e1]
    dsimp only
    rw [if_pos ⟨rfl, e3, hcat, fun q => by cases q⟩, e2, hR fuel hf]
    rfl
  have hD : am_stD G (am_call G fuel d) M.1.cls (.invokespecial idx) 3 st H = some (v.toList ++ rest, H1) := by
    dsimp only [am_stD]
    rw [hlk]
    rcases hkd with rfl | rfl
    · exact hcv
    · exact hcv
  unfold am_one
  rw [hA]
  dsimp only
  rw [hB]
  dsimp only
  rw [hC]
  dsimp only
  rw [hD]
set_option maxHeartbeats 4000000 in
set_option maxRecDepth 100000 in
/-- from the law's entry to its loop -/
theorem p1_entry {b L : Nat} {xs : Nat → Int32} {r : Option Value} {H' : am_H} (k : am_XL gx_G 12 gx_ML b L xs 18 (lw_lv b 0 3 (nI 0)) [] p1_H3 r H') : am_XL gx_G 12 gx_ML b L xs 0 [(0, .retAddr b)] [] [] r H' := by
  refine am_XL.go (i := .new 7) (n := 3) (pc' := 3) (lv' := [(0, .retAddr b)]) (st' := [.ref 0]) (H1 := p1_H0) (by decide +kernel) rfl (fun _ => rfl) ?_
  refine am_XL.go (i := .dup) (n := 1) (pc' := 4) (lv' := [(0, .retAddr b)]) (st' := [.ref 0, .ref 0]) (H1 := p1_H0) (by decide +kernel) rfl (fun _ => rfl) ?_
  refine am_XL.goD (i := .invokespecial 9) (n := 3) (pc' := 7) (lv' := [(0, .retAddr b)]) (st' := [.ref 0]) (H1 := p1_H1) (by decide +kernel) rfl (am_oneI (j := 0) (kind := 1) (z := 0) (Mj := gx_m0) (as := []) (p := 0) (rest := [.ref 0]) (v := none) rfl rfl rfl (by decide +kernel) (Or.inl rfl) rfl rfl rfl (Nat.le_of_ble_eq_true rfl) (p1_ix.deeper (by decide))) ?_
  refine am_XL.go (i := .astore_n 1) (n := 1) (pc' := 8) (lv' := [(1, .ref 0), (0, .retAddr b)]) (st' := []) (H1 := p1_H1) (by decide +kernel) rfl (fun _ => rfl) ?_
  refine am_XL.go (i := .new 10) (n := 3) (pc' := 11) (lv' := [(1, .ref 0), (0, .retAddr b)]) (st' := [.ref 3]) (H1 := p1_H2) (by decide +kernel) rfl (fun _ => rfl) ?_
  refine am_XL.go (i := .dup) (n := 1) (pc' := 12) (lv' := [(1, .ref 0), (0, .retAddr b)]) (st' := [.ref 3, .ref 3]) (H1 := p1_H2) (by decide +kernel) rfl (fun _ => rfl) ?_
  refine am_XL.goD (i := .invokespecial 12) (n := 3) (pc' := 15) (lv' := [(1, .ref 0), (0, .retAddr b)]) (st' := [.ref 3]) (H1 := p1_H3) (by decide +kernel) rfl (am_oneI (j := 136) (kind := 1) (z := 0) (Mj := gx_m136) (as := []) (p := 3) (rest := [.ref 3]) (v := none) rfl rfl rfl (by decide +kernel) (Or.inl rfl) rfl rfl rfl (Nat.le_of_ble_eq_true rfl) (p1_im.deeper (by decide))) ?_
  refine am_XL.go (i := .astore_n 2) (n := 1) (pc' := 16) (lv' := [(2, .ref 3), (1, .ref 0), (0, .retAddr b)]) (st' := []) (H1 := p1_H3) (by decide +kernel) rfl (fun _ => rfl) ?_
  refine am_XL.go (i := .iconst 0) (n := 1) (pc' := 17) (lv' := [(2, .ref 3), (1, .ref 0), (0, .retAddr b)]) (st' := [.int (Int32.ofInt 0)]) (H1 := p1_H3) (by decide +kernel) rfl (fun _ => rfl) ?_
  refine am_XL.go (i := .istore_n 3) (n := 1) (pc' := 18) (lv' := lw_lv b 0 3 (nI 0)) (st' := []) (H1 := p1_H3) (by decide +kernel) rfl (fun _ => rfl) ?_
  exact k
/-- the pure statement of p1, build() on fresh objects still owed -/
theorem p1_good_open (hb : lw_I 12 0 3 (p1_Inv 0) (p1_Inv 1) 3 138 []) {b L : Nat} {xs : Nat → Int32} (hL : L ≤ 4) : gx_good b L xs := by
  obtain ⟨k', H', hI, hr⟩ := lw_run (d := 12) (px := 0) (pm := 3) (b := b) (L := L) (xs := xs) (Inv := p1_Inv) (by omega) (fun k hk => by
    have h0 : k = 0 := by omega
    subst h0
    exact p1_steps_open hb) 2 0 p1_H3 rfl (by omega) (by omega)
  obtain ⟨N, hN⟩ := p1_entry hr
  have hin : p1_in H' := by
    cases k' with
    | zero => have hI : H' = p1_H3 := hI; rw [hI]; exact p1_H3_in
    | succ k => exact hI
  exact ⟨N, 12, N, H', by decide, hN N N (Nat.le_refl _) (Nat.le_refl _), hin.1, hin.2⟩
end
section
/-! Arrays.fill(long[], long), exactly; and runs with it as one step -/
abbrev p_fc (g : Nat → Int64) (y : Int64) (i w : Nat) : Nat → Int64 := fun k => if i ≤ k ∧ k < w then y else g k
set_option maxHeartbeats 4000000 in
set_option maxRecDepth 100000 in
theorem p_fillx_loop {a w : Nat} {y : Int64} (hw : w < 2 ^ 30) : ∀ (n i : Nat) (H : am_H) (g : Nat → Int64) (lv : am_L), (lv = p_flA a y w i ∨ lv = p_flB a y w i) → i + n = w → H[a]? = some (.inl (.long, w, .inr (.inl g))) → am_X gx_G 0 gx_m18 6 lv [] H none (H.set a (.inl (.long, w, .inr (.inl (p_fc g y i w))))) := by
  intro n
  induction n with
  | zero =>
    intro i H g lv hlv hi hc
    have eg : p_fc g y i w = g := by
      funext k
      show (if i ≤ k ∧ k < w then y else g k) = g k
      rw [if_neg (by omega)]
    rw [eg]
    have hH : H.set a (.inl (.long, w, .inr (.inl g))) = H := by
      apply List.ext_getElem?
      intro q
      by_cases hq : a = q
      · subst hq; rw [am_set_get hc, hc]
      · rw [List.getElem?_set_ne hq]
    rw [hH]
    have hb : am_if2 .ge (nI i) (Int32.ofNat w) = true := decide_eq_true (show nI w ≤ nI i from nI_le (by omega) (by omega))
    rcases hlv with rfl | rfl
    · refine am_X.blk 2 (pc' := 9) (lv' := p_flA a y w i) (st' := [.int (Int32.ofNat w), .int (nI i)]) (H1 := H) (fun _ _ => rfl) ?_
      refine am_X.if2 (off := 13) (t := 22) (by decide +kernel) (by decide +kernel) hb ?_
      exact am_X.done 1 (fun _ _ => rfl)
    · refine am_X.blk 2 (pc' := 9) (lv' := p_flB a y w i) (st' := [.int (Int32.ofNat w), .int (nI i)]) (H1 := H) (fun _ _ => rfl) ?_
      refine am_X.if2 (off := 13) (t := 22) (by decide +kernel) (by decide +kernel) hb ?_
      exact am_X.done 1 (fun _ _ => rfl)
  | succ n ih =>
    intro i H g lv hlv hi hc
    have hj : am_inb (nI i) w = true := decide_eq_true (vp_in_nI (by omega) (by omega))
    have ecl : (nI i).toNatClampNeg = i := nI_clamp (by omega)
    have hx := ih (i + 1) (H.set a (.inl (.long, w, .inr (.inl (vp_updL g (nI i).toNatClampNeg y))))) (vp_updL g (nI i).toNatClampNeg y) (p_flB a y w (i + 1)) (Or.inr rfl) (by omega) (am_set_get hc)
    have eg : p_fc (vp_updL g (nI i).toNatClampNeg y) y (i + 1) w = p_fc g y i w := by
      funext k
      rw [ecl]
      show (if i + 1 ≤ k ∧ k < w then y else (if k = i then y else g k)) = (if i ≤ k ∧ k < w then y else g k)
      by_cases h1 : k = i
      · rw [if_neg (by omega), if_pos h1, if_pos (by omega)]
      · by_cases h2 : i + 1 ≤ k ∧ k < w
        · rw [if_pos h2, if_pos (by omega)]
        · rw [if_neg h2, if_neg h1, if_neg (by omega)]
    rw [am_set_set, eg] at hx
    have hb : am_if2 .ge (nI i) (Int32.ofNat w) = false := decide_eq_false (show ¬ nI w ≤ nI i from nI_ge (by omega) (by omega))
    have e1 : nI i + Int32.ofInt 1 = nI (i + 1) := lw_k1 i
    rcases hlv with rfl | rfl
    · refine am_X.blk 2 (pc' := 9) (lv' := p_flA a y w i) (st' := [.int (Int32.ofNat w), .int (nI i)]) (H1 := H) (fun _ _ => rfl) ?_
      refine am_X.if2 (off := 13) (t := 22) (by decide +kernel) (by decide +kernel) hb ?_
      refine am_X.blk 3 (pc' := 15) (lv' := p_flA a y w i) (st' := [.long y, .int (nI i), .ref a]) (H1 := H) (fun _ _ => rfl) ?_
      refine am_X.last (by decide +kernel) hc hj ?_
      refine am_X.blk 2 (pc' := 6) (lv' := [(3, .int (nI i + Int32.ofInt 1)), (4, .int (Int32.ofNat w)), (0, .ref a), (1, .long y)]) (st' := []) (fun _ _ => rfl) ?_
      rw [e1]
      exact hx
    · refine am_X.blk 2 (pc' := 9) (lv' := p_flB a y w i) (st' := [.int (Int32.ofNat w), .int (nI i)]) (H1 := H) (fun _ _ => rfl) ?_
      refine am_X.if2 (off := 13) (t := 22) (by decide +kernel) (by decide +kernel) hb ?_
      refine am_X.blk 3 (pc' := 15) (lv' := p_flB a y w i) (st' := [.long y, .int (nI i), .ref a]) (H1 := H) (fun _ _ => rfl) ?_
      refine am_X.last (by decide +kernel) hc hj ?_
      refine am_X.blk 2 (pc' := 6) (lv' := [(3, .int (nI i + Int32.ofInt 1)), (4, .int (Int32.ofNat w)), (0, .ref a), (1, .long y)]) (st' := []) (fun _ _ => rfl) ?_
      rw [e1]
      exact hx
set_option maxHeartbeats 4000000 in
set_option maxRecDepth 100000 in
theorem p_fillx {H : am_H} {a w : Nat} {y : Int64} {g : Nat → Int64} (hw : w < 2 ^ 30) (hc : H[a]? = some (.inl (.long, w, .inr (.inl g)))) : am_R gx_G 1 18 [.ref a, .long y] H none (H.set a (.inl (.long, w, .inr (.inl (p_fc g y 0 w))))) := by
  have hx := p_fillx_loop (a := a) (y := y) hw w 0 H g (p_flA a y w 0) (Or.inl rfl) (by omega) hc
  refine am_R.enter (M := gx_m18) rfl ⟨Nat.le_of_ble_eq_true rfl, Nat.le_of_ble_eq_true rfl⟩ ?_
  refine am_X.blk 3 (pc' := 3) (lv' := [(3, .int (Int32.ofInt 0)), (0, .ref a), (1, .long y)]) (st' := [.ref a]) (H1 := H) (fun _ _ => rfl) ?_
  refine am_X.alen (by decide +kernel) hc (by decide +kernel) ?_
  refine am_X.blk 1 (pc' := 6) (lv' := p_flA a y w 0) (st' := []) (H1 := H) (fun _ _ => rfl) ?_
  exact hx
/-- calls that are known stand for runs -/
def am_kn (G : am_G) (d : Nat) (call : Nat → List Value → am_H → Option (Option Value × am_H)) : Prop := ∀ (j : Nat) (as : List Value) (H : am_H) (r : Option Value × am_H), call j as H = some r → am_R G d j as H r.1 r.2
theorem am_cv_kn {G : am_G} {d : Nat} {call : Nat → List Value → am_H → Option (Option Value × am_H)} (hk : am_kn G d call) {j n : Nat} {chk : Bool} {st : List Value} {H : am_H} {y : List Value × am_H} (h : am_cv G call j n chk st H = some y) : ∃ N, ∀ fuel, N ≤ fuel → am_cv G (am_call G fuel d) j n chk st H = some y := by
  obtain ⟨st', H'⟩ := y
  obtain ⟨M, b, r, v, hM, hd, hn, h1, h2, h3, hc, rfl⟩ := am_cv_inv h
  obtain ⟨N, hN⟩ := hk _ _ _ _ hc
  refine ⟨N, fun fuel hf => ?_⟩
  unfold am_cv
  rw [hM]
  dsimp only
  rw [hd]
  dsimp only
  rw [if_pos ⟨hn, h1, h2, h3⟩, hN fuel hf]
  rfl
theorem am_cs_kn {G : am_G} {d : Nat} {call : Nat → List Value → am_H → Option (Option Value × am_H)} (hk : am_kn G d call) {j n : Nat} {st : List Value} {H : am_H} {y : List Value × am_H} (h : am_cs G call j n st H = some y) : ∃ N, ∀ fuel, N ≤ fuel → am_cs G (am_call G fuel d) j n st H = some y := by
  obtain ⟨st', H'⟩ := y
  obtain ⟨M, v, hM, hn, h1, h2, hc, rfl⟩ := am_cs_inv h
  obtain ⟨N, hN⟩ := hk _ _ _ _ hc
  refine ⟨N, fun fuel hf => ?_⟩
  unfold am_cs
  rw [hM]
  dsimp only
  rw [if_pos ⟨hn, h1, h2⟩, hN fuel hf]
  rfl
set_option maxHeartbeats 4000000 in
theorem am_stD_kn {G : am_G} {d : Nat} {call : Nat → List Value → am_H → Option (Option Value × am_H)} (hk : am_kn G d call) {own : String} {i : Instr} {n : Nat} {st : List Value} {H : am_H} {y : List Value × am_H} (h : am_stD G call own i n st H = some y) : ∃ N, ∀ fuel, N ≤ fuel → am_stD G (am_call G fuel d) own i n st H = some y := by
  cases i with
  | invokevirtual idx =>
    dsimp only [am_stD] at h ⊢
    split at h
    · exact am_cv_kn hk h
    · cases h
  | invokespecial idx =>
    dsimp only [am_stD] at h ⊢
    split at h
    · exact am_cv_kn hk h
    · exact am_cv_kn hk h
    · exact ⟨0, fun _ _ => h⟩
    · cases h
  | invokestatic idx =>
    dsimp only [am_stD] at h ⊢
    split at h
    · exact am_cs_kn hk h
    · exact am_cs_kn hk h
    · exact ⟨0, fun _ _ => h⟩
    · exact ⟨0, fun _ _ => h⟩
    · exact ⟨0, fun _ _ => h⟩
    · cases h
  | _ => cases h
theorem am_one_kn {G : am_G} {d : Nat} {call : Nat → List Value → am_H → Option (Option Value × am_H)} (hk : am_kn G d call) {M : am_M} {i : Instr} {n pc : Nat} {lv : am_L} {st : List Value} {H : am_H} {y : (Nat × am_L × List Value × am_H) ⊕ (Option Value × am_H)} (h : am_one G call M i n pc lv st H = some y) : ∃ N, ∀ fuel, N ≤ fuel → am_one G (am_call G fuel d) M i n pc lv st H = some y := by
  unfold am_one at h
  split at h
  · rename_i hA; exact ⟨0, fun _ _ => by unfold am_one; rw [hA]; exact h⟩
  · rename_i hA
    split at h
    · rename_i hB; exact ⟨0, fun _ _ => by unfold am_one; rw [hA]; dsimp only; rw [hB]; exact h⟩
    · rename_i hB
      split at h
      · rename_i hC; exact ⟨0, fun _ _ => by unfold am_one; rw [hA]; dsimp only; rw [hB]; dsimp only; rw [hC]; exact h⟩
      · rename_i hC
        split at h
        · rename_i hD
          obtain ⟨N, hN⟩ := am_stD_kn hk hD
          exact ⟨N, fun fuel hf => by unfold am_one; rw [hA]; dsimp only; rw [hB]; dsimp only; rw [hC]; dsimp only; rw [hN fuel hf]; exact h⟩
        · split at h
          · rename_i hR
            exact ⟨0, fun _ _ => by unfold am_one; rw [hA]; dsimp only; rw [hB]; dsimp only; rw [hC]; dsimp only; rw [am_stD_ret hR]; dsimp only; rw [hR]; exact h⟩
          · cases h
theorem am_exec_kn {G : am_G} {d : Nat} {call : Nat → List Value → am_H → Option (Option Value × am_H)} (hk : am_kn G d call) {M : am_M} : ∀ (f pc : Nat) (lv : am_L) (st : List Value) (H : am_H) (r : Option Value × am_H), am_exec G call M f pc lv st H = some r → am_X G d M pc lv st H r.1 r.2 := by
  intro f
  induction f with
  | zero => intro pc lv st H r h; cases h
  | succ f ih =>
    intro pc lv st H r h
    unfold am_exec at h
    split at h
    · rename_i i n hrow
      split at h
      · rename_i pc1 lv1 st1 H1 h1
        exact am_X.goD hrow (am_one_kn hk h1) (ih _ _ _ _ _ h)
      · rename_i z h1
        cases h
        obtain ⟨N, hN⟩ := am_one_kn hk h1
        refine ⟨N + 1, fun fuel f' hf hf2 => ?_⟩
        cases f' with
        | zero => omega
        | succ f' =>
          unfold am_exec
          rw [hrow]
          dsimp only
          rw [hN fuel (by omega)]
      · cases h
    · cases h
/-- as am_call, with Arrays.fill(long[], long) in one step -/
def p_callF (fuel : Nat) : Nat → Nat → List Value → am_H → Option (Option Value × am_H)
  | 0, _, _, _ => none
  | d + 1, j, as, H => if j = 18 then (match as with
      | [.ref a, .long y] => match H[a]? with
        | some (.inl (.long, w, .inr (.inl g))) => if w < 1073741824 then some (none, H.set a (.inl (.long, w, .inr (.inl (p_fc g y 0 w))))) else none
        | _ => none
      | _ => none) else match gx_G.2.2.2.1[j]? with
    | some M => if (lg_sl as).length ≤ M.2.2.1 ∧ M.2.2.1 ≤ 45 then am_exec gx_G (p_callF fuel d) M fuel 0 (lv_args 0 as) [] H else none
    | none => none
theorem p_callF_kn (fuel : Nat) : ∀ d, am_kn gx_G d (p_callF fuel d) := by
  intro d
  induction d with
  | zero => intro j as H r h; cases h
  | succ d ih =>
    intro j as H r h
    unfold p_callF at h
    split at h
    · rename_i hj
      subst hj
      split at h
      · split at h
        · rename_i hc
          split at h
          · rename_i hw
            cases h
            exact (p_fillx hw hc).deeper (by omega)
          · cases h
        · cases h
      · cases h
    · split at h
      · rename_i M hM
        split at h
        · rename_i hc
          exact am_R.enter hM hc (am_exec_kn ih _ _ _ _ _ _ h)
        · cases h
      · cases h
end
section
/-! p1: build() on fresh objects: nothing is unknown, so it is run -/
def p1_bb : Bool := match p_callF 4000 12 3 [.ref 0] p1_H3 with
  | some (some (.int v), H1) => am_isC gx_G H1 3 "GrammarStreamModel" && (match am_call gx_G 4000 12 138 [.ref 3] H1 with
    | some (some (.int u), H2) => decide (u = v) && (decide (H2.length ≤ lw_cells) && decide (am_sz H2 ≤ lw_slots))
    | _ => false)
  | _ => false
set_option maxRecDepth 1000000 in
theorem p1_bb_ok : p1_bb = true := by decide +kernel
end
section
theorem p1_build : lw_I 12 0 3 (p1_Inv 0) (p1_Inv 1) 3 138 [] := by
  intro H hH
  have hH : H = p1_H3 := hH
  subst hH
  have h := p1_bb_ok
  unfold p1_bb at h
  split at h
  · rename_i v H1 h1
    rw [Bool.and_eq_true] at h
    obtain ⟨hc, h⟩ := h
    split at h
    · rename_i u H2 h2
      simp only [Bool.and_eq_true, decide_eq_true_eq] at h
      obtain ⟨rfl, h3, h4⟩ := h
      exact ⟨u, H1, H2, p1_H3_x, hc, p_callF_kn 4000 12 _ _ _ _ h1, am_R.of h2, h3, h4⟩
    · cases h
  · cases h
/-- from the entry, for every script of at most 4 ints, the law comes to its end with true -/
theorem whole_start {p : Program} {e : Env} {s : State} {m : MethodId} {below : List Frame} {meth : Method} {c : Code} (l : Launch) {b L : Nat} {xs : Nat → Int32} (hL : L ≤ 4) (C0 : lw_At p s m meth c b L xs) : W p l e room_1 s m #[Value.ref b] below meth c s.heap [] 0 0 (lw_Z below #[Value.ref b] s) (entryFrame m ([Value.ref b] : List Value).toArray 4) :=
  gx_whole l (p1_good_open p1_build hL) C0
end
section
set_option maxHeartbeats 4000000 in
theorem lw_walk (l : Launch) (b : Addr) (xs : List Int32) : MetFree l x (headSpec (Jvm.Cond.code x code maxLocals ret :: tables_1) room_1) (lw_P b xs) (fun _ _ _ _ _ => True) lw_Q := by
  refine MetFree.of_bodyS (code := code) (maxLocals := maxLocals) (ret := ret) (by decide) ?_ ?_
  · intro args s m h hn
    obtain ⟨meth, c, h1, h2, h3, h4, h5, h6, -, -⟩ := Cond.code_spec hn (atoms_spec (ws := Jvm.Cond.code x code maxLocals ret :: tables_1) h _ List.mem_cons_self)
    exact ⟨meth, c, h1, h2, h3, h4, h5, h6⟩
  · intro p e s m args below meth c s₁ B hml0 hP _
    obtain ⟨rfl, hx, hbd, hgv⟩ := hP
    obtain ⟨scr, harrAt, hlist, hof, hsmall⟩ := hx
    obtain ⟨hcb, hkn, -, -⟩ := State.arrayAt?_spec harrAt
    have hown : s.vm.findClass R_law = some m.cls := findClass_of_methodNamed B.named
    have hts0 : ∀ c ∈ (Jvm.Cond.code x code maxLocals ret :: tables_1), c.before #[Value.ref b] s = true := atoms_spec (ws := Jvm.Cond.code x code maxLocals ret :: tables_1) B.pre
    have hts : ∀ w ∈ lw_tbl, w.before #[Value.ref b] s = true := k2_hts_sels lw_privs (fun w hw => hts0 w (List.mem_cons_of_mem _ hw)) lw_privs_ok
    have hml : c.maxLocals = 4 := B.maxLocals_eq (hts0 _ List.mem_cons_self)
    have X₀ : Stand p l e room_1 s m #[Value.ref b] below meth c s₁ [] 0 0 := Stand.of_body B
    have hh0 : s₁.heap = s.heap := by rw [B.state]; rfl
    have hsz : scr.slots.size = xs.length := by rw [← Array.length_toList, hlist, List.length_map]
    have hval : ∀ j : Nat, j < xs.length → scr.slots[j]? = some (.int (xs.getD j 0)) := fun j hj => by
      rw [← Array.getElem?_toList, hlist]
      simp [hj]
    have hbl : b < s.heap.size := (Array.getElem?_eq_some_iff.mp hcb).1
    have hX : va_X b xs.length (fun j => xs.getD j 0) s s.heap := ⟨scr, hcb, hof, hkn, hsz, hval⟩
    have K : W p l e room_1 s m #[Value.ref b] below meth c s₁.heap [] 0 0 (lw_Z below #[Value.ref b] s) (entryFrame m ([Value.ref b] : List Value).toArray 4) := by
      rw [hh0]
      exact whole_start l hbd ⟨B.exec, B.bytes, B.returns, hml, hown, hts, hX, hbl, B.notSynchronized, hgv⟩
    obtain ⟨t, a1, o, b1, b2, b3⟩ := K s₁ rfl X₀
    exact ⟨t, o, a1, b1, b2, b3⟩
theorem lw_pre_spec {args : Array Value} {s : State} (h : (Jvm.Cond.and given_1 narrow_1).before args s = true) (hr : rest_1_c.before args s = true) : ∃ (b : Addr) (xs : List Int32), lw_P b xs args s := by
  have hs := flat_of_before _ h
  have hq := flat_of_before _ hr
  have hc : (Cond.count 1).before args s = true := hs _ (by decide +kernel)
  have harr : (Cond.arrayOf (.arg 0) .int).before args s = true := hs _ (by decide +kernel)
  have hle : (Cond.le (.length (.arg 0)) (.int 4)).before args s = true := hs _ (by decide +kernel)
  have hlen : (Cond.isInt (.length (.arg 0))).before args s = true := hq _ (by decide +kernel)
  have hall : (Cond.all (.arg 0) (.isInt (.elem (.arg 0) (.index 0)))).before args s = true := hq _ (by decide +kernel)
  obtain ⟨b, xs, hb, hx⟩ := State.ints_of_pre rfl harr hlen hall
  have hsm : xs.length < 2 ^ 31 := hx.choose_spec.2.2.2
  have hev : (Term.length (.arg 0)).eval args s none [] s = some (.int xs.length.toInt32) := hx.length_eval hb
  have hv := Cond.le_ints hev (show (Term.int 4).eval args s none [] s = some (.int 4) from rfl)
  have hd : xs.length.toInt32 ≤ 4 := by
    simpa [Cond.before, Cond.holds, hv] using hle
  have hN : xs.length ≤ 4 := (Int32.ofNat_le_ofNat hsm (by decide)).mp (show Int32.ofNat xs.length ≤ Int32.ofNat 4 from hd)
  exact ⟨b, xs, Cond.one_arg hc (show args[0]? = some (.ref b) from hb), hx, hN, h⟩
theorem lw_comes (l : Launch) : Comes l x (Jvm.Cond.code x code maxLocals ret :: tables_1) room_1 (fun tb e args s => Calls_1 tb e args s ∧ rest_1 tb e args s ∧ Pre_1 tb e args s)
    (fun _ _ args s o t => lw_Q args s o t) := by
  intro p e ha hc hk s m args below hf hfit hheap happ hpre
  obtain ⟨b, xs, hP⟩ := lw_pre_spec hpre.2.2 hpre.2.1
  obtain ⟨k, o, h1, h2, h3, hQ⟩ := lw_walk l b xs p e ha hc hk s m args below hf ((Spec.applies_iff_loose hf).mp happ).1 hP trivial
  exact ⟨k, o, h1, h2, h3, hQ⟩
theorem lw_frame {s t : State} {o : Outcome} {args : Array Value} (h : Framed s o t [] 600000 7302249) :
    Framed s o t (fieldLocs frame_1_writes args s ++ arrayLocs frame_1_arrays args s ++ staticLocs frame_1_statics s) 600000 7302249 := h
theorem lw_limb (L : Cond) (hL : ∀ (args : Array Value) (s t : State), L.after args s (.returned (some (.int 1))) t = true) :
    ArmFor flags0 classFile x code maxLocals ret World_1 tables_1 room_1 Calls_1 rest_1 Pre_1
      (fun tb e a s o t => postC L tb e a s o t ∧ Framed s o t (fieldLocs frame_1_writes a s ++ arrayLocs frame_1_arrays a s ++ staticLocs frame_1_statics s) 600000 7302249) := by
  intro l _ _ _ p e ha hc hk s m args below hf hfit hheap happ hpre
  obtain ⟨k, o, h1, h2, h3, rfl, hF⟩ := lw_comes l p e ha hc hk s m args below hf hfit hheap happ hpre
  exact ⟨k, _, h1, h2, h3, hL args s _, lw_frame hF⟩
theorem i_vc : Claimed_1_1 ∧ Claimed_1_2 := ⟨lw_limb limb_1_1 (fun args s t => by simp [limb_1_1, Cond.after, Cond.holds, Cond.value]), lw_limb limb_1_2 (fun args s t => Cond.after_iff.mpr (by
  first | (rw [show limb_1_2 = Cond.eq .result (.int 1) from rfl, Cond.eq_ints (x := 1) (y := 1) rfl rfl]; simp; done) | (simp [limb_1_2, Cond.value, Term.eval]; done)))⟩
end
