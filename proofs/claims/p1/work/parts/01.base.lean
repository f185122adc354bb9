def lw_okq (q : MethodName × Nat) : Prop := (q.1.cls ≠ "java/lang/invoke/MethodHandle" ∧ q.1.cls ≠ "java/lang/invoke/VarHandle") ∧ Cond.instantiable q.1.cls q.2 ∈ tables_1 ∧ Cond.privateMethod q.1 ∈ tables_1 ∧ Cond.instanceMethod q.1 ∈ tables_1
theorem lw_p0 : lw_okq (⟨"BreedingHouse$Ranks", "counted", "(III)J"⟩, 9) := sorry
theorem lw_p1 : lw_okq (⟨"BreedingHouse$Ranks", "twoParts", "(III)J"⟩, 9) := sorry
theorem lw_p2 : lw_okq (⟨"java/lang/Throwable", "fillInStackTrace", "(I)Ljava/lang/Throwable;"⟩, 6) := sorry
theorem lw_p3 : lw_okq (⟨"BreedingHouse", "needRoom", "(I)V"⟩, 20) := sorry
theorem lw_p4 : lw_okq (⟨"BreedingHouse$Texts", "node", "(ZIZ)V"⟩, 9) := sorry
theorem lw_p5 : lw_okq (⟨"BreedingHouse$Texts", "peek", "()C"⟩, 9) := sorry
theorem lw_p6 : lw_okq (⟨"BreedingHouse$Texts", "fail", "()V"⟩, 9) := sorry
theorem lw_p7 : lw_okq (⟨"BreedingHouse$Texts", "branching", "(ZIZ)V"⟩, 9) := sorry
theorem lw_p8 : lw_okq (⟨"BreedingHouse$Texts", "expect", "(C)Z"⟩, 9) := sorry
theorem lw_p9 : lw_okq (⟨"BreedingHouse$Texts", "constant", "()I"⟩, 9) := sorry
theorem lw_p10 : lw_okq (⟨"BreedingHouse$Texts", "digits", "()I"⟩, 9) := sorry
theorem lw_p11 : lw_okq (⟨"BreedingHouse$Texts", "net", "()V"⟩, 9) := sorry
theorem lw_p12 : lw_okq (⟨"BreedingHouse$Texts", "digit", "(II)I"⟩, 9) := sorry
theorem lw_p13 : lw_okq (⟨"BreedingHouse$Texts", "parts", "(I)V"⟩, 9) := sorry
theorem lw_p14 : lw_okq (⟨"BreedingHouse$Texts", "instruction", "()V"⟩, 9) := sorry
theorem lw_p15 : lw_okq (⟨"BreedingHouse$Texts", "state", "(I)V"⟩, 9) := sorry
def lw_privs_1 : List (MethodName × Nat) := [(⟨"BreedingHouse$Ranks", "counted", "(III)J"⟩, 9), (⟨"BreedingHouse$Ranks", "twoParts", "(III)J"⟩, 9), (⟨"java/lang/Throwable", "fillInStackTrace", "(I)Ljava/lang/Throwable;"⟩, 6), (⟨"BreedingHouse", "needRoom", "(I)V"⟩, 20), (⟨"BreedingHouse$Texts", "node", "(ZIZ)V"⟩, 9), (⟨"BreedingHouse$Texts", "peek", "()C"⟩, 9), (⟨"BreedingHouse$Texts", "fail", "()V"⟩, 9), (⟨"BreedingHouse$Texts", "branching", "(ZIZ)V"⟩, 9), (⟨"BreedingHouse$Texts", "expect", "(C)Z"⟩, 9), (⟨"BreedingHouse$Texts", "constant", "()I"⟩, 9), (⟨"BreedingHouse$Texts", "digits", "()I"⟩, 9), (⟨"BreedingHouse$Texts", "net", "()V"⟩, 9), (⟨"BreedingHouse$Texts", "digit", "(II)I"⟩, 9), (⟨"BreedingHouse$Texts", "parts", "(I)V"⟩, 9), (⟨"BreedingHouse$Texts", "instruction", "()V"⟩, 9), (⟨"BreedingHouse$Texts", "state", "(I)V"⟩, 9)]
theorem lw_r1 : ∀ q ∈ lw_privs_1, lw_okq q := List.forall_mem_cons.mpr ⟨lw_p0, List.forall_mem_cons.mpr ⟨lw_p1, List.forall_mem_cons.mpr ⟨lw_p2, List.forall_mem_cons.mpr ⟨lw_p3, List.forall_mem_cons.mpr ⟨lw_p4, List.forall_mem_cons.mpr ⟨lw_p5, List.forall_mem_cons.mpr ⟨lw_p6, List.forall_mem_cons.mpr ⟨lw_p7, List.forall_mem_cons.mpr ⟨lw_p8, List.forall_mem_cons.mpr ⟨lw_p9, List.forall_mem_cons.mpr ⟨lw_p10, List.forall_mem_cons.mpr ⟨lw_p11, List.forall_mem_cons.mpr ⟨lw_p12, List.forall_mem_cons.mpr ⟨lw_p13, List.forall_mem_cons.mpr ⟨lw_p14, List.forall_mem_cons.mpr ⟨lw_p15, fun _ h => absurd h List.not_mem_nil⟩⟩⟩⟩⟩⟩⟩⟩⟩⟩⟩⟩⟩⟩⟩⟩
theorem lw_p16 : lw_okq (⟨"BreedingHouse$Shape", "leads", "(II)Z"⟩, 8) := sorry
theorem lw_p17 : lw_okq (⟨"BreedingHouse$Texts", "lostEdge", "()I"⟩, 9) := sorry
theorem lw_p18 : lw_okq (⟨"BreedingHouse", "bear", "(LBreedingHouse$Program;IIIIIJ)I"⟩, 20) := sorry
theorem lw_p19 : lw_okq (⟨"BreedingHouse", "birthAt", "(I)LBreedingHouse$Program;"⟩, 20) := sorry
theorem lw_p20 : lw_okq (⟨"BreedingHouse$Texts", "writeNode", "(II)I"⟩, 9) := sorry
theorem lw_p21 : lw_okq (⟨"BreedingHouse$Texts", "number", "(I)V"⟩, 9) := sorry
theorem lw_p22 : lw_okq (⟨"BreedingHouse$Texts", "ink", "(C)V"⟩, 9) := sorry
theorem lw_p23 : lw_okq (⟨"BreedingHouse$Texts", "writeItem", "(II)V"⟩, 9) := sorry
theorem lw_p24 : lw_okq (⟨"BreedingHouse$Shape", "gather", "(II)V"⟩, 8) := sorry
theorem lw_p25 : lw_okq (⟨"BreedingHouse$Shape", "hand", "(II)V"⟩, 8) := sorry
theorem lw_p26 : lw_okq (⟨"BreedingHouse$Ranks", "grow", "(IIJI)V"⟩, 9) := sorry
theorem lw_p27 : lw_okq (⟨"BreedingHouse$Ranks", "waysOf", "(III)J"⟩, 9) := sorry
theorem lw_p28 : lw_okq (⟨"BreedingHouse$Ranks", "growTwo", "(IIIJI)V"⟩, 9) := sorry
theorem lw_p29 : lw_okq (⟨"BreedingHouse$Ranks", "growThree", "(IIIJI)V"⟩, 9) := sorry
theorem lw_p30 : lw_okq (⟨"BreedingHouse$Ranks", "rankAt", "(III)J"⟩, 9) := sorry
theorem lw_p31 : lw_okq (⟨"BreedingHouse$Ranks", "aheadOfTwo", "(IIII)J"⟩, 9) := sorry
def lw_privs_2 : List (MethodName × Nat) := [(⟨"BreedingHouse$Shape", "leads", "(II)Z"⟩, 8), (⟨"BreedingHouse$Texts", "lostEdge", "()I"⟩, 9), (⟨"BreedingHouse", "bear", "(LBreedingHouse$Program;IIIIIJ)I"⟩, 20), (⟨"BreedingHouse", "birthAt", "(I)LBreedingHouse$Program;"⟩, 20), (⟨"BreedingHouse$Texts", "writeNode", "(II)I"⟩, 9), (⟨"BreedingHouse$Texts", "number", "(I)V"⟩, 9), (⟨"BreedingHouse$Texts", "ink", "(C)V"⟩, 9), (⟨"BreedingHouse$Texts", "writeItem", "(II)V"⟩, 9), (⟨"BreedingHouse$Shape", "gather", "(II)V"⟩, 8), (⟨"BreedingHouse$Shape", "hand", "(II)V"⟩, 8), (⟨"BreedingHouse$Ranks", "grow", "(IIJI)V"⟩, 9), (⟨"BreedingHouse$Ranks", "waysOf", "(III)J"⟩, 9), (⟨"BreedingHouse$Ranks", "growTwo", "(IIIJI)V"⟩, 9), (⟨"BreedingHouse$Ranks", "growThree", "(IIIJI)V"⟩, 9), (⟨"BreedingHouse$Ranks", "rankAt", "(III)J"⟩, 9), (⟨"BreedingHouse$Ranks", "aheadOfTwo", "(IIII)J"⟩, 9)]
theorem lw_r2 : ∀ q ∈ lw_privs_2, lw_okq q := List.forall_mem_cons.mpr ⟨lw_p16, List.forall_mem_cons.mpr ⟨lw_p17, List.forall_mem_cons.mpr ⟨lw_p18, List.forall_mem_cons.mpr ⟨lw_p19, List.forall_mem_cons.mpr ⟨lw_p20, List.forall_mem_cons.mpr ⟨lw_p21, List.forall_mem_cons.mpr ⟨lw_p22, List.forall_mem_cons.mpr ⟨lw_p23, List.forall_mem_cons.mpr ⟨lw_p24, List.forall_mem_cons.mpr ⟨lw_p25, List.forall_mem_cons.mpr ⟨lw_p26, List.forall_mem_cons.mpr ⟨lw_p27, List.forall_mem_cons.mpr ⟨lw_p28, List.forall_mem_cons.mpr ⟨lw_p29, List.forall_mem_cons.mpr ⟨lw_p30, List.forall_mem_cons.mpr ⟨lw_p31, fun _ h => absurd h List.not_mem_nil⟩⟩⟩⟩⟩⟩⟩⟩⟩⟩⟩⟩⟩⟩⟩⟩
theorem lw_p32 : lw_okq (⟨"BreedingHouse$Ranks", "aheadOfThree", "(IIIII)J"⟩, 9) := sorry
theorem lw_p33 : lw_okq (⟨"BreedingHouse", "needCase", "(I)V"⟩, 20) := sorry
theorem lw_p34 : lw_okq (⟨"BreedingHouse$Runner", "work", "(II)I"⟩, 15) := sorry
theorem lw_p35 : lw_okq (⟨"BreedingHouse$Runner", "step", "()Z"⟩, 15) := sorry
theorem lw_p36 : lw_okq (⟨"BreedingHouse$Runner", "leaf", "(II)I"⟩, 15) := sorry
theorem lw_p37 : lw_okq (⟨"BreedingHouse$Runner", "one", "(II)I"⟩, 15) := sorry
theorem lw_p38 : lw_okq (⟨"BreedingHouse$Runner", "foldOn", "(III)I"⟩, 15) := sorry
theorem lw_p39 : lw_okq (⟨"BreedingHouse$Runner", "runCode", "()I"⟩, 15) := sorry
theorem lw_p40 : lw_okq (⟨"BreedingHouse$Runner", "runMachine", "()I"⟩, 15) := sorry
theorem lw_p41 : lw_okq (⟨"BreedingHouse$Runner", "runNet", "()I"⟩, 15) := sorry
theorem lw_p42 : lw_okq (⟨"BreedingHouse$Runner", "exchange", "(II)V"⟩, 15) := sorry
theorem lw_p43 : lw_okq (⟨"BreedingHouse", "remembered", "()I"⟩, 20) := sorry
theorem lw_p44 : lw_okq (⟨"BreedingHouse", "needPart", "(I)V"⟩, 20) := sorry
theorem lw_p45 : lw_okq (⟨"BreedingHouse", "needHow", "(I)V"⟩, 20) := sorry
theorem lw_p46 : lw_okq (⟨"BreedingHouse$Changer", "editCandidates", "(I)I"⟩, 13) := sorry
theorem lw_p47 : lw_okq (⟨"BreedingHouse$Changer", "pairCandidates", "()I"⟩, 13) := sorry
def lw_privs_3 : List (MethodName × Nat) := [(⟨"BreedingHouse$Ranks", "aheadOfThree", "(IIIII)J"⟩, 9), (⟨"BreedingHouse", "needCase", "(I)V"⟩, 20), (⟨"BreedingHouse$Runner", "work", "(II)I"⟩, 15), (⟨"BreedingHouse$Runner", "step", "()Z"⟩, 15), (⟨"BreedingHouse$Runner", "leaf", "(II)I"⟩, 15), (⟨"BreedingHouse$Runner", "one", "(II)I"⟩, 15), (⟨"BreedingHouse$Runner", "foldOn", "(III)I"⟩, 15), (⟨"BreedingHouse$Runner", "runCode", "()I"⟩, 15), (⟨"BreedingHouse$Runner", "runMachine", "()I"⟩, 15), (⟨"BreedingHouse$Runner", "runNet", "()I"⟩, 15), (⟨"BreedingHouse$Runner", "exchange", "(II)V"⟩, 15), (⟨"BreedingHouse", "remembered", "()I"⟩, 20), (⟨"BreedingHouse", "needPart", "(I)V"⟩, 20), (⟨"BreedingHouse", "needHow", "(I)V"⟩, 20), (⟨"BreedingHouse$Changer", "editCandidates", "(I)I"⟩, 13), (⟨"BreedingHouse$Changer", "pairCandidates", "()I"⟩, 13)]
theorem lw_r3 : ∀ q ∈ lw_privs_3, lw_okq q := List.forall_mem_cons.mpr ⟨lw_p32, List.forall_mem_cons.mpr ⟨lw_p33, List.forall_mem_cons.mpr ⟨lw_p34, List.forall_mem_cons.mpr ⟨lw_p35, List.forall_mem_cons.mpr ⟨lw_p36, List.forall_mem_cons.mpr ⟨lw_p37, List.forall_mem_cons.mpr ⟨lw_p38, List.forall_mem_cons.mpr ⟨lw_p39, List.forall_mem_cons.mpr ⟨lw_p40, List.forall_mem_cons.mpr ⟨lw_p41, List.forall_mem_cons.mpr ⟨lw_p42, List.forall_mem_cons.mpr ⟨lw_p43, List.forall_mem_cons.mpr ⟨lw_p44, List.forall_mem_cons.mpr ⟨lw_p45, List.forall_mem_cons.mpr ⟨lw_p46, List.forall_mem_cons.mpr ⟨lw_p47, fun _ h => absurd h List.not_mem_nil⟩⟩⟩⟩⟩⟩⟩⟩⟩⟩⟩⟩⟩⟩⟩⟩
theorem lw_p48 : lw_okq (⟨"BreedingHouse$Changer", "nudged", "(III)Z"⟩, 13) := sorry
theorem lw_p49 : lw_okq (⟨"BreedingHouse$Changer", "resorted", "(II)Z"⟩, 13) := sorry
theorem lw_p50 : lw_okq (⟨"BreedingHouse$Changer", "leafFits", "(II)Z"⟩, 13) := sorry
theorem lw_p51 : lw_okq (⟨"BreedingHouse$Changer", "toGraft", "(LBreedingHouse$Program;II)Z"⟩, 13) := sorry
theorem lw_p52 : lw_okq (⟨"BreedingHouse$Changer", "grafted", "(I)Z"⟩, 13) := sorry
theorem lw_p53 : lw_okq (⟨"BreedingHouse$Changer", "partFits", "(II)Z"⟩, 13) := sorry
theorem lw_p54 : lw_okq (⟨"BreedingHouse$Changer", "nodesFit", "(II)Z"⟩, 13) := sorry
theorem lw_p55 : lw_okq (⟨"BreedingHouse$Changer", "reinstructed", "(II)Z"⟩, 13) := sorry
theorem lw_p56 : lw_okq (⟨"BreedingHouse$Changer", "leftOut", "(II)Z"⟩, 13) := sorry
theorem lw_p57 : lw_okq (⟨"BreedingHouse$Changer", "inserted", "(II)Z"⟩, 13) := sorry
theorem lw_p58 : lw_okq (⟨"BreedingHouse$Changer", "joined", "(II)Z"⟩, 13) := sorry
theorem lw_p59 : lw_okq (⟨"BreedingHouse$Changer", "edgeMoved", "(II)Z"⟩, 13) := sorry
theorem lw_p60 : lw_okq (⟨"BreedingHouse$Changer", "stateAdded", "(I)Z"⟩, 13) := sorry
theorem lw_p61 : lw_okq (⟨"BreedingHouse$Changer", "stateLeftOut", "(I)Z"⟩, 13) := sorry
theorem lw_p62 : lw_okq (⟨"BreedingHouse$Changer", "statesMixed", "(I)Z"⟩, 13) := sorry
theorem lw_p63 : lw_okq (⟨"BreedingHouse$Changer", "comparatorPut", "(III)Z"⟩, 13) := sorry
def lw_privs_4 : List (MethodName × Nat) := [(⟨"BreedingHouse$Changer", "nudged", "(III)Z"⟩, 13), (⟨"BreedingHouse$Changer", "resorted", "(II)Z"⟩, 13), (⟨"BreedingHouse$Changer", "leafFits", "(II)Z"⟩, 13), (⟨"BreedingHouse$Changer", "toGraft", "(LBreedingHouse$Program;II)Z"⟩, 13), (⟨"BreedingHouse$Changer", "grafted", "(I)Z"⟩, 13), (⟨"BreedingHouse$Changer", "partFits", "(II)Z"⟩, 13), (⟨"BreedingHouse$Changer", "nodesFit", "(II)Z"⟩, 13), (⟨"BreedingHouse$Changer", "reinstructed", "(II)Z"⟩, 13), (⟨"BreedingHouse$Changer", "leftOut", "(II)Z"⟩, 13), (⟨"BreedingHouse$Changer", "inserted", "(II)Z"⟩, 13), (⟨"BreedingHouse$Changer", "joined", "(II)Z"⟩, 13), (⟨"BreedingHouse$Changer", "edgeMoved", "(II)Z"⟩, 13), (⟨"BreedingHouse$Changer", "stateAdded", "(I)Z"⟩, 13), (⟨"BreedingHouse$Changer", "stateLeftOut", "(I)Z"⟩, 13), (⟨"BreedingHouse$Changer", "statesMixed", "(I)Z"⟩, 13), (⟨"BreedingHouse$Changer", "comparatorPut", "(III)Z"⟩, 13)]
theorem lw_r4 : ∀ q ∈ lw_privs_4, lw_okq q := List.forall_mem_cons.mpr ⟨lw_p48, List.forall_mem_cons.mpr ⟨lw_p49, List.forall_mem_cons.mpr ⟨lw_p50, List.forall_mem_cons.mpr ⟨lw_p51, List.forall_mem_cons.mpr ⟨lw_p52, List.forall_mem_cons.mpr ⟨lw_p53, List.forall_mem_cons.mpr ⟨lw_p54, List.forall_mem_cons.mpr ⟨lw_p55, List.forall_mem_cons.mpr ⟨lw_p56, List.forall_mem_cons.mpr ⟨lw_p57, List.forall_mem_cons.mpr ⟨lw_p58, List.forall_mem_cons.mpr ⟨lw_p59, List.forall_mem_cons.mpr ⟨lw_p60, List.forall_mem_cons.mpr ⟨lw_p61, List.forall_mem_cons.mpr ⟨lw_p62, List.forall_mem_cons.mpr ⟨lw_p63, fun _ h => absurd h List.not_mem_nil⟩⟩⟩⟩⟩⟩⟩⟩⟩⟩⟩⟩⟩⟩⟩⟩
theorem lw_p64 : lw_okq (⟨"BreedingHouse$Changer", "comparatorLeftOut", "(I)Z"⟩, 13) := sorry
theorem lw_p65 : lw_okq (⟨"BreedingHouse$Changer", "comparatorsSwapped", "(I)Z"⟩, 13) := sorry
theorem lw_p66 : lw_okq (⟨"BreedingHouse", "bred", "(IIIJ)I"⟩, 20) := sorry
theorem lw_p67 : lw_okq (⟨"BreedingHouse$Stream", "next", "()J"⟩, 1) := sorry
theorem lw_p68 : lw_okq (⟨"BreedingHouse", "islandAt", "(I)LBreedingHouse$Island;"⟩, 20) := sorry
theorem lw_p69 : lw_okq (⟨"BreedingHouse", "drawProgram", "(LBreedingHouse$Stream;II)V"⟩, 20) := sorry
theorem lw_p70 : lw_okq (⟨"BreedingHouse", "drawMachine", "(LBreedingHouse$Stream;I)V"⟩, 20) := sorry
theorem lw_p71 : lw_okq (⟨"BreedingHouse", "drawNet", "(LBreedingHouse$Stream;I)V"⟩, 20) := sorry
theorem lw_p72 : lw_okq (⟨"BreedingHouse$Turner", "emit", "(II)Z"⟩, 11) := sorry
theorem lw_p73 : lw_okq (⟨"BreedingHouse$Turner", "emitAnd", "(II)Z"⟩, 11) := sorry
theorem lw_p74 : lw_okq (⟨"BreedingHouse$Turner", "emitOr", "(II)Z"⟩, 11) := sorry
theorem lw_p75 : lw_okq (⟨"BreedingHouse$Turner", "emitIf", "(II)Z"⟩, 11) := sorry
theorem lw_p76 : lw_okq (⟨"BreedingHouse", "memberAt", "(LBreedingHouse$Island;I)I"⟩, 20) := sorry
theorem lw_p77 : lw_okq (⟨"BreedingHouse", "generation", "(LBreedingHouse$Island;I)V"⟩, 20) := sorry
theorem lw_p78 : lw_okq (⟨"BreedingHouse$Island", "better", "(II)Z"⟩, 10) := sorry
theorem lw_p79 : lw_okq (⟨"BreedingHouse$Island", "tournamentPlace", "(I)I"⟩, 10) := sorry
def lw_privs_5 : List (MethodName × Nat) := [(⟨"BreedingHouse$Changer", "comparatorLeftOut", "(I)Z"⟩, 13), (⟨"BreedingHouse$Changer", "comparatorsSwapped", "(I)Z"⟩, 13), (⟨"BreedingHouse", "bred", "(IIIJ)I"⟩, 20), (⟨"BreedingHouse$Stream", "next", "()J"⟩, 1), (⟨"BreedingHouse", "islandAt", "(I)LBreedingHouse$Island;"⟩, 20), (⟨"BreedingHouse", "drawProgram", "(LBreedingHouse$Stream;II)V"⟩, 20), (⟨"BreedingHouse", "drawMachine", "(LBreedingHouse$Stream;I)V"⟩, 20), (⟨"BreedingHouse", "drawNet", "(LBreedingHouse$Stream;I)V"⟩, 20), (⟨"BreedingHouse$Turner", "emit", "(II)Z"⟩, 11), (⟨"BreedingHouse$Turner", "emitAnd", "(II)Z"⟩, 11), (⟨"BreedingHouse$Turner", "emitOr", "(II)Z"⟩, 11), (⟨"BreedingHouse$Turner", "emitIf", "(II)Z"⟩, 11), (⟨"BreedingHouse", "memberAt", "(LBreedingHouse$Island;I)I"⟩, 20), (⟨"BreedingHouse", "generation", "(LBreedingHouse$Island;I)V"⟩, 20), (⟨"BreedingHouse$Island", "better", "(II)Z"⟩, 10), (⟨"BreedingHouse$Island", "tournamentPlace", "(I)I"⟩, 10)]
theorem lw_r5 : ∀ q ∈ lw_privs_5, lw_okq q := List.forall_mem_cons.mpr ⟨lw_p64, List.forall_mem_cons.mpr ⟨lw_p65, List.forall_mem_cons.mpr ⟨lw_p66, List.forall_mem_cons.mpr ⟨lw_p67, List.forall_mem_cons.mpr ⟨lw_p68, List.forall_mem_cons.mpr ⟨lw_p69, List.forall_mem_cons.mpr ⟨lw_p70, List.forall_mem_cons.mpr ⟨lw_p71, List.forall_mem_cons.mpr ⟨lw_p72, List.forall_mem_cons.mpr ⟨lw_p73, List.forall_mem_cons.mpr ⟨lw_p74, List.forall_mem_cons.mpr ⟨lw_p75, List.forall_mem_cons.mpr ⟨lw_p76, List.forall_mem_cons.mpr ⟨lw_p77, List.forall_mem_cons.mpr ⟨lw_p78, List.forall_mem_cons.mpr ⟨lw_p79, fun _ h => absurd h List.not_mem_nil⟩⟩⟩⟩⟩⟩⟩⟩⟩⟩⟩⟩⟩⟩⟩⟩
theorem lw_p80 : lw_okq (⟨"BreedingHouse$Island", "casesPlace", "()I"⟩, 10) := sorry
theorem lw_p81 : lw_okq (⟨"BreedingHouse$Island", "narrowed", "(II)I"⟩, 10) := sorry
theorem lw_p82 : lw_okq (⟨"BreedingHouse$Island", "leastOf", "(I)I"⟩, 10) := sorry
theorem lw_p83 : lw_okq (⟨"BreedingHouse$Island", "frontSize", "()I"⟩, 10) := sorry
theorem lw_p84 : lw_okq (⟨"BreedingHouse$Island", "inFront", "(I)Z"⟩, 10) := sorry
theorem lw_p85 : lw_okq (⟨"BreedingHouse$Island", "wins", "(III)I"⟩, 10) := sorry
theorem lw_p86 : lw_okq (⟨"BreedingHouse", "markLine", "(II)V"⟩, 20) := sorry
theorem lw_p87 : lw_okq (⟨"BreedingHouse", "mark", "(II)V"⟩, 20) := sorry
theorem lw_p88 : lw_okq (⟨"BreedingHouse$Ranks", "sweepLeaves", "(Z)I"⟩, 9) := sorry
theorem lw_p89 : lw_okq (⟨"BreedingHouse$Ranks", "right", "(IIIIZ)Z"⟩, 9) := sorry
theorem lw_p90 : lw_okq (⟨"BreedingHouse$Ranks", "outcome", "(IIII)J"⟩, 9) := sorry
theorem lw_p91 : lw_okq (⟨"BreedingHouse$Ranks", "sweep", "(IZ)I"⟩, 9) := sorry
theorem lw_p92 : lw_okq (⟨"BreedingHouse$Rules", "simplifyOnce", "(LBreedingHouse$Program;Z)Z"⟩, 7) := sorry
theorem lw_p93 : lw_okq (⟨"BreedingHouse$Rules", "fitting", "(II)I"⟩, 7) := sorry
theorem lw_p94 : lw_okq (⟨"BreedingHouse$Rules", "worked", "(III)I"⟩, 7) := sorry
theorem lw_p95 : lw_okq (⟨"BreedingHouse$Rules", "isConstant", "(I)Z"⟩, 7) := sorry
def lw_privs_6 : List (MethodName × Nat) := [(⟨"BreedingHouse$Island", "casesPlace", "()I"⟩, 10), (⟨"BreedingHouse$Island", "narrowed", "(II)I"⟩, 10), (⟨"BreedingHouse$Island", "leastOf", "(I)I"⟩, 10), (⟨"BreedingHouse$Island", "frontSize", "()I"⟩, 10), (⟨"BreedingHouse$Island", "inFront", "(I)Z"⟩, 10), (⟨"BreedingHouse$Island", "wins", "(III)I"⟩, 10), (⟨"BreedingHouse", "markLine", "(II)V"⟩, 20), (⟨"BreedingHouse", "mark", "(II)V"⟩, 20), (⟨"BreedingHouse$Ranks", "sweepLeaves", "(Z)I"⟩, 9), (⟨"BreedingHouse$Ranks", "right", "(IIIIZ)Z"⟩, 9), (⟨"BreedingHouse$Ranks", "outcome", "(IIII)J"⟩, 9), (⟨"BreedingHouse$Ranks", "sweep", "(IZ)I"⟩, 9), (⟨"BreedingHouse$Rules", "simplifyOnce", "(LBreedingHouse$Program;Z)Z"⟩, 7), (⟨"BreedingHouse$Rules", "fitting", "(II)I"⟩, 7), (⟨"BreedingHouse$Rules", "worked", "(III)I"⟩, 7), (⟨"BreedingHouse$Rules", "isConstant", "(I)Z"⟩, 7)]
theorem lw_r6 : ∀ q ∈ lw_privs_6, lw_okq q := List.forall_mem_cons.mpr ⟨lw_p80, List.forall_mem_cons.mpr ⟨lw_p81, List.forall_mem_cons.mpr ⟨lw_p82, List.forall_mem_cons.mpr ⟨lw_p83, List.forall_mem_cons.mpr ⟨lw_p84, List.forall_mem_cons.mpr ⟨lw_p85, List.forall_mem_cons.mpr ⟨lw_p86, List.forall_mem_cons.mpr ⟨lw_p87, List.forall_mem_cons.mpr ⟨lw_p88, List.forall_mem_cons.mpr ⟨lw_p89, List.forall_mem_cons.mpr ⟨lw_p90, List.forall_mem_cons.mpr ⟨lw_p91, List.forall_mem_cons.mpr ⟨lw_p92, List.forall_mem_cons.mpr ⟨lw_p93, List.forall_mem_cons.mpr ⟨lw_p94, List.forall_mem_cons.mpr ⟨lw_p95, fun _ h => absurd h List.not_mem_nil⟩⟩⟩⟩⟩⟩⟩⟩⟩⟩⟩⟩⟩⟩⟩⟩
theorem lw_p96 : lw_okq (⟨"BreedingHouse$Rules", "becomes", "(I)I"⟩, 7) := sorry
theorem lw_p97 : lw_okq (⟨"BreedingHouse$Rules", "neutral", "(III)I"⟩, 7) := sorry
theorem lw_p98 : lw_okq (⟨"BreedingHouse$Rules", "is", "(II)Z"⟩, 7) := sorry
theorem lw_p99 : lw_okq (⟨"BreedingHouse$Rules", "decided", "(III)I"⟩, 7) := sorry
theorem lw_p100 : lw_okq (⟨"BreedingHouse$Rules", "safe", "(I)Z"⟩, 7) := sorry
theorem lw_p101 : lw_okq (⟨"BreedingHouse$Rules", "alike", "(II)Z"⟩, 7) := sorry
theorem lw_p102 : lw_okq (⟨"BreedingHouse$Rules", "selfSame", "(III)I"⟩, 7) := sorry
theorem lw_p103 : lw_okq (⟨"BreedingHouse$Rules", "replace", "(II)V"⟩, 7) := sorry
theorem lw_p104 : lw_okq (⟨"BreedingHouse$Turner", "tellWay", "(I[I)V"⟩, 11) := ⟨⟨by decide +kernel, by decide +kernel⟩, List.mem_of_getElem? (i := 479) (by decide +kernel), List.mem_of_getElem? (i := 1924) (by decide +kernel), List.mem_of_getElem? (i := 1925) (by decide +kernel)⟩
theorem lw_p105 : lw_okq (⟨"BreedingHouse$Turner", "laid", "(II)Z"⟩, 11) := sorry
theorem lw_p106 : lw_okq (⟨"BreedingHouse", "shownUnlike", "(LBreedingHouse$Program;LBreedingHouse$Program;)Z"⟩, 20) := sorry
theorem lw_p107 : lw_okq (⟨"BreedingHouse", "keepUnlike", "([II)Z"⟩, 20) := ⟨⟨by decide +kernel, by decide +kernel⟩, List.mem_of_getElem? (i := 31) (by decide +kernel), List.mem_of_getElem? (i := 1964) (by decide +kernel), List.mem_of_getElem? (i := 1965) (by decide +kernel)⟩
theorem lw_p108 : lw_okq (⟨"BreedingHouse", "cutOnce", "(I)Z"⟩, 20) := sorry
theorem lw_p109 : lw_okq (⟨"BreedingHouse$Turner", "tellApart", "(LBreedingHouse$Program;)V"⟩, 11) := sorry
theorem lw_p110 : lw_okq (⟨"BreedingHouse$Turner", "standIn", "(LBreedingHouse$Program;I)I"⟩, 11) := sorry
theorem lw_p111 : lw_okq (⟨"BreedingHouse", "netAt", "(I)LBreedingHouse$Program;"⟩, 20) := sorry
def lw_privs_7 : List (MethodName × Nat) := [(⟨"BreedingHouse$Rules", "becomes", "(I)I"⟩, 7), (⟨"BreedingHouse$Rules", "neutral", "(III)I"⟩, 7), (⟨"BreedingHouse$Rules", "is", "(II)Z"⟩, 7), (⟨"BreedingHouse$Rules", "decided", "(III)I"⟩, 7), (⟨"BreedingHouse$Rules", "safe", "(I)Z"⟩, 7), (⟨"BreedingHouse$Rules", "alike", "(II)Z"⟩, 7), (⟨"BreedingHouse$Rules", "selfSame", "(III)I"⟩, 7), (⟨"BreedingHouse$Rules", "replace", "(II)V"⟩, 7), (⟨"BreedingHouse$Turner", "tellWay", "(I[I)V"⟩, 11), (⟨"BreedingHouse$Turner", "laid", "(II)Z"⟩, 11), (⟨"BreedingHouse", "shownUnlike", "(LBreedingHouse$Program;LBreedingHouse$Program;)Z"⟩, 20), (⟨"BreedingHouse", "keepUnlike", "([II)Z"⟩, 20), (⟨"BreedingHouse", "cutOnce", "(I)Z"⟩, 20), (⟨"BreedingHouse$Turner", "tellApart", "(LBreedingHouse$Program;)V"⟩, 11), (⟨"BreedingHouse$Turner", "standIn", "(LBreedingHouse$Program;I)I"⟩, 11), (⟨"BreedingHouse", "netAt", "(I)LBreedingHouse$Program;"⟩, 20)]
theorem lw_r7 : ∀ q ∈ lw_privs_7, lw_okq q := List.forall_mem_cons.mpr ⟨lw_p96, List.forall_mem_cons.mpr ⟨lw_p97, List.forall_mem_cons.mpr ⟨lw_p98, List.forall_mem_cons.mpr ⟨lw_p99, List.forall_mem_cons.mpr ⟨lw_p100, List.forall_mem_cons.mpr ⟨lw_p101, List.forall_mem_cons.mpr ⟨lw_p102, List.forall_mem_cons.mpr ⟨lw_p103, List.forall_mem_cons.mpr ⟨lw_p104, List.forall_mem_cons.mpr ⟨lw_p105, List.forall_mem_cons.mpr ⟨lw_p106, List.forall_mem_cons.mpr ⟨lw_p107, List.forall_mem_cons.mpr ⟨lw_p108, List.forall_mem_cons.mpr ⟨lw_p109, List.forall_mem_cons.mpr ⟨lw_p110, List.forall_mem_cons.mpr ⟨lw_p111, fun _ h => absurd h List.not_mem_nil⟩⟩⟩⟩⟩⟩⟩⟩⟩⟩⟩⟩⟩⟩⟩⟩
theorem lw_p112 : lw_okq (⟨"BreedingHouseModel", "readTree", "()V"⟩, 138) := sorry
theorem lw_p113 : lw_okq (⟨"BreedingHouseModel", "readNode", "()Z"⟩, 138) := sorry
theorem lw_p114 : lw_okq (⟨"BreedingHouseModel", "fail", "(I)Z"⟩, 138) := sorry
theorem lw_p115 : lw_okq (⟨"BreedingHouseModel", "byteAt", "(I)I"⟩, 138) := sorry
theorem lw_p116 : lw_okq (⟨"BreedingHouseModel", "lay", "(II)V"⟩, 138) := sorry
theorem lw_p117 : lw_okq (⟨"BreedingHouseModel", "need", "(I)Z"⟩, 138) := sorry
theorem lw_p118 : lw_okq (⟨"BreedingHouseModel", "readAgain", "()Z"⟩, 138) := sorry
theorem lw_p119 : lw_okq (⟨"BreedingHouseModel", "isDigit", "(I)Z"⟩, 138) := sorry
theorem lw_p120 : lw_okq (⟨"BreedingHouseModel", "constant", "()Z"⟩, 138) := sorry
theorem lw_p121 : lw_okq (⟨"BreedingHouseModel", "digits", "()Z"⟩, 138) := sorry
theorem lw_p122 : lw_okq (⟨"BreedingHouseModel", "closes", "()Z"⟩, 138) := sorry
theorem lw_p123 : lw_okq (⟨"BreedingHouseModel", "readCode", "()V"⟩, 138) := sorry
theorem lw_p124 : lw_okq (⟨"BreedingHouseModel", "readInstruction", "()Z"⟩, 138) := sorry
theorem lw_p125 : lw_okq (⟨"BreedingHouseModel", "wrongAt", "()I"⟩, 138) := sorry
theorem lw_p126 : lw_okq (⟨"BreedingHouseModel", "reaches", "(II)Z"⟩, 138) := sorry
theorem lw_p127 : lw_okq (⟨"BreedingHouseModel", "readMachine", "()V"⟩, 138) := sorry
def lw_privs_8 : List (MethodName × Nat) := [(⟨"BreedingHouseModel", "readTree", "()V"⟩, 138), (⟨"BreedingHouseModel", "readNode", "()Z"⟩, 138), (⟨"BreedingHouseModel", "fail", "(I)Z"⟩, 138), (⟨"BreedingHouseModel", "byteAt", "(I)I"⟩, 138), (⟨"BreedingHouseModel", "lay", "(II)V"⟩, 138), (⟨"BreedingHouseModel", "need", "(I)Z"⟩, 138), (⟨"BreedingHouseModel", "readAgain", "()Z"⟩, 138), (⟨"BreedingHouseModel", "isDigit", "(I)Z"⟩, 138), (⟨"BreedingHouseModel", "constant", "()Z"⟩, 138), (⟨"BreedingHouseModel", "digits", "()Z"⟩, 138), (⟨"BreedingHouseModel", "closes", "()Z"⟩, 138), (⟨"BreedingHouseModel", "readCode", "()V"⟩, 138), (⟨"BreedingHouseModel", "readInstruction", "()Z"⟩, 138), (⟨"BreedingHouseModel", "wrongAt", "()I"⟩, 138), (⟨"BreedingHouseModel", "reaches", "(II)Z"⟩, 138), (⟨"BreedingHouseModel", "readMachine", "()V"⟩, 138)]
theorem lw_r8 : ∀ q ∈ lw_privs_8, lw_okq q := List.forall_mem_cons.mpr ⟨lw_p112, List.forall_mem_cons.mpr ⟨lw_p113, List.forall_mem_cons.mpr ⟨lw_p114, List.forall_mem_cons.mpr ⟨lw_p115, List.forall_mem_cons.mpr ⟨lw_p116, List.forall_mem_cons.mpr ⟨lw_p117, List.forall_mem_cons.mpr ⟨lw_p118, List.forall_mem_cons.mpr ⟨lw_p119, List.forall_mem_cons.mpr ⟨lw_p120, List.forall_mem_cons.mpr ⟨lw_p121, List.forall_mem_cons.mpr ⟨lw_p122, List.forall_mem_cons.mpr ⟨lw_p123, List.forall_mem_cons.mpr ⟨lw_p124, List.forall_mem_cons.mpr ⟨lw_p125, List.forall_mem_cons.mpr ⟨lw_p126, List.forall_mem_cons.mpr ⟨lw_p127, fun _ h => absurd h List.not_mem_nil⟩⟩⟩⟩⟩⟩⟩⟩⟩⟩⟩⟩⟩⟩⟩⟩
theorem lw_p128 : lw_okq (⟨"BreedingHouseModel", "readState", "()Z"⟩, 138) := sorry
theorem lw_p129 : lw_okq (⟨"BreedingHouseModel", "readNet", "()V"⟩, 138) := sorry
theorem lw_p130 : lw_okq (⟨"BreedingHouseModel", "readPair", "()Z"⟩, 138) := sorry
theorem lw_p131 : lw_okq (⟨"BreedingHouseModel", "born", "(IIIIIJ)I"⟩, 138) := sorry
theorem lw_p132 : lw_okq (⟨"BreedingHouseModel", "isBirth", "(I)Z"⟩, 138) := sorry
theorem lw_p133 : lw_okq (⟨"BreedingHouseModel", "load", "(I)V"⟩, 138) := sorry
theorem lw_p134 : lw_okq (⟨"BreedingHouseModel", "print", "()V"⟩, 138) := sorry
theorem lw_p135 : lw_okq (⟨"BreedingHouseModel", "sayTree", "()V"⟩, 138) := sorry
theorem lw_p136 : lw_okq (⟨"BreedingHouseModel", "say", "(I)V"⟩, 138) := sorry
theorem lw_p137 : lw_okq (⟨"BreedingHouseModel", "sayNumber", "(I)V"⟩, 138) := sorry
theorem lw_p138 : lw_okq (⟨"BreedingHouseModel", "sayEnds", "()V"⟩, 138) := sorry
theorem lw_p139 : lw_okq (⟨"BreedingHouseModel", "depthOf", "(I)I"⟩, 138) := sorry
theorem lw_p140 : lw_okq (⟨"BreedingHouseModel", "isDesk", "(I)Z"⟩, 138) := sorry
theorem lw_p141 : lw_okq (⟨"BreedingHouseModel", "countAll", "()V"⟩, 138) := sorry
theorem lw_p142 : lw_okq (⟨"BreedingHouseModel", "reckoned", "(III)J"⟩, 138) := sorry
theorem lw_p143 : lw_okq (⟨"BreedingHouseModel", "manySplit", "(IIIII)J"⟩, 138) := sorry
def lw_privs_9 : List (MethodName × Nat) := [(⟨"BreedingHouseModel", "readState", "()Z"⟩, 138), (⟨"BreedingHouseModel", "readNet", "()V"⟩, 138), (⟨"BreedingHouseModel", "readPair", "()Z"⟩, 138), (⟨"BreedingHouseModel", "born", "(IIIIIJ)I"⟩, 138), (⟨"BreedingHouseModel", "isBirth", "(I)Z"⟩, 138), (⟨"BreedingHouseModel", "load", "(I)V"⟩, 138), (⟨"BreedingHouseModel", "print", "()V"⟩, 138), (⟨"BreedingHouseModel", "sayTree", "()V"⟩, 138), (⟨"BreedingHouseModel", "say", "(I)V"⟩, 138), (⟨"BreedingHouseModel", "sayNumber", "(I)V"⟩, 138), (⟨"BreedingHouseModel", "sayEnds", "()V"⟩, 138), (⟨"BreedingHouseModel", "depthOf", "(I)I"⟩, 138), (⟨"BreedingHouseModel", "isDesk", "(I)Z"⟩, 138), (⟨"BreedingHouseModel", "countAll", "()V"⟩, 138), (⟨"BreedingHouseModel", "reckoned", "(III)J"⟩, 138), (⟨"BreedingHouseModel", "manySplit", "(IIIII)J"⟩, 138)]
theorem lw_r9 : ∀ q ∈ lw_privs_9, lw_okq q := List.forall_mem_cons.mpr ⟨lw_p128, List.forall_mem_cons.mpr ⟨lw_p129, List.forall_mem_cons.mpr ⟨lw_p130, List.forall_mem_cons.mpr ⟨lw_p131, List.forall_mem_cons.mpr ⟨lw_p132, List.forall_mem_cons.mpr ⟨lw_p133, List.forall_mem_cons.mpr ⟨lw_p134, List.forall_mem_cons.mpr ⟨lw_p135, List.forall_mem_cons.mpr ⟨lw_p136, List.forall_mem_cons.mpr ⟨lw_p137, List.forall_mem_cons.mpr ⟨lw_p138, List.forall_mem_cons.mpr ⟨lw_p139, List.forall_mem_cons.mpr ⟨lw_p140, List.forall_mem_cons.mpr ⟨lw_p141, List.forall_mem_cons.mpr ⟨lw_p142, List.forall_mem_cons.mpr ⟨lw_p143, fun _ h => absurd h List.not_mem_nil⟩⟩⟩⟩⟩⟩⟩⟩⟩⟩⟩⟩⟩⟩⟩⟩
theorem lw_p144 : lw_okq (⟨"BreedingHouseModel", "many", "(III)J"⟩, 138) := sorry
theorem lw_p145 : lw_okq (⟨"BreedingHouseModel", "manyOf", "(III)J"⟩, 138) := sorry
theorem lw_p146 : lw_okq (⟨"BreedingHouseModel", "grow", "(IIIJ)V"⟩, 138) := sorry
theorem lw_p147 : lw_okq (⟨"BreedingHouseModel", "later", "(IIIJ)V"⟩, 138) := sorry
theorem lw_p148 : lw_okq (⟨"BreedingHouseModel", "growOne", "(IIIJ)V"⟩, 138) := sorry
theorem lw_p149 : lw_okq (⟨"BreedingHouseModel", "growParts", "(IIIIIJ)V"⟩, 138) := sorry
theorem lw_p150 : lw_okq (⟨"BreedingHouseModel", "loadA", "(I)V"⟩, 138) := sorry
theorem lw_p151 : lw_okq (⟨"BreedingHouseModel", "measure", "()V"⟩, 138) := sorry
theorem lw_p152 : lw_okq (⟨"BreedingHouseModel", "partA", "(II)I"⟩, 138) := sorry
theorem lw_p153 : lw_okq (⟨"BreedingHouseModel", "placeOf", "(I)J"⟩, 138) := sorry
theorem lw_p154 : lw_okq (⟨"BreedingHouseModel", "isCase", "(I)Z"⟩, 138) := sorry
theorem lw_p155 : lw_okq (⟨"BreedingHouseModel", "askCase", "(I)V"⟩, 138) := sorry
theorem lw_p156 : lw_okq (⟨"BreedingHouseModel", "go", "()V"⟩, 138) := sorry
theorem lw_p157 : lw_okq (⟨"BreedingHouseModel", "goTree", "()V"⟩, 138) := sorry
theorem lw_p158 : lw_okq (⟨"BreedingHouseModel", "spanDesk", "()V"⟩, 138) := sorry
theorem lw_p159 : lw_okq (⟨"BreedingHouseModel", "enter", "(I)V"⟩, 138) := sorry
def lw_privs_10 : List (MethodName × Nat) := [(⟨"BreedingHouseModel", "many", "(III)J"⟩, 138), (⟨"BreedingHouseModel", "manyOf", "(III)J"⟩, 138), (⟨"BreedingHouseModel", "grow", "(IIIJ)V"⟩, 138), (⟨"BreedingHouseModel", "later", "(IIIJ)V"⟩, 138), (⟨"BreedingHouseModel", "growOne", "(IIIJ)V"⟩, 138), (⟨"BreedingHouseModel", "growParts", "(IIIIIJ)V"⟩, 138), (⟨"BreedingHouseModel", "loadA", "(I)V"⟩, 138), (⟨"BreedingHouseModel", "measure", "()V"⟩, 138), (⟨"BreedingHouseModel", "partA", "(II)I"⟩, 138), (⟨"BreedingHouseModel", "placeOf", "(I)J"⟩, 138), (⟨"BreedingHouseModel", "isCase", "(I)Z"⟩, 138), (⟨"BreedingHouseModel", "askCase", "(I)V"⟩, 138), (⟨"BreedingHouseModel", "go", "()V"⟩, 138), (⟨"BreedingHouseModel", "goTree", "()V"⟩, 138), (⟨"BreedingHouseModel", "spanDesk", "()V"⟩, 138), (⟨"BreedingHouseModel", "enter", "(I)V"⟩, 138)]
theorem lw_r10 : ∀ q ∈ lw_privs_10, lw_okq q := List.forall_mem_cons.mpr ⟨lw_p144, List.forall_mem_cons.mpr ⟨lw_p145, List.forall_mem_cons.mpr ⟨lw_p146, List.forall_mem_cons.mpr ⟨lw_p147, List.forall_mem_cons.mpr ⟨lw_p148, List.forall_mem_cons.mpr ⟨lw_p149, List.forall_mem_cons.mpr ⟨lw_p150, List.forall_mem_cons.mpr ⟨lw_p151, List.forall_mem_cons.mpr ⟨lw_p152, List.forall_mem_cons.mpr ⟨lw_p153, List.forall_mem_cons.mpr ⟨lw_p154, List.forall_mem_cons.mpr ⟨lw_p155, List.forall_mem_cons.mpr ⟨lw_p156, List.forall_mem_cons.mpr ⟨lw_p157, List.forall_mem_cons.mpr ⟨lw_p158, List.forall_mem_cons.mpr ⟨lw_p159, fun _ h => absurd h List.not_mem_nil⟩⟩⟩⟩⟩⟩⟩⟩⟩⟩⟩⟩⟩⟩⟩⟩
theorem lw_p160 : lw_okq (⟨"BreedingHouseModel", "steps", "()Z"⟩, 138) := sorry
theorem lw_p161 : lw_okq (⟨"BreedingHouseModel", "leaf", "(II)I"⟩, 138) := sorry
theorem lw_p162 : lw_okq (⟨"BreedingHouseModel", "leave", "(I)V"⟩, 138) := sorry
theorem lw_p163 : lw_okq (⟨"BreedingHouseModel", "part", "(III)V"⟩, 138) := sorry
theorem lw_p164 : lw_okq (⟨"BreedingHouseModel", "rowAt", "(I)I"⟩, 138) := sorry
theorem lw_p165 : lw_okq (⟨"BreedingHouseModel", "second", "(I)I"⟩, 138) := sorry
theorem lw_p166 : lw_okq (⟨"BreedingHouseModel", "joined", "(III)I"⟩, 138) := sorry
theorem lw_p167 : lw_okq (⟨"BreedingHouseModel", "fold", "(III)V"⟩, 138) := sorry
theorem lw_p168 : lw_okq (⟨"BreedingHouseModel", "goCode", "()V"⟩, 138) := sorry
theorem lw_p169 : lw_okq (⟨"BreedingHouseModel", "goMachine", "()V"⟩, 138) := sorry
theorem lw_p170 : lw_okq (⟨"BreedingHouseModel", "goNet", "()V"⟩, 138) := sorry
theorem lw_p171 : lw_okq (⟨"BreedingHouseModel", "exchange", "(I)Z"⟩, 138) := sorry
theorem lw_p172 : lw_okq (⟨"BreedingHouseModel", "tellRun", "()I"⟩, 138) := sorry
theorem lw_p173 : lw_okq (⟨"BreedingHouseModel", "askRow", "(III)V"⟩, 138) := sorry
theorem lw_p174 : lw_okq (⟨"BreedingHouseModel", "errorAt", "(I)J"⟩, 138) := sorry
theorem lw_p175 : lw_okq (⟨"BreedingHouseModel", "judge", "(Z)V"⟩, 138) := sorry
def lw_privs_11 : List (MethodName × Nat) := [(⟨"BreedingHouseModel", "steps", "()Z"⟩, 138), (⟨"BreedingHouseModel", "leaf", "(II)I"⟩, 138), (⟨"BreedingHouseModel", "leave", "(I)V"⟩, 138), (⟨"BreedingHouseModel", "part", "(III)V"⟩, 138), (⟨"BreedingHouseModel", "rowAt", "(I)I"⟩, 138), (⟨"BreedingHouseModel", "second", "(I)I"⟩, 138), (⟨"BreedingHouseModel", "joined", "(III)I"⟩, 138), (⟨"BreedingHouseModel", "fold", "(III)V"⟩, 138), (⟨"BreedingHouseModel", "goCode", "()V"⟩, 138), (⟨"BreedingHouseModel", "goMachine", "()V"⟩, 138), (⟨"BreedingHouseModel", "goNet", "()V"⟩, 138), (⟨"BreedingHouseModel", "exchange", "(I)Z"⟩, 138), (⟨"BreedingHouseModel", "tellRun", "()I"⟩, 138), (⟨"BreedingHouseModel", "askRow", "(III)V"⟩, 138), (⟨"BreedingHouseModel", "errorAt", "(I)J"⟩, 138), (⟨"BreedingHouseModel", "judge", "(Z)V"⟩, 138)]
theorem lw_r11 : ∀ q ∈ lw_privs_11, lw_okq q := List.forall_mem_cons.mpr ⟨lw_p160, List.forall_mem_cons.mpr ⟨lw_p161, List.forall_mem_cons.mpr ⟨lw_p162, List.forall_mem_cons.mpr ⟨lw_p163, List.forall_mem_cons.mpr ⟨lw_p164, List.forall_mem_cons.mpr ⟨lw_p165, List.forall_mem_cons.mpr ⟨lw_p166, List.forall_mem_cons.mpr ⟨lw_p167, List.forall_mem_cons.mpr ⟨lw_p168, List.forall_mem_cons.mpr ⟨lw_p169, List.forall_mem_cons.mpr ⟨lw_p170, List.forall_mem_cons.mpr ⟨lw_p171, List.forall_mem_cons.mpr ⟨lw_p172, List.forall_mem_cons.mpr ⟨lw_p173, List.forall_mem_cons.mpr ⟨lw_p174, List.forall_mem_cons.mpr ⟨lw_p175, fun _ h => absurd h List.not_mem_nil⟩⟩⟩⟩⟩⟩⟩⟩⟩⟩⟩⟩⟩⟩⟩⟩
theorem lw_p176 : lw_okq (⟨"BreedingHouseModel", "lowest", "()V"⟩, 138) := sorry
theorem lw_p177 : lw_okq (⟨"BreedingHouseModel", "lessPart", "(JJJJI)J"⟩, 138) := sorry
theorem lw_p178 : lw_okq (⟨"BreedingHouseModel", "better", "(II)I"⟩, 138) := sorry
theorem lw_p179 : lw_okq (⟨"BreedingHouseModel", "editA", "(II)I"⟩, 138) := sorry
theorem lw_p180 : lw_okq (⟨"BreedingHouseModel", "editConstants", "()V"⟩, 138) := sorry
theorem lw_p181 : lw_okq (⟨"BreedingHouseModel", "tryConstant", "(II)Z"⟩, 138) := sorry
theorem lw_p182 : lw_okq (⟨"BreedingHouseModel", "fromA", "()V"⟩, 138) := sorry
theorem lw_p183 : lw_okq (⟨"BreedingHouseModel", "copyA", "(II)V"⟩, 138) := sorry
theorem lw_p184 : lw_okq (⟨"BreedingHouseModel", "counts", "()Z"⟩, 138) := sorry
theorem lw_p185 : lw_okq (⟨"BreedingHouseModel", "isSound", "()Z"⟩, 138) := sorry
theorem lw_p186 : lw_okq (⟨"BreedingHouseModel", "isTree", "(ZZ)Z"⟩, 138) := sorry
theorem lw_p187 : lw_okq (⟨"BreedingHouseModel", "editSorts", "()V"⟩, 138) := sorry
theorem lw_p188 : lw_okq (⟨"BreedingHouseModel", "editLeaves", "()V"⟩, 138) := sorry
theorem lw_p189 : lw_okq (⟨"BreedingHouseModel", "tryLeaf", "(III)Z"⟩, 138) := sorry
theorem lw_p190 : lw_okq (⟨"BreedingHouseModel", "begin", "()V"⟩, 138) := sorry
theorem lw_p191 : lw_okq (⟨"BreedingHouseModel", "editParts", "()V"⟩, 138) := sorry
def lw_privs_12 : List (MethodName × Nat) := [(⟨"BreedingHouseModel", "lowest", "()V"⟩, 138), (⟨"BreedingHouseModel", "lessPart", "(JJJJI)J"⟩, 138), (⟨"BreedingHouseModel", "better", "(II)I"⟩, 138), (⟨"BreedingHouseModel", "editA", "(II)I"⟩, 138), (⟨"BreedingHouseModel", "editConstants", "()V"⟩, 138), (⟨"BreedingHouseModel", "tryConstant", "(II)Z"⟩, 138), (⟨"BreedingHouseModel", "fromA", "()V"⟩, 138), (⟨"BreedingHouseModel", "copyA", "(II)V"⟩, 138), (⟨"BreedingHouseModel", "counts", "()Z"⟩, 138), (⟨"BreedingHouseModel", "isSound", "()Z"⟩, 138), (⟨"BreedingHouseModel", "isTree", "(ZZ)Z"⟩, 138), (⟨"BreedingHouseModel", "editSorts", "()V"⟩, 138), (⟨"BreedingHouseModel", "editLeaves", "()V"⟩, 138), (⟨"BreedingHouseModel", "tryLeaf", "(III)Z"⟩, 138), (⟨"BreedingHouseModel", "begin", "()V"⟩, 138), (⟨"BreedingHouseModel", "editParts", "()V"⟩, 138)]
theorem lw_r12 : ∀ q ∈ lw_privs_12, lw_okq q := List.forall_mem_cons.mpr ⟨lw_p176, List.forall_mem_cons.mpr ⟨lw_p177, List.forall_mem_cons.mpr ⟨lw_p178, List.forall_mem_cons.mpr ⟨lw_p179, List.forall_mem_cons.mpr ⟨lw_p180, List.forall_mem_cons.mpr ⟨lw_p181, List.forall_mem_cons.mpr ⟨lw_p182, List.forall_mem_cons.mpr ⟨lw_p183, List.forall_mem_cons.mpr ⟨lw_p184, List.forall_mem_cons.mpr ⟨lw_p185, List.forall_mem_cons.mpr ⟨lw_p186, List.forall_mem_cons.mpr ⟨lw_p187, List.forall_mem_cons.mpr ⟨lw_p188, List.forall_mem_cons.mpr ⟨lw_p189, List.forall_mem_cons.mpr ⟨lw_p190, List.forall_mem_cons.mpr ⟨lw_p191, fun _ h => absurd h List.not_mem_nil⟩⟩⟩⟩⟩⟩⟩⟩⟩⟩⟩⟩⟩⟩⟩⟩
theorem lw_p192 : lw_okq (⟨"BreedingHouseModel", "editSigns", "()V"⟩, 138) := sorry
theorem lw_p193 : lw_okq (⟨"BreedingHouseModel", "editOut", "()V"⟩, 138) := sorry
theorem lw_p194 : lw_okq (⟨"BreedingHouseModel", "without", "(II)Z"⟩, 138) := sorry
theorem lw_p195 : lw_okq (⟨"BreedingHouseModel", "editIn", "()V"⟩, 138) := sorry
theorem lw_p196 : lw_okq (⟨"BreedingHouseModel", "with", "(II)V"⟩, 138) := sorry
theorem lw_p197 : lw_okq (⟨"BreedingHouseModel", "come", "(I)V"⟩, 138) := sorry
theorem lw_p198 : lw_okq (⟨"BreedingHouseModel", "editOutputs", "()V"⟩, 138) := sorry
theorem lw_p199 : lw_okq (⟨"BreedingHouseModel", "tryOutput", "(II)Z"⟩, 138) := sorry
theorem lw_p200 : lw_okq (⟨"BreedingHouseModel", "editEdges", "()V"⟩, 138) := sorry
theorem lw_p201 : lw_okq (⟨"BreedingHouseModel", "editSplit", "()V"⟩, 138) := sorry
theorem lw_p202 : lw_okq (⟨"BreedingHouseModel", "editJoin", "()V"⟩, 138) := sorry
theorem lw_p203 : lw_okq (⟨"BreedingHouseModel", "editLines", "()V"⟩, 138) := sorry
theorem lw_p204 : lw_okq (⟨"BreedingHouseModel", "editLess", "()V"⟩, 138) := sorry
theorem lw_p205 : lw_okq (⟨"BreedingHouseModel", "editMore", "()V"⟩, 138) := sorry
theorem lw_p206 : lw_okq (⟨"BreedingHouseModel", "editSwap", "()V"⟩, 138) := sorry
theorem lw_p207 : lw_okq (⟨"BreedingHouseModel", "isHow", "(II)Z"⟩, 138) := sorry
def lw_privs_13 : List (MethodName × Nat) := [(⟨"BreedingHouseModel", "editSigns", "()V"⟩, 138), (⟨"BreedingHouseModel", "editOut", "()V"⟩, 138), (⟨"BreedingHouseModel", "without", "(II)Z"⟩, 138), (⟨"BreedingHouseModel", "editIn", "()V"⟩, 138), (⟨"BreedingHouseModel", "with", "(II)V"⟩, 138), (⟨"BreedingHouseModel", "come", "(I)V"⟩, 138), (⟨"BreedingHouseModel", "editOutputs", "()V"⟩, 138), (⟨"BreedingHouseModel", "tryOutput", "(II)Z"⟩, 138), (⟨"BreedingHouseModel", "editEdges", "()V"⟩, 138), (⟨"BreedingHouseModel", "editSplit", "()V"⟩, 138), (⟨"BreedingHouseModel", "editJoin", "()V"⟩, 138), (⟨"BreedingHouseModel", "editLines", "()V"⟩, 138), (⟨"BreedingHouseModel", "editLess", "()V"⟩, 138), (⟨"BreedingHouseModel", "editMore", "()V"⟩, 138), (⟨"BreedingHouseModel", "editSwap", "()V"⟩, 138), (⟨"BreedingHouseModel", "isHow", "(II)Z"⟩, 138)]
theorem lw_r13 : ∀ q ∈ lw_privs_13, lw_okq q := List.forall_mem_cons.mpr ⟨lw_p192, List.forall_mem_cons.mpr ⟨lw_p193, List.forall_mem_cons.mpr ⟨lw_p194, List.forall_mem_cons.mpr ⟨lw_p195, List.forall_mem_cons.mpr ⟨lw_p196, List.forall_mem_cons.mpr ⟨lw_p197, List.forall_mem_cons.mpr ⟨lw_p198, List.forall_mem_cons.mpr ⟨lw_p199, List.forall_mem_cons.mpr ⟨lw_p200, List.forall_mem_cons.mpr ⟨lw_p201, List.forall_mem_cons.mpr ⟨lw_p202, List.forall_mem_cons.mpr ⟨lw_p203, List.forall_mem_cons.mpr ⟨lw_p204, List.forall_mem_cons.mpr ⟨lw_p205, List.forall_mem_cons.mpr ⟨lw_p206, List.forall_mem_cons.mpr ⟨lw_p207, fun _ h => absurd h List.not_mem_nil⟩⟩⟩⟩⟩⟩⟩⟩⟩⟩⟩⟩⟩⟩⟩⟩
theorem lw_p208 : lw_okq (⟨"BreedingHouseModel", "changeA", "(IJ)V"⟩, 138) := sorry
theorem lw_p209 : lw_okq (⟨"BreedingHouseModel", "plant", "()V"⟩, 138) := sorry
theorem lw_p210 : lw_okq (⟨"BreedingHouseModel", "draw", "(I)I"⟩, 138) := sorry
theorem lw_p211 : lw_okq (⟨"BreedingHouseModel", "half", "()J"⟩, 138) := sorry
theorem lw_p212 : lw_okq (⟨"BreedingHouseModel", "isWithin", "(I)Z"⟩, 138) := sorry
theorem lw_p213 : lw_okq (⟨"BreedingHouseModel", "wideDraw", "(J)J"⟩, 138) := sorry
theorem lw_p214 : lw_okq (⟨"BreedingHouseModel", "arePairable", "(II)Z"⟩, 138) := sorry
theorem lw_p215 : lw_okq (⟨"BreedingHouseModel", "loadB", "(I)V"⟩, 138) := sorry
theorem lw_p216 : lw_okq (⟨"BreedingHouseModel", "pairA", "(I)I"⟩, 138) := sorry
theorem lw_p217 : lw_okq (⟨"BreedingHouseModel", "pairTrees", "()V"⟩, 138) := sorry
theorem lw_p218 : lw_okq (⟨"BreedingHouseModel", "copyB", "(II)V"⟩, 138) := sorry
theorem lw_p219 : lw_okq (⟨"BreedingHouseModel", "pairMachines", "()V"⟩, 138) := sorry
theorem lw_p220 : lw_okq (⟨"BreedingHouseModel", "pairRows", "()V"⟩, 138) := sorry
theorem lw_p221 : lw_okq (⟨"BreedingHouseModel", "crossThem", "(IIJ)V"⟩, 138) := sorry
theorem lw_p222 : lw_okq (⟨"BreedingHouseModel", "isIsland", "(I)Z"⟩, 138) := sorry
theorem lw_p223 : lw_okq (⟨"BreedingHouseModel", "drawOne", "(II)V"⟩, 138) := sorry
def lw_privs_14 : List (MethodName × Nat) := [(⟨"BreedingHouseModel", "changeA", "(IJ)V"⟩, 138), (⟨"BreedingHouseModel", "plant", "()V"⟩, 138), (⟨"BreedingHouseModel", "draw", "(I)I"⟩, 138), (⟨"BreedingHouseModel", "half", "()J"⟩, 138), (⟨"BreedingHouseModel", "isWithin", "(I)Z"⟩, 138), (⟨"BreedingHouseModel", "wideDraw", "(J)J"⟩, 138), (⟨"BreedingHouseModel", "arePairable", "(II)Z"⟩, 138), (⟨"BreedingHouseModel", "loadB", "(I)V"⟩, 138), (⟨"BreedingHouseModel", "pairA", "(I)I"⟩, 138), (⟨"BreedingHouseModel", "pairTrees", "()V"⟩, 138), (⟨"BreedingHouseModel", "copyB", "(II)V"⟩, 138), (⟨"BreedingHouseModel", "pairMachines", "()V"⟩, 138), (⟨"BreedingHouseModel", "pairRows", "()V"⟩, 138), (⟨"BreedingHouseModel", "crossThem", "(IIJ)V"⟩, 138), (⟨"BreedingHouseModel", "isIsland", "(I)Z"⟩, 138), (⟨"BreedingHouseModel", "drawOne", "(II)V"⟩, 138)]
theorem lw_r14 : ∀ q ∈ lw_privs_14, lw_okq q := List.forall_mem_cons.mpr ⟨lw_p208, List.forall_mem_cons.mpr ⟨lw_p209, List.forall_mem_cons.mpr ⟨lw_p210, List.forall_mem_cons.mpr ⟨lw_p211, List.forall_mem_cons.mpr ⟨lw_p212, List.forall_mem_cons.mpr ⟨lw_p213, List.forall_mem_cons.mpr ⟨lw_p214, List.forall_mem_cons.mpr ⟨lw_p215, List.forall_mem_cons.mpr ⟨lw_p216, List.forall_mem_cons.mpr ⟨lw_p217, List.forall_mem_cons.mpr ⟨lw_p218, List.forall_mem_cons.mpr ⟨lw_p219, List.forall_mem_cons.mpr ⟨lw_p220, List.forall_mem_cons.mpr ⟨lw_p221, List.forall_mem_cons.mpr ⟨lw_p222, List.forall_mem_cons.mpr ⟨lw_p223, fun _ h => absurd h List.not_mem_nil⟩⟩⟩⟩⟩⟩⟩⟩⟩⟩⟩⟩⟩⟩⟩⟩
theorem lw_p224 : lw_okq (⟨"BreedingHouseModel", "drawMachine", "(I)V"⟩, 138) := sorry
theorem lw_p225 : lw_okq (⟨"BreedingHouseModel", "drawNet", "(I)V"⟩, 138) := sorry
theorem lw_p226 : lw_okq (⟨"BreedingHouseModel", "toCode", "()Z"⟩, 138) := sorry
theorem lw_p227 : lw_okq (⟨"BreedingHouseModel", "toA", "()V"⟩, 138) := sorry
theorem lw_p228 : lw_okq (⟨"BreedingHouseModel", "lengthOf", "(I)I"⟩, 138) := sorry
theorem lw_p229 : lw_okq (⟨"BreedingHouseModel", "place0", "(II)V"⟩, 138) := sorry
theorem lw_p230 : lw_okq (⟨"BreedingHouseModel", "codeAt", "(III)V"⟩, 138) := sorry
theorem lw_p231 : lw_okq (⟨"BreedingHouseModel", "isPlace", "(II)Z"⟩, 138) := sorry
theorem lw_p232 : lw_okq (⟨"BreedingHouseModel", "elites", "(I)I"⟩, 138) := sorry
theorem lw_p233 : lw_okq (⟨"BreedingHouseModel", "generation", "(I)V"⟩, 138) := sorry
theorem lw_p234 : lw_okq (⟨"BreedingHouseModel", "gather", "(I)V"⟩, 138) := sorry
theorem lw_p235 : lw_okq (⟨"BreedingHouseModel", "errorsAtHand", "()V"⟩, 138) := sorry
theorem lw_p236 : lw_okq (⟨"BreedingHouseModel", "rank", "()V"⟩, 138) := sorry
theorem lw_p237 : lw_okq (⟨"BreedingHouseModel", "isBetter", "(II)Z"⟩, 138) := sorry
theorem lw_p238 : lw_okq (⟨"BreedingHouseModel", "scoreOrder", "(II)J"⟩, 138) := sorry
theorem lw_p239 : lw_okq (⟨"BreedingHouseModel", "child", "()I"⟩, 138) := sorry
def lw_privs_15 : List (MethodName × Nat) := [(⟨"BreedingHouseModel", "drawMachine", "(I)V"⟩, 138), (⟨"BreedingHouseModel", "drawNet", "(I)V"⟩, 138), (⟨"BreedingHouseModel", "toCode", "()Z"⟩, 138), (⟨"BreedingHouseModel", "toA", "()V"⟩, 138), (⟨"BreedingHouseModel", "lengthOf", "(I)I"⟩, 138), (⟨"BreedingHouseModel", "place0", "(II)V"⟩, 138), (⟨"BreedingHouseModel", "codeAt", "(III)V"⟩, 138), (⟨"BreedingHouseModel", "isPlace", "(II)Z"⟩, 138), (⟨"BreedingHouseModel", "elites", "(I)I"⟩, 138), (⟨"BreedingHouseModel", "generation", "(I)V"⟩, 138), (⟨"BreedingHouseModel", "gather", "(I)V"⟩, 138), (⟨"BreedingHouseModel", "errorsAtHand", "()V"⟩, 138), (⟨"BreedingHouseModel", "rank", "()V"⟩, 138), (⟨"BreedingHouseModel", "isBetter", "(II)Z"⟩, 138), (⟨"BreedingHouseModel", "scoreOrder", "(II)J"⟩, 138), (⟨"BreedingHouseModel", "child", "()I"⟩, 138)]
theorem lw_r15 : ∀ q ∈ lw_privs_15, lw_okq q := List.forall_mem_cons.mpr ⟨lw_p224, List.forall_mem_cons.mpr ⟨lw_p225, List.forall_mem_cons.mpr ⟨lw_p226, List.forall_mem_cons.mpr ⟨lw_p227, List.forall_mem_cons.mpr ⟨lw_p228, List.forall_mem_cons.mpr ⟨lw_p229, List.forall_mem_cons.mpr ⟨lw_p230, List.forall_mem_cons.mpr ⟨lw_p231, List.forall_mem_cons.mpr ⟨lw_p232, List.forall_mem_cons.mpr ⟨lw_p233, List.forall_mem_cons.mpr ⟨lw_p234, List.forall_mem_cons.mpr ⟨lw_p235, List.forall_mem_cons.mpr ⟨lw_p236, List.forall_mem_cons.mpr ⟨lw_p237, List.forall_mem_cons.mpr ⟨lw_p238, List.forall_mem_cons.mpr ⟨lw_p239, fun _ h => absurd h List.not_mem_nil⟩⟩⟩⟩⟩⟩⟩⟩⟩⟩⟩⟩⟩⟩⟩⟩
theorem lw_p240 : lw_okq (⟨"BreedingHouseModel", "choose", "()I"⟩, 138) := sorry
theorem lw_p241 : lw_okq (⟨"BreedingHouseModel", "tournament", "()I"⟩, 138) := sorry
theorem lw_p242 : lw_okq (⟨"BreedingHouseModel", "fronts", "()I"⟩, 138) := sorry
theorem lw_p243 : lw_okq (⟨"BreedingHouseModel", "isFront", "(I)Z"⟩, 138) := sorry
theorem lw_p244 : lw_okq (⟨"BreedingHouseModel", "frontAt", "(I)I"⟩, 138) := sorry
theorem lw_p245 : lw_okq (⟨"BreedingHouseModel", "lexical", "()I"⟩, 138) := sorry
theorem lw_p246 : lw_okq (⟨"BreedingHouseModel", "bestAtHand", "()I"⟩, 138) := sorry
theorem lw_p247 : lw_okq (⟨"BreedingHouseModel", "seenCount", "()I"⟩, 138) := sorry
theorem lw_p248 : lw_okq (⟨"BreedingHouseModel", "nextOrder", "()Z"⟩, 138) := sorry
theorem lw_p249 : lw_okq (⟨"BreedingHouseModel", "distanceOf", "(II)J"⟩, 138) := sorry
theorem lw_p250 : lw_okq (⟨"BreedingHouseModel", "mark", "(IZ)V"⟩, 138) := sorry
theorem lw_p251 : lw_okq (⟨"BreedingHouseModel", "markOne", "(IZ)V"⟩, 138) := sorry
theorem lw_p252 : lw_okq (⟨"BreedingHouseModel", "fitsAll", "()Z"⟩, 138) := sorry
theorem lw_p253 : lw_okq (⟨"BreedingHouseModel", "simplify", "(Z)V"⟩, 138) := sorry
theorem lw_p254 : lw_okq (⟨"BreedingHouseModel", "firstRule", "(Z)Z"⟩, 138) := sorry
theorem lw_p255 : lw_okq (⟨"BreedingHouseModel", "rule", "(II)Z"⟩, 138) := sorry
def lw_privs_16 : List (MethodName × Nat) := [(⟨"BreedingHouseModel", "choose", "()I"⟩, 138), (⟨"BreedingHouseModel", "tournament", "()I"⟩, 138), (⟨"BreedingHouseModel", "fronts", "()I"⟩, 138), (⟨"BreedingHouseModel", "isFront", "(I)Z"⟩, 138), (⟨"BreedingHouseModel", "frontAt", "(I)I"⟩, 138), (⟨"BreedingHouseModel", "lexical", "()I"⟩, 138), (⟨"BreedingHouseModel", "bestAtHand", "()I"⟩, 138), (⟨"BreedingHouseModel", "seenCount", "()I"⟩, 138), (⟨"BreedingHouseModel", "nextOrder", "()Z"⟩, 138), (⟨"BreedingHouseModel", "distanceOf", "(II)J"⟩, 138), (⟨"BreedingHouseModel", "mark", "(IZ)V"⟩, 138), (⟨"BreedingHouseModel", "markOne", "(IZ)V"⟩, 138), (⟨"BreedingHouseModel", "fitsAll", "()Z"⟩, 138), (⟨"BreedingHouseModel", "simplify", "(Z)V"⟩, 138), (⟨"BreedingHouseModel", "firstRule", "(Z)Z"⟩, 138), (⟨"BreedingHouseModel", "rule", "(II)Z"⟩, 138)]
theorem lw_r16 : ∀ q ∈ lw_privs_16, lw_okq q := List.forall_mem_cons.mpr ⟨lw_p240, List.forall_mem_cons.mpr ⟨lw_p241, List.forall_mem_cons.mpr ⟨lw_p242, List.forall_mem_cons.mpr ⟨lw_p243, List.forall_mem_cons.mpr ⟨lw_p244, List.forall_mem_cons.mpr ⟨lw_p245, List.forall_mem_cons.mpr ⟨lw_p246, List.forall_mem_cons.mpr ⟨lw_p247, List.forall_mem_cons.mpr ⟨lw_p248, List.forall_mem_cons.mpr ⟨lw_p249, List.forall_mem_cons.mpr ⟨lw_p250, List.forall_mem_cons.mpr ⟨lw_p251, List.forall_mem_cons.mpr ⟨lw_p252, List.forall_mem_cons.mpr ⟨lw_p253, List.forall_mem_cons.mpr ⟨lw_p254, List.forall_mem_cons.mpr ⟨lw_p255, fun _ h => absurd h List.not_mem_nil⟩⟩⟩⟩⟩⟩⟩⟩⟩⟩⟩⟩⟩⟩⟩⟩
theorem lw_p256 : lw_okq (⟨"BreedingHouseModel", "ruleNumbers", "(I)Z"⟩, 138) := sorry
theorem lw_p257 : lw_okq (⟨"BreedingHouseModel", "becomesNumber", "(II)Z"⟩, 138) := sorry
theorem lw_p258 : lw_okq (⟨"BreedingHouseModel", "ruleUnits", "(I)Z"⟩, 138) := sorry
theorem lw_p259 : lw_okq (⟨"BreedingHouseModel", "isConstant", "(II)Z"⟩, 138) := sorry
theorem lw_p260 : lw_okq (⟨"BreedingHouseModel", "becomes", "(II)Z"⟩, 138) := sorry
theorem lw_p261 : lw_okq (⟨"BreedingHouseModel", "ruleTwice", "(I)Z"⟩, 138) := sorry
theorem lw_p262 : lw_okq (⟨"BreedingHouseModel", "ruleKnown", "(I)Z"⟩, 138) := sorry
theorem lw_p263 : lw_okq (⟨"BreedingHouseModel", "ruleAlike", "(I)Z"⟩, 138) := sorry
theorem lw_p264 : lw_okq (⟨"BreedingHouseModel", "isSafe", "(I)Z"⟩, 138) := sorry
theorem lw_p265 : lw_okq (⟨"BreedingHouseModel", "isLike", "(II)Z"⟩, 138) := sorry
theorem lw_p266 : lw_okq (⟨"BreedingHouseModel", "ruleSelf", "(I)Z"⟩, 138) := sorry
theorem lw_p267 : lw_okq (⟨"BreedingHouseModel", "ruleDenied", "(I)Z"⟩, 138) := sorry
theorem lw_p268 : lw_okq (⟨"BreedingHouseModel", "ruleZero", "(I)Z"⟩, 138) := sorry
theorem lw_p269 : lw_okq (⟨"BreedingHouseModel", "ruleRest", "(I)Z"⟩, 138) := sorry
theorem lw_p270 : lw_okq (⟨"BreedingHouseModel", "toTree", "()Z"⟩, 138) := sorry
theorem lw_p271 : lw_okq (⟨"BreedingHouseModel", "heapStep", "(II)Z"⟩, 138) := sorry
def lw_privs_17 : List (MethodName × Nat) := [(⟨"BreedingHouseModel", "ruleNumbers", "(I)Z"⟩, 138), (⟨"BreedingHouseModel", "becomesNumber", "(II)Z"⟩, 138), (⟨"BreedingHouseModel", "ruleUnits", "(I)Z"⟩, 138), (⟨"BreedingHouseModel", "isConstant", "(II)Z"⟩, 138), (⟨"BreedingHouseModel", "becomes", "(II)Z"⟩, 138), (⟨"BreedingHouseModel", "ruleTwice", "(I)Z"⟩, 138), (⟨"BreedingHouseModel", "ruleKnown", "(I)Z"⟩, 138), (⟨"BreedingHouseModel", "ruleAlike", "(I)Z"⟩, 138), (⟨"BreedingHouseModel", "isSafe", "(I)Z"⟩, 138), (⟨"BreedingHouseModel", "isLike", "(II)Z"⟩, 138), (⟨"BreedingHouseModel", "ruleSelf", "(I)Z"⟩, 138), (⟨"BreedingHouseModel", "ruleDenied", "(I)Z"⟩, 138), (⟨"BreedingHouseModel", "ruleZero", "(I)Z"⟩, 138), (⟨"BreedingHouseModel", "ruleRest", "(I)Z"⟩, 138), (⟨"BreedingHouseModel", "toTree", "()Z"⟩, 138), (⟨"BreedingHouseModel", "heapStep", "(II)Z"⟩, 138)]
theorem lw_r17 : ∀ q ∈ lw_privs_17, lw_okq q := List.forall_mem_cons.mpr ⟨lw_p256, List.forall_mem_cons.mpr ⟨lw_p257, List.forall_mem_cons.mpr ⟨lw_p258, List.forall_mem_cons.mpr ⟨lw_p259, List.forall_mem_cons.mpr ⟨lw_p260, List.forall_mem_cons.mpr ⟨lw_p261, List.forall_mem_cons.mpr ⟨lw_p262, List.forall_mem_cons.mpr ⟨lw_p263, List.forall_mem_cons.mpr ⟨lw_p264, List.forall_mem_cons.mpr ⟨lw_p265, List.forall_mem_cons.mpr ⟨lw_p266, List.forall_mem_cons.mpr ⟨lw_p267, List.forall_mem_cons.mpr ⟨lw_p268, List.forall_mem_cons.mpr ⟨lw_p269, List.forall_mem_cons.mpr ⟨lw_p270, List.forall_mem_cons.mpr ⟨lw_p271, fun _ h => absurd h List.not_mem_nil⟩⟩⟩⟩⟩⟩⟩⟩⟩⟩⟩⟩⟩⟩⟩⟩
theorem lw_p272 : lw_okq (⟨"BreedingHouseModel", "heapLay", "(III)V"⟩, 138) := sorry
theorem lw_p273 : lw_okq (⟨"BreedingHouseModel", "heapSign", "(I)Z"⟩, 138) := sorry
theorem lw_p274 : lw_okq (⟨"BreedingHouseModel", "heapNumber", "(I)V"⟩, 138) := sorry
theorem lw_p275 : lw_okq (⟨"BreedingHouseModel", "heapTruth", "(I)Z"⟩, 138) := sorry
theorem lw_p276 : lw_okq (⟨"BreedingHouseModel", "heapFits", "(I)Z"⟩, 138) := sorry
theorem lw_p277 : lw_okq (⟨"BreedingHouseModel", "heapCopy", "(II)V"⟩, 138) := sorry
theorem lw_p278 : lw_okq (⟨"BreedingHouseModel", "heapSafe", "(I)Z"⟩, 138) := sorry
theorem lw_p279 : lw_okq (⟨"BreedingHouseModel", "equalMachines", "()I"⟩, 138) := sorry
theorem lw_p280 : lw_okq (⟨"BreedingHouseModel", "tellWord", "(I)V"⟩, 138) := sorry
theorem lw_p281 : lw_okq (⟨"BreedingHouseModel", "noWitness", "()V"⟩, 138) := sorry
theorem lw_p282 : lw_okq (⟨"BreedingHouseModel", "equalNets", "(II)I"⟩, 138) := sorry
theorem lw_p283 : lw_okq (⟨"BreedingHouseModel", "bitsBehind", "(I)I"⟩, 138) := sorry
theorem lw_p284 : lw_okq (⟨"BreedingHouseModel", "areAlikeTrees", "(II)Z"⟩, 138) := sorry
theorem lw_p285 : lw_okq (⟨"BreedingHouseModel", "tried", "(II)I"⟩, 138) := sorry
theorem lw_p286 : lw_okq (⟨"BreedingHouseModel", "differs", "(II)Z"⟩, 138) := sorry
theorem lw_p287 : lw_okq (⟨"BreedingHouseModel", "tellInput", "()I"⟩, 138) := sorry
def lw_privs_18 : List (MethodName × Nat) := [(⟨"BreedingHouseModel", "heapLay", "(III)V"⟩, 138), (⟨"BreedingHouseModel", "heapSign", "(I)Z"⟩, 138), (⟨"BreedingHouseModel", "heapNumber", "(I)V"⟩, 138), (⟨"BreedingHouseModel", "heapTruth", "(I)Z"⟩, 138), (⟨"BreedingHouseModel", "heapFits", "(I)Z"⟩, 138), (⟨"BreedingHouseModel", "heapCopy", "(II)V"⟩, 138), (⟨"BreedingHouseModel", "heapSafe", "(I)Z"⟩, 138), (⟨"BreedingHouseModel", "equalMachines", "()I"⟩, 138), (⟨"BreedingHouseModel", "tellWord", "(I)V"⟩, 138), (⟨"BreedingHouseModel", "noWitness", "()V"⟩, 138), (⟨"BreedingHouseModel", "equalNets", "(II)I"⟩, 138), (⟨"BreedingHouseModel", "bitsBehind", "(I)I"⟩, 138), (⟨"BreedingHouseModel", "areAlikeTrees", "(II)Z"⟩, 138), (⟨"BreedingHouseModel", "tried", "(II)I"⟩, 138), (⟨"BreedingHouseModel", "differs", "(II)Z"⟩, 138), (⟨"BreedingHouseModel", "tellInput", "()I"⟩, 138)]
theorem lw_r18 : ∀ q ∈ lw_privs_18, lw_okq q := List.forall_mem_cons.mpr ⟨lw_p272, List.forall_mem_cons.mpr ⟨lw_p273, List.forall_mem_cons.mpr ⟨lw_p274, List.forall_mem_cons.mpr ⟨lw_p275, List.forall_mem_cons.mpr ⟨lw_p276, List.forall_mem_cons.mpr ⟨lw_p277, List.forall_mem_cons.mpr ⟨lw_p278, List.forall_mem_cons.mpr ⟨lw_p279, List.forall_mem_cons.mpr ⟨lw_p280, List.forall_mem_cons.mpr ⟨lw_p281, List.forall_mem_cons.mpr ⟨lw_p282, List.forall_mem_cons.mpr ⟨lw_p283, List.forall_mem_cons.mpr ⟨lw_p284, List.forall_mem_cons.mpr ⟨lw_p285, List.forall_mem_cons.mpr ⟨lw_p286, List.forall_mem_cons.mpr ⟨lw_p287, fun _ h => absurd h List.not_mem_nil⟩⟩⟩⟩⟩⟩⟩⟩⟩⟩⟩⟩⟩⟩⟩⟩
theorem lw_p288 : lw_okq (⟨"BreedingHouseModel", "shorten", "(JJ)Z"⟩, 138) := sorry
theorem lw_p289 : lw_okq (⟨"BreedingHouseModel", "isNoWorse", "(JJ)Z"⟩, 138) := sorry
theorem lw_p290 : lw_okq (⟨"BreedingHouseModel", "refine", "()V"⟩, 138) := sorry
theorem lw_p291 : lw_okq (⟨"BreedingHouseModel", "goAlike", "(II)Z"⟩, 138) := sorry
theorem lw_p292 : lw_okq (⟨"BreedingHouseModel", "netThrown", "(I)I"⟩, 138) := sorry
def lw_privs_19 : List (MethodName × Nat) := [(⟨"BreedingHouseModel", "shorten", "(JJ)Z"⟩, 138), (⟨"BreedingHouseModel", "isNoWorse", "(JJ)Z"⟩, 138), (⟨"BreedingHouseModel", "refine", "()V"⟩, 138), (⟨"BreedingHouseModel", "goAlike", "(II)Z"⟩, 138), (⟨"BreedingHouseModel", "netThrown", "(I)I"⟩, 138)]
theorem lw_r19 : ∀ q ∈ lw_privs_19, lw_okq q := List.forall_mem_cons.mpr ⟨lw_p288, List.forall_mem_cons.mpr ⟨lw_p289, List.forall_mem_cons.mpr ⟨lw_p290, List.forall_mem_cons.mpr ⟨lw_p291, List.forall_mem_cons.mpr ⟨lw_p292, fun _ h => absurd h List.not_mem_nil⟩⟩⟩⟩⟩
def lw_privs : List (MethodName × Nat) := lw_privs_1 ++ (lw_privs_2 ++ (lw_privs_3 ++ (lw_privs_4 ++ (lw_privs_5 ++ (lw_privs_6 ++ (lw_privs_7 ++ (lw_privs_8 ++ (lw_privs_9 ++ (lw_privs_10 ++ (lw_privs_11 ++ (lw_privs_12 ++ (lw_privs_13 ++ (lw_privs_14 ++ (lw_privs_15 ++ (lw_privs_16 ++ (lw_privs_17 ++ (lw_privs_18 ++ (lw_privs_19))))))))))))))))))
def lw_tbl : List Cond := k2_sels lw_privs ++ tables_1
theorem lw_privs_ok : ∀ q ∈ lw_privs, lw_okq q := sorry
theorem goodIn_r {big : List Cond} (ws : List Cond) (ps : List Nat) (hp : ws = ps.filterMap (fun i => big[i]?)) (h : ws.all goodWord = true) : GoodIn big ws := sorry
theorem goodIn_app {big a b : List Cond} (ha : GoodIn big a) (hb : GoodIn big b) : GoodIn big (a ++ b) := fun w h => (List.mem_append.mp h).elim (ha w) (hb w)
theorem goodIn_ca {big a b : List Cond} {c : Cond} (ha : GoodIn big (c :: a)) (hb : GoodIn big b) : GoodIn big (c :: (a ++ b)) := fun w h => (List.mem_cons.mp h).elim (fun e => ha w (List.mem_cons.mpr (Or.inl e))) (fun h => (List.mem_append.mp h).elim (fun h => ha w (List.mem_cons.mpr (Or.inr h))) (hb w))
theorem goodIn_sub {big ws : List Cond} (hm : ∀ w ∈ ws, w ∈ big) (h : ws.all goodWord = true) : GoodIn big ws := fun w hw => ⟨hm w hw, good_of_word (List.all_eq_true.mp h w hw)⟩

section VXA

def vx_T (XC : String → State → State → Prop) (st : State) (q : Addr) (t : State) (mc ms : Nat) (free : Addr → Prop) : Prop :=
  ∃ (E : String) (ce : Cell) (L : List Loc), XC E st t ∧ t.heap[q]? = some ce ∧ ce.vm = .none ∧ st.vm.findClass E = some ce.cls ∧ st.WarmedH t.vm ∧ st.sameButNew ({ t with vm := st.vm } : State) L mc ms ∧ ∀ z ∈ L, free z.base
def vx_Q (Qc : Array Value → State → Outcome → State → Prop) (XC : String → State → State → Prop) (mc ms : Nat) (free : Addr → Prop) : Array Value → State → Outcome → State → Prop := fun a st o t =>
  (Qc a st o t ∧ ∃ L, FrameEnd st o t L mc ms ∧ ∀ q ∈ L, free q.base) ∨ ∃ q, o = .threw q ∧ vx_T XC st q t mc ms free
def vx_Met (l : Launch) (y : MethodName) (ws : List Cond) (rm : Room) (Pc : Array Value → State → Prop) (Qc : Array Value → State → Outcome → State → Prop) (XC : String → State → State → Prop) (mc ms : Nat) (free : Addr → Prop) : Prop :=
  MetFree l y (headSpec ws rm) Pc (fun _ _ _ _ _ => True) (vx_Q Qc XC mc ms free)
def vx_Post (XC : String → State → State → Prop) (mc ms : Nat) (free : Addr → Prop) : Pt → Array Value → Addr → Pt → Prop := fun A a q B =>
  ∃ (g : JFrame) (mk : MethodId) (t : State) (L : List Loc) (E : String) (ce : Cell), B.U.heap = t.heap ∧ B.U.vm = t.vm ∧ XC E (A.U.calling g mk a) t ∧ t.heap[q]? = some ce ∧ ce.vm = .none ∧ A.U.vm.findClass E = some ce.cls ∧ B.locs = A.locs ++ L ∧ (∀ z ∈ L, free z.base) ∧ B.cells = A.cells + mc ∧ B.slots = A.slots + ms
def vx_Back (l : Launch) (R : Room) (p : Program) (e : Env) (below : List Frame) (s : State) (sargs : Array Value) (y : MethodName) (len W9 : Nat)
    (Pre : Pt → Array Value → Prop) (Post : Pt → Array Value → Option Value → Pt → Prop) (PostX : Pt → Array Value → Addr → Pt → Prop) : Prop :=
  ∀ (m : MethodId) (meth : Method) (c : Code) (A : Pt) (g : JFrame) (ig : Instr) (mk : MethodId) (a : Array Value),
    Stand p l e R s m sargs below meth c A.U A.locs A.cells A.slots → g.method = m → g.locals.size = c.maxLocals → decode c.code g.pc = .ok (ig, len) →
    2 * g.monitorRoom + (g.stack.map fun v => v.category).sum ≤ W9 → A.U.methodNamed? y = some mk → Pre A a →
    (∃ (v : Option Value) (B : Pt), Stand p l e R s m sargs below meth c B.U B.locs B.cells B.slots ∧ Post A a v B ∧
      Steps p.tables e below (doInvoke e (A.U.setTop g) [] mk a).1 (B.U.setTop { g with pc := g.pc + len, stack := v.toList ++ g.stack })) ∨
    (∃ (q : Addr) (B : Pt), Stand p l e R s m sargs below meth c B.U B.locs B.cells B.slots ∧ PostX A a q B ∧
      Steps p.tables e below (doInvoke e (A.U.setTop g) [] mk a).1 ((B.U.setTop g).pushFrame (.throwing q)))
section Payer
variable {l : Launch} {R : Room} {p : Program} {e : Env} {below : List Frame} {s : State} {sargs : Array Value} {y : MethodName} {len W9 : Nat}
theorem vx_back {ws : List Cond} {rm : Room} {Pc : Array Value → State → Prop} {Qc : Array Value → State → Outcome → State → Prop} {XC : String → State → State → Prop} {mc ms : Nat} {free : Addr → Prop} {bytes : ByteArray} {maxL : Nat} {ret : Option FieldType}
    (hM : vx_Met l y ws rm Pc Qc XC mc ms free) (hblind : FrameBlind Pc) (hrc : rm.cells = mc) (hrs : rm.slots = ms)
    (hframes : rm.frames + 1 ≤ R.frames) (hlocals : W9 + (maxL + 11) + rm.locals ≤ R.locals)
    (hws : ∀ w ∈ ws, ∀ a' U, s.WarmedH U.vm → w.before a' U = true) (hcode : Cond.code y bytes maxL ret ∈ ws) (hinit : ∀ a' U, s.WarmedH U.vm → (Cond.initialized y.cls).before a' U = true) :
    vx_Back l R p e below s sargs y len W9 (PreOf R mc ms Pc) (PostOf Qc mc ms free) (vx_Post XC mc ms free) := sorry
end Payer
section Calls
variable {p : Program} {l : Launch} {e : Env} {R : Room} {s : State} {m : MethodId} {args : Array Value} {below : List Frame} {meth : Method} {c : Code} {T : State} {locs : List Loc} {cells slots : Nat}
theorem vx_callV (X : Stand p l e R s m args below meth c T locs cells slots) (hexec : p.tables.exec = Jvm.exec) {own C : String} {index : Nat} {y : MethodName} {bytes : ByteArray} {maxL : Nat} {ret : Option FieldType}
    (hown : s.vm.findClass own = some m.cls) (hlink : (Cond.methodLink own index y).before args s = true) (hinst : (Cond.instanceMethod y).before args s = true) (hsel : (Cond.selects C y y).before args s = true)
    (hcode : (Cond.code y bytes maxL ret).before args s = true) (hy : y.cls ≠ "java/lang/invoke/MethodHandle" ∧ y.cls ≠ "java/lang/invoke/VarHandle")
    {W9 : Nat} {Pre : Pt → Array Value → Prop} {Post : Pt → Array Value → Option Value → Pt → Prop} {PostX : Pt → Array Value → Addr → Pt → Prop} (hK : vx_Back l R p e below s args y 3 W9 Pre Post PostX)
    {b : Addr} {cellB : Cell} (hcell : T.heap[b]? = some cellB) (hobj : cellB.vm.isStatics = false) (hcls : s.vm.findClass C = some cellB.cls)
    {g : JFrame} (hg : g.method = m) (hsize : g.locals.size = c.maxLocals) {argsL rest : List Value} (hlen : ∀ sig, parseMethodDescriptor y.desc = some sig → argsL.length = sig.parameters.length)
    (hstack : g.stack = argsL.reverse ++ .ref b :: rest) (hW : 2 * g.monitorRoom + (rest.map fun v => v.category).sum ≤ W9) (hdg : decode c.code g.pc = .ok (.invokevirtual index, 3))
    (hpre : ∀ vm₁, s.WarmedH vm₁ → Pre ⟨T.setVm vm₁, locs, cells, slots⟩ (Value.ref b :: argsL).toArray) :
    (∃ (v : Option Value) (vm₁ : Vm) (B : Pt), s.WarmedH vm₁ ∧ Stand p l e R s m args below meth c B.U B.locs B.cells B.slots ∧ Post ⟨T.setVm vm₁, locs, cells, slots⟩ (Value.ref b :: argsL).toArray v B ∧
      ∀ target, Steps p.tables e below (B.U.setTop { g with pc := g.pc + 3, stack := v.toList ++ rest }) target → Steps p.tables e below (T.setTop g) target) ∨
    (∃ (q : Addr) (vm₁ : Vm) (B : Pt), s.WarmedH vm₁ ∧ Stand p l e R s m args below meth c B.U B.locs B.cells B.slots ∧ PostX ⟨T.setVm vm₁, locs, cells, slots⟩ (Value.ref b :: argsL).toArray q B ∧
      Steps p.tables e below (T.setTop g) ((B.U.setTop { g with stack := rest }).pushFrame (.throwing q))) := sorry
theorem vx_callS (X : Stand p l e R s m args below meth c T locs cells slots) (hexec : p.tables.exec = Jvm.exec) {own : String} {index : Nat} {y : MethodName} {bytes : ByteArray} {maxL : Nat} {ret : Option FieldType}
    (hown : s.vm.findClass own = some m.cls) (hlink : (Cond.methodLink own index y).before args s = true) (hstat : (Cond.static y).before args s = true) (hinit : (Cond.initialized y.cls).before args s = true)
    (hcode : (Cond.code y bytes maxL ret).before args s = true) (hy : y.cls ≠ "java/lang/invoke/MethodHandle" ∧ y.cls ≠ "java/lang/invoke/VarHandle")
    {W9 : Nat} {Pre : Pt → Array Value → Prop} {Post : Pt → Array Value → Option Value → Pt → Prop} {PostX : Pt → Array Value → Addr → Pt → Prop} (hK : vx_Back l R p e below s args y 3 W9 Pre Post PostX)
    {g : JFrame} (hg : g.method = m) (hsize : g.locals.size = c.maxLocals) {argsL rest : List Value} (hlen : ∀ sig, parseMethodDescriptor y.desc = some sig → argsL.length = sig.parameters.length)
    (hstack : g.stack = argsL.reverse ++ rest) (hW : 2 * g.monitorRoom + (rest.map fun v => v.category).sum ≤ W9) (hdg : decode c.code g.pc = .ok (.invokestatic index, 3))
    (hpre : ∀ vm₁, s.WarmedH vm₁ → Pre ⟨T.setVm vm₁, locs, cells, slots⟩ argsL.toArray) :
    (∃ (v : Option Value) (vm₁ : Vm) (B : Pt), s.WarmedH vm₁ ∧ Stand p l e R s m args below meth c B.U B.locs B.cells B.slots ∧ Post ⟨T.setVm vm₁, locs, cells, slots⟩ argsL.toArray v B ∧
      ∀ target, Steps p.tables e below (B.U.setTop { g with pc := g.pc + 3, stack := v.toList ++ rest }) target → Steps p.tables e below (T.setTop g) target) ∨
    (∃ (q : Addr) (vm₁ : Vm) (B : Pt), s.WarmedH vm₁ ∧ Stand p l e R s m args below meth c B.U B.locs B.cells B.slots ∧ PostX ⟨T.setVm vm₁, locs, cells, slots⟩ argsL.toArray q B ∧
      Steps p.tables e below (T.setTop g) ((B.U.setTop { g with stack := rest }).pushFrame (.throwing q))) := sorry
end Calls
theorem vx_cls {s : State} {T : State} {vm₁ : Vm} {E : String} {k : ClassId} (hW : s.WarmedH vm₁) (h : (T.setVm vm₁).vm.findClass E = some k) : s.vm.findClass E = some k := sorry
def vx_W (p : Program) (l : Launch) (e : Env) (R : Room) (s : State) (m : MethodId) (args : Array Value) (below : List Frame) (meth : Method) (c : Code) (H : Heap) (locs : List Loc) (cells slots : Nat) (Q : State → Prop) (g : JFrame) (q : Addr) : Prop :=
  ∀ T : State, T.heap = H → Stand p l e R s m args below meth c T locs cells slots → ∃ t, Steps p.tables e below ((T.setTop g).pushFrame (.throwing q)) t ∧ Q t
def vx_Run (p : Program) (l : Launch) (e : Env) (R : Room) (s : State) (m : MethodId) (args : Array Value) (below : List Frame) (meth : Method) (c : Code) (H : Heap) (locs : List Loc) (cells slots mc ms : Nat) (g : JFrame) (rest : List Value) (Qa : State → Outcome → State → Prop) (XC : String → State → State → Prop) (free : Addr → Prop) : Prop :=
  ∀ T : State, T.heap = H → Stand p l e R s m args below meth c T locs cells slots →
    (∃ (v : Option Value) (st₀ t T' : State) (L : List Loc), st₀.heap = H ∧ Stand p l e R s m args below meth c T' (locs ++ L) (cells + mc) (slots + ms) ∧ (∀ q ∈ L, free q.base) ∧ T'.heap = t.heap ∧ T'.vm = t.vm ∧ Qa st₀ (.returned v) t ∧
      Goes p e below T g T' { g with pc := g.pc + 3, stack := v.toList ++ rest }) ∨
    (∃ (q : Addr) (st₀ t T' : State) (L : List Loc) (E : String) (ce : Cell), st₀.heap = H ∧ Stand p l e R s m args below meth c T' (locs ++ L) (cells + mc) (slots + ms) ∧ (∀ z ∈ L, free z.base) ∧ T'.heap = t.heap ∧ T'.vm = t.vm ∧ XC E st₀ t ∧ t.heap[q]? = some ce ∧ ce.vm = .none ∧ s.vm.findClass E = some ce.cls ∧
      Steps p.tables e below (T.setTop g) ((T'.setTop { g with stack := rest }).pushFrame (.throwing q)))
def vx_X {S : Type} (px : S → Prop) (B : String → S → State → Prop) (A : Nat → Prop) : String → State → State → Prop := fun E st t => ∃ u : S, px u ∧ B E u t ∧ va_F A st t
section Runs
variable {p : Program} {l : Launch} {e : Env} {R : Room} {s : State} {m : MethodId} {args : Array Value} {below : List Frame} {meth : Method} {c : Code} {H : Heap} {locs : List Loc} {cells slots : Nat}
variable {y : MethodName} {bytes cc : ByteArray} {maxL nL mc ms n index : Nat} {ret : Option FieldType} {ws : List Cond} {rm : Room} {Pc : Array Value → State → Prop} {Qc : Array Value → State → Outcome → State → Prop} {XC : String → State → State → Prop} {free : Addr → Prop} {Ts : List Cond} {own C : String} {b : Addr} {As rest : List Value} {g : JFrame}
theorem vx_callBack (cb : CallB R s args own index y bytes maxL ret ws rm mc ms n) (hM : vx_Met l y ws rm Pc Qc XC mc ms free) (hbl : FrameBlind Pc) : vx_Back l R p e below s args y 3 8 (PreOf R mc ms Pc) (PostOf Qc mc ms free) (vx_Post XC mc ms free) := sorry
theorem vx_runV (S : CallFix p m c cc nL s args Ts own) (hM : vx_Met l y ws rm Pc Qc XC mc ms free) (cw : CallW R s args own C index y bytes maxL ret ws rm mc ms n) (hp : PreV s H C b Pc As)
    (hg : g.method = m) (hn : As.length = n) (hsize : g.locals.size = nL) (hstack : g.stack = As.reverse ++ .ref b :: rest) (hW : 2 * g.monitorRoom + (rest.map fun v => v.category).sum ≤ 8) (hdg : decode cc g.pc = .ok (.invokevirtual index, 3)) (hf : cells + mc ≤ R.cells ∧ slots + ms ≤ R.slots) :
    vx_Run p l e R s m args below meth c H locs cells slots mc ms g rest (Qc (Value.ref b :: As).toArray) XC free := sorry
theorem vx_runS (S : CallFix p m c cc nL s args Ts own) (hM : vx_Met l y ws rm Pc Qc XC mc ms free) (cw : CallB R s args own index y bytes maxL ret ws rm mc ms n ∧ (Cond.static y).before args s = true) (hp : PreS s H Pc As)
    (hg : g.method = m) (hn : As.length = n) (hsize : g.locals.size = nL) (hstack : g.stack = As.reverse ++ rest) (hW : 2 * g.monitorRoom + (rest.map fun v => v.category).sum ≤ 8) (hdg : decode cc g.pc = .ok (.invokestatic index, 3)) (hf : cells + mc ≤ R.cells ∧ slots + ms ≤ R.slots) :
    vx_Run p l e R s m args below meth c H locs cells slots mc ms g rest (Qc As.toArray) XC free := sorry
end Runs
section Rows
variable {p : Program} {l : Launch} {e : Env} {R : Room} {s : State} {m : MethodId} {args : Array Value} {below : List Frame} {meth : Method} {c : Code} {H : Heap} {locs : List Loc} {cells slots : Nat} {Q : State → Prop}
variable {mc ms : Nat} {free : Addr → Prop} {A0 A1 : Nat → Prop} {H0 : Heap} {a : Array Value} {pc : Nat} {ls : Array Slot} {st0 rest : List Value}
theorem vx_keep {st₀ t T' : State} {L : List Loc} (h0 : st₀.heap = H) (e1 : T'.heap = t.heap) (hS : va_S A0 H0 H locs) (hA : ∀ q, q < H.size → A1 q → A0 q) (hf : ∀ q, free q → A0 q) (hL : ∀ q ∈ L, free q.base) (hF : va_F A1 st₀ t) :
    H.size ≤ T'.heap.size ∧ (∀ q : Nat, q < H.size → ¬ A1 q → T'.heap[q]? = H[q]?) ∧ va_S A0 H0 T'.heap (locs ++ L) := sorry
theorem vx_calli {S SX : Type} {post : Int32 → S → Prop} {px : SX → Prop} {B : S → State → Prop} {BX : String → SX → State → Prop} {AX : Nat → Prop} (hr : vx_Run p l e R s m args below meth c H locs cells slots mc ms (F0 m pc ls st0) rest (va_Qi post B A1 a) (vx_X px BX AX) free) (hS : va_S A0 H0 H locs) (hA : ∀ q, q < H.size → A1 q → A0 q) (hf : ∀ q, free q → A0 q) (hAX : ∀ q, q < H.size → AX q → A0 q)
    (kx : ∀ (E : String) (ce : Cell) (q9 : Addr) (u : SX) (t : State) (H1 : Heap) (locs1 : List Loc), t.heap = H1 → s.vm.Alike t.vm → px u → BX E u t → H.size ≤ H1.size → (∀ q : Nat, q < H.size → ¬ AX q → H1[q]? = H[q]?) → va_S A0 H0 H1 locs1 → H1[q9]? = some ce → ce.vm = .none → s.vm.findClass E = some ce.cls → vx_W p l e R s m args below meth c H1 locs1 (cells + mc) (slots + ms) Q (F0 m pc ls rest) q9)
    (kk : ∀ (r : Int32) (u : S) (t : State) (H1 : Heap) (locs1 : List Loc), t.heap = H1 → s.vm.Alike t.vm → post r u → B u t → H.size ≤ H1.size → (∀ q : Nat, q < H.size → ¬ A1 q → H1[q]? = H[q]?) → va_S A0 H0 H1 locs1 → W p l e R s m args below meth c H1 locs1 (cells + mc) (slots + ms) Q (F0 m (pc + 3) ls (.int r :: rest))) : W p l e R s m args below meth c H locs cells slots Q (F0 m pc ls st0) := sorry
theorem vx_calll {S SX : Type} {post : Int64 → S → Prop} {px : SX → Prop} {B : S → State → Prop} {BX : String → SX → State → Prop} {AX : Nat → Prop} (hr : vx_Run p l e R s m args below meth c H locs cells slots mc ms (F0 m pc ls st0) rest (va_Ql post B A1 a) (vx_X px BX AX) free) (hS : va_S A0 H0 H locs) (hA : ∀ q, q < H.size → A1 q → A0 q) (hf : ∀ q, free q → A0 q) (hAX : ∀ q, q < H.size → AX q → A0 q)
    (kx : ∀ (E : String) (ce : Cell) (q9 : Addr) (u : SX) (t : State) (H1 : Heap) (locs1 : List Loc), t.heap = H1 → s.vm.Alike t.vm → px u → BX E u t → H.size ≤ H1.size → (∀ q : Nat, q < H.size → ¬ AX q → H1[q]? = H[q]?) → va_S A0 H0 H1 locs1 → H1[q9]? = some ce → ce.vm = .none → s.vm.findClass E = some ce.cls → vx_W p l e R s m args below meth c H1 locs1 (cells + mc) (slots + ms) Q (F0 m pc ls rest) q9)
    (kk : ∀ (r : Int64) (u : S) (t : State) (H1 : Heap) (locs1 : List Loc), t.heap = H1 → s.vm.Alike t.vm → post r u → B u t → H.size ≤ H1.size → (∀ q : Nat, q < H.size → ¬ A1 q → H1[q]? = H[q]?) → va_S A0 H0 H1 locs1 → W p l e R s m args below meth c H1 locs1 (cells + mc) (slots + ms) Q (F0 m (pc + 3) ls (.long r :: rest))) : W p l e R s m args below meth c H locs cells slots Q (F0 m pc ls st0) := sorry
theorem vx_callf {S SX : Type} {post : UInt32 → S → Prop} {px : SX → Prop} {B : S → State → Prop} {BX : String → SX → State → Prop} {AX : Nat → Prop} (hr : vx_Run p l e R s m args below meth c H locs cells slots mc ms (F0 m pc ls st0) rest (va_Qf post B A1 a) (vx_X px BX AX) free) (hS : va_S A0 H0 H locs) (hA : ∀ q, q < H.size → A1 q → A0 q) (hf : ∀ q, free q → A0 q) (hAX : ∀ q, q < H.size → AX q → A0 q)
    (kx : ∀ (E : String) (ce : Cell) (q9 : Addr) (u : SX) (t : State) (H1 : Heap) (locs1 : List Loc), t.heap = H1 → s.vm.Alike t.vm → px u → BX E u t → H.size ≤ H1.size → (∀ q : Nat, q < H.size → ¬ AX q → H1[q]? = H[q]?) → va_S A0 H0 H1 locs1 → H1[q9]? = some ce → ce.vm = .none → s.vm.findClass E = some ce.cls → vx_W p l e R s m args below meth c H1 locs1 (cells + mc) (slots + ms) Q (F0 m pc ls rest) q9)
    (kk : ∀ (r : UInt32) (u : S) (t : State) (H1 : Heap) (locs1 : List Loc), t.heap = H1 → s.vm.Alike t.vm → post r u → B u t → H.size ≤ H1.size → (∀ q : Nat, q < H.size → ¬ A1 q → H1[q]? = H[q]?) → va_S A0 H0 H1 locs1 → W p l e R s m args below meth c H1 locs1 (cells + mc) (slots + ms) Q (F0 m (pc + 3) ls (.float r :: rest))) : W p l e R s m args below meth c H locs cells slots Q (F0 m pc ls st0) := sorry
theorem vx_calld {S SX : Type} {post : UInt64 → S → Prop} {px : SX → Prop} {B : S → State → Prop} {BX : String → SX → State → Prop} {AX : Nat → Prop} (hr : vx_Run p l e R s m args below meth c H locs cells slots mc ms (F0 m pc ls st0) rest (va_Qd post B A1 a) (vx_X px BX AX) free) (hS : va_S A0 H0 H locs) (hA : ∀ q, q < H.size → A1 q → A0 q) (hf : ∀ q, free q → A0 q) (hAX : ∀ q, q < H.size → AX q → A0 q)
    (kx : ∀ (E : String) (ce : Cell) (q9 : Addr) (u : SX) (t : State) (H1 : Heap) (locs1 : List Loc), t.heap = H1 → s.vm.Alike t.vm → px u → BX E u t → H.size ≤ H1.size → (∀ q : Nat, q < H.size → ¬ AX q → H1[q]? = H[q]?) → va_S A0 H0 H1 locs1 → H1[q9]? = some ce → ce.vm = .none → s.vm.findClass E = some ce.cls → vx_W p l e R s m args below meth c H1 locs1 (cells + mc) (slots + ms) Q (F0 m pc ls rest) q9)
    (kk : ∀ (r : UInt64) (u : S) (t : State) (H1 : Heap) (locs1 : List Loc), t.heap = H1 → s.vm.Alike t.vm → post r u → B u t → H.size ≤ H1.size → (∀ q : Nat, q < H.size → ¬ A1 q → H1[q]? = H[q]?) → va_S A0 H0 H1 locs1 → W p l e R s m args below meth c H1 locs1 (cells + mc) (slots + ms) Q (F0 m (pc + 3) ls (.double r :: rest))) : W p l e R s m args below meth c H locs cells slots Q (F0 m pc ls st0) := sorry
theorem vx_callv {S SX : Type} {post : S → Prop} {px : SX → Prop} {B : S → State → Prop} {BX : String → SX → State → Prop} {AX : Nat → Prop} (hr : vx_Run p l e R s m args below meth c H locs cells slots mc ms (F0 m pc ls st0) rest (va_Qv post B A1 a) (vx_X px BX AX) free) (hS : va_S A0 H0 H locs) (hA : ∀ q, q < H.size → A1 q → A0 q) (hf : ∀ q, free q → A0 q) (hAX : ∀ q, q < H.size → AX q → A0 q)
    (kx : ∀ (E : String) (ce : Cell) (q9 : Addr) (u : SX) (t : State) (H1 : Heap) (locs1 : List Loc), t.heap = H1 → s.vm.Alike t.vm → px u → BX E u t → H.size ≤ H1.size → (∀ q : Nat, q < H.size → ¬ AX q → H1[q]? = H[q]?) → va_S A0 H0 H1 locs1 → H1[q9]? = some ce → ce.vm = .none → s.vm.findClass E = some ce.cls → vx_W p l e R s m args below meth c H1 locs1 (cells + mc) (slots + ms) Q (F0 m pc ls rest) q9)
    (kk : ∀ (u : S) (t : State) (H1 : Heap) (locs1 : List Loc), t.heap = H1 → s.vm.Alike t.vm → post u → B u t → H.size ≤ H1.size → (∀ q : Nat, q < H.size → ¬ A1 q → H1[q]? = H[q]?) → va_S A0 H0 H1 locs1 → W p l e R s m args below meth c H1 locs1 (cells + mc) (slots + ms) Q (F0 m (pc + 3) ls (rest))) : W p l e R s m args below meth c H locs cells slots Q (F0 m pc ls st0) := sorry
end Rows
section Ends
variable {p : Program} {l : Launch} {e : Env} {R : Room} {s : State} {m : MethodId} {args : Array Value} {below : List Frame} {meth : Method} {c : Code} {H : Heap} {locs : List Loc} {cells slots : Nat} {Q : State → Prop}
variable {mc ms : Nat} {free : Addr → Prop} {A0 A1 : Nat → Prop} {H0 : Heap} {a : Array Value} {ls : Array Slot} {st0 rest : List Value}
variable {Qc : Array Value → State → Outcome → State → Prop} {XC : String → State → State → Prop}
def vx_MQ (below : List Frame) (Qc : Array Value → State → Outcome → State → Prop) (XC : String → State → State → Prop) (a : Array Value) (s : State) (mc ms : Nat) (free : Addr → Prop) : State → Prop := fun t =>
  ∃ o, t.status = .running ∧ Ended t below o ∧ vx_Q Qc XC mc ms free a s o t
theorem vx_ret {g : JFrame} {mc ms : Nat} (k : W p l e R s m args below meth c H locs cells slots (MQ below Qc args s mc ms free) g) : W p l e R s m args below meth c H locs cells slots (vx_MQ below Qc XC args s mc ms free) g := sorry
theorem vx_widen {g : JFrame} {q : Addr} {k n : Nat} (h1 : cells ≤ k) (h2 : slots ≤ n) (kk : vx_W p l e R s m args below meth c H locs k n Q g q) : vx_W p l e R s m args below meth c H locs cells slots Q g q := fun T hT X => kk T hT (stand_widen X h1 h2)
theorem vx_out {pc : Nat} {E : String} {ce : Cell} {q : Addr} {mc ms : Nat} (hout : ∀ x ∈ c.exceptionTable.toList, covers x pc = false) (hlocks : meth.locks = false) (hcell : H[q]? = some ce) (hv : ce.vm = .none) (hcl : s.vm.findClass E = some ce.cls)
    (hx : ∀ t : State, t.heap = H → s.vm.Alike t.vm → XC E s t) (hf : ∀ z ∈ locs, free z.base) (hc : cells ≤ mc) (hs : slots ≤ ms) :
    vx_W p l e R s m args below meth c H locs cells slots (vx_MQ below Qc XC args s mc ms free) (F0 m pc ls rest) q := sorry
theorem vx_frame {U : State} {k n : Nat} (h : s.sameButNew ({ U with vm := s.vm } : State) locs k n) : s.heap.size ≤ U.heap.size ∧ ∀ q : Nat, q < s.heap.size → (∀ z ∈ locs, z.base ≠ q) → U.heap[q]? = s.heap[q]? := sorry
def vx_no (w : Cond) : Bool := decide (w ≠ .isRef (.static Bundle.tN "UNASSIGNED_STACK" Bundle.steD)) && decide (w ≠ .isRef (.static Bundle.tN "SUPPRESSED_SENTINEL" Bundle.listD)) && decide (w ≠ .laysStatic Bundle.tN "UNASSIGNED_STACK" Bundle.steD) && decide (w ≠ .laysStatic Bundle.tN "SUPPRESSED_SENTINEL" Bundle.listD)
def vx_at0 (own : String) (ic : Nat) (X : String) (names : List String) : List Cond := (Bundle.ownAtoms0 own ic X names).filter vx_no
def vx_atS (own : String) (ic : Nat) (X : String) (names : List String) : List Cond := (Bundle.ownAtoms own ic X names).filter vx_no
def vx_ot (w : Cond) : Bool := w.onTables || goodWord w
theorem vx_ot_at {args a' : Array Value} {s U : State} {w : Cond} (hW : s.WarmedH U.vm) (hvm : s.vm = U.vm) (hg : vx_ot w = true) (h : w.before args s = true) : w.before a' U = true := sorry
theorem vx_hat {args : Array Value} {s : State} {L B : List Cond} (h1 : ∀ w ∈ L.filter goodWord, w.before args s = true) (h2 : ∀ w ∈ L.filter (fun w => !goodWord w), w ∈ B) (h3 : ∀ w ∈ B, w.before args s = true) : ∀ w ∈ L, w.before args s = true := sorry
theorem vx_c {args : Array Value} {s : State} {w : Cond} {B : List Cond} (h : w.before args s = true) (t : ∀ w ∈ B, w.before args s = true) : ∀ w' ∈ w :: B, w'.before args s = true := fun w' h' => (List.mem_cons.mp h').elim (fun e => by rw [e]; exact h) (t w')
theorem vx_n {args : Array Value} {s : State} : ∀ w ∈ ([] : List Cond), w.before args s = true := fun _ h => nomatch h
theorem vx_own {args : Array Value} {s : State} {L : List Cond} (h1 : ∀ w ∈ L.filter vx_no, w.before args s = true)
    (hU : (Cond.isRef (.static Bundle.tN "UNASSIGNED_STACK" Bundle.steD)).before args s = true) (hN : (Cond.isRef (.static Bundle.tN "SUPPRESSED_SENTINEL" Bundle.listD)).before args s = true)
    (lU : (Cond.laysStatic Bundle.tN "UNASSIGNED_STACK" Bundle.steD).before args s = true) (lN : (Cond.laysStatic Bundle.tN "SUPPRESSED_SENTINEL" Bundle.listD).before args s = true) : ∀ w ∈ L, w.before args s = true := sorry
def vx_L (C n d : String) (A : Nat → Prop) (U : State) (H : Heap) : Prop := ∃ (c : ClassId) (k : Class) (i : Nat) (f : Field) (a : Nat) (cell : Cell), U.vm.findClass C = some c ∧ U.fieldFound? C n d = some (c, k, i, f) ∧ f.isStatic = true ∧ k.statics = some a ∧ H[a]? = some cell ∧ cell.vm.isStatics = true ∧ cell.cls = c ∧ f.slot < cell.slots.size ∧ k.staticTypes[f.slot]? = some f.type ∧ ¬ A a
theorem vx_L.moved {C n d : String} {A : Nat → Prop} {u U : State} {H : Heap} (hvm : u.vm.Alike U.vm) (h : vx_L C n d A u H) : vx_L C n d A U H := sorry
theorem vx_L.kept {C n d : String} {A : Nat → Prop} {U : State} {H H1 : Heap} (h : vx_L C n d A U H) (hq : ∀ a : Nat, a < H.size → ¬ A a → H1[a]? = H[a]?) : vx_L C n d A U H1 := sorry
theorem vx_L.narrow {C n d : String} {A B : Nat → Prop} {U : State} {H : Heap} (h : vx_L C n d A U H) (hAB : ∀ q, B q → A q) : vx_L C n d B U H := sorry
theorem vx_L.word {C n d : String} {A : Nat → Prop} {s : State} {args : Array Value} (h : vx_L C n d A s s.heap) : (Cond.laysStatic C n d).before args s = true := sorry
def vx_Zq (C n d : String) (A : Nat → Prop) (U : State) (H : Heap) : Prop := va_Zq C n d A U H ∧ vx_L C n d A U H
theorem vx_Zq.moved {C n d : String} {A : Nat → Prop} {u U : State} {H : Heap} (hvm : u.vm.Alike U.vm) (h : vx_Zq C n d A u H) : vx_Zq C n d A U H := ⟨va_Zq.moved hvm h.1, vx_L.moved hvm h.2⟩
theorem vx_Zq.kept {C n d : String} {A : Nat → Prop} {U : State} {H H1 : Heap} (h : vx_Zq C n d A U H) (hq : ∀ a : Nat, a < H.size → ¬ A a → H1[a]? = H[a]?) : vx_Zq C n d A U H1 := ⟨va_Zq.kept h.1 hq, vx_L.kept h.2 hq⟩
theorem vx_Zq.narrow {C n d : String} {A B : Nat → Prop} {U : State} {H : Heap} (h : vx_Zq C n d A U H) (hAB : ∀ q, B q → A q) : vx_Zq C n d B U H := ⟨va_Zq.narrow h.1 hAB, vx_L.narrow h.2 hAB⟩
theorem vx_Zqof {args : Array Value} {s : State} {C n d : String} {A : Nat → Prop} (hl : (Cond.laysStatic C n d).before args s = true) (hini : (Cond.initialized C).before args s = true) (h : (Cond.isRef (.static C n d)).before args s = true) (hA : ∀ a : Nat, a < s.heap.size → ¬ A a) : vx_Zq C n d A s s.heap := sorry
theorem vx_isRef {C n d : String} {v : Value} {A : Nat → Prop} {s : State} {args : Array Value} (h : va_Z C n d v A s s.heap) (hv : v.isRef = true) : (Cond.isRef (.static C n d)).before args s = true := sorry
theorem vx_isRefq {C n d : String} {A : Nat → Prop} {s : State} {args : Array Value} (h : va_Zq C n d A s s.heap) : (Cond.isRef (.static C n d)).before args s = true := sorry
theorem vx_rebase {T : State} (X : Stand p l e R s m args below meth c T locs cells slots) {R' : Room} (hf : R'.frames ≤ R.frames) (hl : R'.locals ≤ R.locals) (hc : cells + R'.cells ≤ R.cells) (hs : slots + R'.slots ≤ R.slots) :
    Stand p l e R' ((T.setVm s.vm).setFrames (.invoking m args :: below)) m args below meth c T [] 0 0 := sorry
theorem vx_throw0 {cc : ByteArray} {pc : Nat} (hexec : p.tables.exec = Jvm.exec) (hb : c.code = cc) (hl : l.stackTraces = false) {own cls : String} {names : List String} {ik ic mc ms : Nat} {A : Nat → Prop}
    (hown : s.vm.findClass own = some m.cls) (hcls : Bundle.fit cls = true) (hnames : ∀ n ∈ names, Bundle.fit n = true)
    (hk : (Cond.classLink own ik cls).before args s = true) (hini : (Cond.initialized cls).before args s = true) (hat : ∀ w ∈ vx_at0 own ic cls names, w.before args s = true)
    (hgood : ∀ w ∈ Cond.classLink own ik cls :: Cond.initialized cls :: vx_at0 own ic cls names, vx_ot w = true)
    (hU : vx_Zq Bundle.tN "UNASSIGNED_STACK" Bundle.steD A s s.heap) (hN : vx_Zq Bundle.tN "SUPPRESSED_SENTINEL" Bundle.listD A s s.heap) (hS : va_S A s.heap H locs) (hsize : ls.size = c.maxLocals)
    (d0 : decode cc pc = .ok (.new ik, 3)) (d3 : decode cc (pc + 3) = .ok (.dup, 1)) (d4 : decode cc (pc + 4) = .ok (.invokespecial ic, 3)) (d7 : decode cc (pc + 7) = .ok (.athrow, 1))
    (hout : ∀ x ∈ c.exceptionTable.toList, covers x (pc + 7) = false)
    (hRframes : names.length + 3 < R.frames) (hRlocals : (rest.map fun v => v.category).sum + (13 * (names.length + 1) + 42) ≤ R.locals) (hRcells : cells + 1 ≤ R.cells) (hRslots : slots + 6 ≤ R.slots) (hlocks : meth.locks = false)
    (hx : ∀ t : State, s.vm.Alike t.vm → H.size ≤ t.heap.size → (∀ q : Nat, q < H.size → t.heap[q]? = H[q]?) → XC cls s t)
    (hf : ∀ z ∈ locs, free z.base) (hc : cells + 1 ≤ mc) (hs : slots + 6 ≤ ms) :
    W p l e R s m args below meth c H locs cells slots (vx_MQ below Qc XC args s mc ms free) (F0 m pc ls rest) := sorry
theorem vx_throwS {cc : ByteArray} {pc : Nat} (hexec : p.tables.exec = Jvm.exec) (hb : c.code = cc) (hl : l.stackTraces = false) {own cls text : String} {names : List String} {ik is ic mc ms sa : Nat} {A : Nat → Prop}
    (hown : s.vm.findClass own = some m.cls) (hcls : Bundle.fit cls = true) (hnames : ∀ n ∈ names, Bundle.fit n = true)
    (hk : (Cond.classLink own ik cls).before args s = true) (hini : (Cond.initialized cls).before args s = true) (hstr : vk_R own is text sa s) (hat : ∀ w ∈ vx_atS own ic cls names, w.before args s = true)
    (hgood : ∀ w ∈ Cond.classLink own ik cls :: Cond.initialized cls :: vx_atS own ic cls names, vx_ot w = true)
    (hU : vx_Zq Bundle.tN "UNASSIGNED_STACK" Bundle.steD A s s.heap) (hN : vx_Zq Bundle.tN "SUPPRESSED_SENTINEL" Bundle.listD A s s.heap) (hS : va_S A s.heap H locs) (hsize : ls.size = c.maxLocals)
    (d0 : decode cc pc = .ok (.new ik, 3)) (d3 : decode cc (pc + 3) = .ok (.dup, 1)) (d4 : decode cc (pc + 4) = .ok (.ldc is, 2)) (d6 : decode cc (pc + 6) = .ok (.invokespecial ic, 3)) (d9 : decode cc (pc + 9) = .ok (.athrow, 1))
    (hout : ∀ x ∈ c.exceptionTable.toList, covers x (pc + 9) = false)
    (hRframes : names.length + 3 < R.frames) (hRlocals : (rest.map fun v => v.category).sum + (13 * (names.length + 1) + 43) ≤ R.locals) (hRcells : cells + 1 ≤ R.cells) (hRslots : slots + 6 ≤ R.slots) (hlocks : meth.locks = false)
    (hx : ∀ t : State, s.vm.Alike t.vm → H.size ≤ t.heap.size → (∀ q : Nat, q < H.size → t.heap[q]? = H[q]?) → XC cls s t)
    (hf : ∀ z ∈ locs, free z.base) (hc : cells + 1 ≤ mc) (hs : slots + 6 ≤ ms) :
    W p l e R s m args below meth c H locs cells slots (vx_MQ below Qc XC args s mc ms free) (F0 m pc ls rest) := sorry
theorem vx_throwSW {cc : ByteArray} {pc : Nat} (hexec : p.tables.exec = Jvm.exec) (hb : c.code = cc) (hl : l.stackTraces = false) {own cls text : String} {names : List String} {ik is ic mc ms sa : Nat} {A : Nat → Prop}
    (hown : s.vm.findClass own = some m.cls) (hcls : Bundle.fit cls = true) (hnames : ∀ n ∈ names, Bundle.fit n = true)
    (hk : (Cond.classLink own ik cls).before args s = true) (hini : (Cond.initialized cls).before args s = true) (hstr : vk_R own is text sa s) (hat : ∀ w ∈ vx_atS own ic cls names, w.before args s = true)
    (hgood : ∀ w ∈ Cond.classLink own ik cls :: Cond.initialized cls :: vx_atS own ic cls names, vx_ot w = true)
    (hU : vx_Zq Bundle.tN "UNASSIGNED_STACK" Bundle.steD A s s.heap) (hN : vx_Zq Bundle.tN "SUPPRESSED_SENTINEL" Bundle.listD A s s.heap) (hS : va_S A s.heap H locs) (hsize : ls.size = c.maxLocals)
    (d0 : decode cc pc = .ok (.new ik, 3)) (d3 : decode cc (pc + 3) = .ok (.dup, 1)) (d4 : decode cc (pc + 4) = .ok (.ldc_w is, 3)) (d7 : decode cc (pc + 7) = .ok (.invokespecial ic, 3)) (d10 : decode cc (pc + 10) = .ok (.athrow, 1))
    (hout : ∀ x ∈ c.exceptionTable.toList, covers x (pc + 10) = false)
    (hRframes : names.length + 3 < R.frames) (hRlocals : (rest.map fun v => v.category).sum + (13 * (names.length + 1) + 43) ≤ R.locals) (hRcells : cells + 1 ≤ R.cells) (hRslots : slots + 6 ≤ R.slots) (hlocks : meth.locks = false)
    (hx : ∀ t : State, s.vm.Alike t.vm → H.size ≤ t.heap.size → (∀ q : Nat, q < H.size → t.heap[q]? = H[q]?) → XC cls s t)
    (hf : ∀ z ∈ locs, free z.base) (hc : cells + 1 ≤ mc) (hs : slots + 6 ≤ ms) :
    W p l e R s m args below meth c H locs cells slots (vx_MQ below Qc XC args s mc ms free) (F0 m pc ls rest) := sorry
end Ends
section Bodies
variable {l : Launch}
theorem vx_ofW {y : MethodName} {ws ws' : List Cond} {rm : Room} {Pc : Array Value → State → Prop} {Qc : Array Value → State → Outcome → State → Prop} {XC : String → State → State → Prop} {mc ms : Nat} {free : Addr → Prop} {cc : ByteArray} {maxL : Nat} {ret : Option FieldType}
    (hy : plainName y.cls = true) (hw : ws = Cond.code y cc maxL ret :: ws')
    (body : ∀ p e s m args below meth c s₁, BodyLoose p l y (headSpec ws rm) cc maxL ret e s m args below meth c s₁ → c.maxLocals = maxL → (∀ x ∈ c.exceptionTable.toList, False) → Pc args s →
      W p l e (headSpec ws rm).room s m args below meth c s.heap [] 0 0 (vx_MQ below Qc XC args s mc ms free) (entryFrame m args maxL)) : vx_Met l y ws rm Pc Qc XC mc ms free := sorry
theorem vx_table {p : Program} {x y : MethodName} {S : Spec} {cc bytes : ByteArray} {maxL maxL' : Nat} {ret ret' : Option FieldType} {e : Env} {s s₁ : State} {m : MethodId} {args : Array Value} {below : List Frame} {meth : Method} {c : Code} {hh : List (Nat × Nat × Nat × Nat)}
    (B : BodyLoose p l y S cc maxL ret e s m args below meth c s₁) (h : (Cond.codeWith y bytes maxL' ret' hh).before args s = true) : c.exceptionTable.toList = tableOf hh := sorry
end Bodies
end VXA
section VXS
variable {p : Program} {l : Launch} {e : Env} {R : Room} {s : State} {m : MethodId} {args : Array Value} {below : List Frame} {meth : Method} {c : Code} {T : State} {H : Heap} {locs : List Loc} {cells slots : Nat}
abbrev vx_CSW (R : Room) (s : State) (args : Array Value) (own : String) (index : Nat) (y : MethodName) (bytes : ByteArray) (maxL : Nat) (ret : Option FieldType) (hh : List (Nat × Nat × Nat × Nat)) (ws : List Cond) (rm : Room) (mc ms n : Nat) : Prop :=
  (rm.cells = mc ∧ rm.slots = ms ∧ rm.frames + 1 ≤ R.frames ∧ 8 + (maxL + 11) + rm.locals ≤ R.locals ∧ (∀ w ∈ ws, ∀ (a' : Array Value) (U : State), s.WarmedH U.vm → w.before a' U = true) ∧ Cond.codeWith y bytes maxL ret hh ∈ ws) ∧
  (Cond.codeWith y bytes maxL ret hh).before args s = true ∧ (Cond.initialized y.cls).before args s = true ∧ (y.cls ≠ "java/lang/invoke/MethodHandle" ∧ y.cls ≠ "java/lang/invoke/VarHandle") ∧
  (∀ sig, parseMethodDescriptor y.desc = some sig → n = sig.parameters.length) ∧ (Cond.methodLink own index y).before args s = true ∧ (Cond.static y).before args s = true
theorem vx_cwSW {own : String} {index maxL mc ms : Nat} {y : MethodName} {bytes : ByteArray} {ret : Option FieldType} {hh : List (Nat × Nat × Nat × Nat)} {Ts ws ws' : List Cond} {rm : Room} (n : Nat) (ht : ∀ w ∈ Ts, w.before args s = true) (hT : GoodIn Ts (va_wsS own index y ws)) (hw : ws = Cond.codeWith y bytes maxL ret hh :: ws') (hrc : rm.cells = mc) (hrs : rm.slots = ms)
    (hd : y.cls ≠ "java/lang/invoke/MethodHandle" ∧ y.cls ≠ "java/lang/invoke/VarHandle" ∧ (parseMethodDescriptor y.desc).map (fun d => d.parameters.length) = some n) (hR : rm.frames + 1 ≤ R.frames ∧ 8 + (maxL + 11) + rm.locals ≤ R.locals) :
    vx_CSW R s args own index y bytes maxL ret hh ws rm mc ms n := sorry
theorem vx_callSW (X : Stand p l e R s m args below meth c T locs cells slots) (hexec : p.tables.exec = Jvm.exec) {own : String} {index : Nat} {y : MethodName} {bytes : ByteArray} {maxL : Nat} {ret : Option FieldType} {hh : List (Nat × Nat × Nat × Nat)}
    (hown : s.vm.findClass own = some m.cls) (hlink : (Cond.methodLink own index y).before args s = true) (hstat : (Cond.static y).before args s = true) (hinit : (Cond.initialized y.cls).before args s = true)
    (hcode : (Cond.codeWith y bytes maxL ret hh).before args s = true) (hy : y.cls ≠ "java/lang/invoke/MethodHandle" ∧ y.cls ≠ "java/lang/invoke/VarHandle")
    {W9 : Nat} {Pre : Pt → Array Value → Prop} {Post : Pt → Array Value → Option Value → Pt → Prop} (hK : Back l R p e below s args y 3 W9 Pre Post)
    {g : JFrame} (hg : g.method = m) (hsize : g.locals.size = c.maxLocals) {argsL rest : List Value} (hlen : ∀ sig, parseMethodDescriptor y.desc = some sig → argsL.length = sig.parameters.length)
    (hstack : g.stack = argsL.reverse ++ rest) (hW : 2 * g.monitorRoom + (rest.map fun v => v.category).sum ≤ W9) (hdg : decode c.code g.pc = .ok (.invokestatic index, 3))
    (hpre : ∀ vm₁, s.WarmedH vm₁ → Pre ⟨T.setVm vm₁, locs, cells, slots⟩ argsL.toArray) :
    ∃ (v : Option Value) (vm₁ : Vm) (B : Pt), s.WarmedH vm₁ ∧ Stand p l e R s m args below meth c B.U B.locs B.cells B.slots ∧ Post ⟨T.setVm vm₁, locs, cells, slots⟩ argsL.toArray v B ∧
      ∀ target, Steps p.tables e below (B.U.setTop { g with pc := g.pc + 3, stack := v.toList ++ rest }) target → Steps p.tables e below (T.setTop g) target := sorry
theorem vx_runSW {y : MethodName} {bytes cc : ByteArray} {maxL nL mc ms n index : Nat} {ret : Option FieldType} {hh : List (Nat × Nat × Nat × Nat)} {ws : List Cond} {rm : Room} {Pc : Array Value → State → Prop} {Qc : Array Value → State → Outcome → State → Prop} {free : Addr → Prop} {Ts : List Cond} {own : String} {As rest : List Value} {g : JFrame}
    (S : CallFix p m c cc nL s args Ts own) (hM : Met l y ws rm Pc Qc mc ms free) (cw : vx_CSW R s args own index y bytes maxL ret hh ws rm mc ms n) (hp : PreS s H Pc As)
    (hg : g.method = m) (hn : As.length = n) (hsize : g.locals.size = nL) (hstack : g.stack = As.reverse ++ rest) (hW : 2 * g.monitorRoom + (rest.map fun v => v.category).sum ≤ 8) (hdg : decode cc g.pc = .ok (.invokestatic index, 3)) (hf : cells + mc ≤ R.cells ∧ slots + ms ≤ R.slots) :
    va_Run p l e R s m args below meth c H locs cells slots mc ms g rest (Qc As.toArray) (free) := sorry
theorem vx_lt {D : va_G} {cl : List vw_C} {ws : va_W} {H1 : Heap} (h : va_P D cl ws H1) {k : Nat} {q : Nat × va_E} (hk : ws[k]? = some q) : q.1 < H1.size := (h k q hk).lt
end VXS
section VXH
section
variable {l : Launch} {R : Room} {p : Program} {e : Env} {below : List Frame} {s : State} {sargs : Array Value} {y : MethodName} {len W9 : Nat}
theorem vx_backW {ws : List Cond} {rm : Room} {Pc : Array Value → State → Prop} {Qc : Array Value → State → Outcome → State → Prop} {XC : String → State → State → Prop} {mc ms : Nat} {free : Addr → Prop} {bytes : ByteArray} {maxL : Nat} {ret : Option FieldType} {hh : List (Nat × Nat × Nat × Nat)}
    (hM : vx_Met l y ws rm Pc Qc XC mc ms free) (hblind : FrameBlind Pc) (hrc : rm.cells = mc) (hrs : rm.slots = ms)
    (hframes : rm.frames + 1 ≤ R.frames) (hlocals : W9 + (maxL + 11) + rm.locals ≤ R.locals)
    (hws : ∀ w ∈ ws, ∀ a' U, s.WarmedH U.vm → w.before a' U = true) (hcode : Cond.codeWith y bytes maxL ret hh ∈ ws) (hinit : ∀ a' U, s.WarmedH U.vm → (Cond.initialized y.cls).before a' U = true) :
    vx_Back l R p e below s sargs y len W9 (PreOf R mc ms Pc) (PostOf Qc mc ms free) (vx_Post XC mc ms free) := sorry
end
variable {p : Program} {l : Launch} {e : Env} {R : Room} {s : State} {m : MethodId} {args : Array Value} {below : List Frame} {meth : Method} {c : Code} {T : State} {H : Heap} {locs : List Loc} {cells slots : Nat}
theorem vx_callVX (X : Stand p l e R s m args below meth c T locs cells slots) (hexec : p.tables.exec = Jvm.exec) {own C : String} {index : Nat} {y : MethodName} {bytes : ByteArray} {maxL : Nat} {ret : Option FieldType} {hh : List (Nat × Nat × Nat × Nat)}
    (hown : s.vm.findClass own = some m.cls) (hlink : (Cond.methodLink own index y).before args s = true) (hinst : (Cond.instanceMethod y).before args s = true) (hsel : (Cond.selects C y y).before args s = true)
    (hcode : (Cond.codeWith y bytes maxL ret hh).before args s = true) (hy : y.cls ≠ "java/lang/invoke/MethodHandle" ∧ y.cls ≠ "java/lang/invoke/VarHandle")
    {W9 : Nat} {Pre : Pt → Array Value → Prop} {Post : Pt → Array Value → Option Value → Pt → Prop} {PostX : Pt → Array Value → Addr → Pt → Prop} (hK : vx_Back l R p e below s args y 3 W9 Pre Post PostX)
    {b : Addr} {cellB : Cell} (hcell : T.heap[b]? = some cellB) (hobj : cellB.vm.isStatics = false) (hcls : s.vm.findClass C = some cellB.cls)
    {g : JFrame} (hg : g.method = m) (hsize : g.locals.size = c.maxLocals) {argsL rest : List Value} (hlen : ∀ sig, parseMethodDescriptor y.desc = some sig → argsL.length = sig.parameters.length)
    (hstack : g.stack = argsL.reverse ++ .ref b :: rest) (hW : 2 * g.monitorRoom + (rest.map fun v => v.category).sum ≤ W9) (hdg : decode c.code g.pc = .ok (.invokevirtual index, 3))
    (hpre : ∀ vm₁, s.WarmedH vm₁ → Pre ⟨T.setVm vm₁, locs, cells, slots⟩ (Value.ref b :: argsL).toArray) :
    (∃ (v : Option Value) (vm₁ : Vm) (B : Pt), s.WarmedH vm₁ ∧ Stand p l e R s m args below meth c B.U B.locs B.cells B.slots ∧ Post ⟨T.setVm vm₁, locs, cells, slots⟩ (Value.ref b :: argsL).toArray v B ∧
      ∀ target, Steps p.tables e below (B.U.setTop { g with pc := g.pc + 3, stack := v.toList ++ rest }) target → Steps p.tables e below (T.setTop g) target) ∨
    (∃ (q : Addr) (vm₁ : Vm) (B : Pt), s.WarmedH vm₁ ∧ Stand p l e R s m args below meth c B.U B.locs B.cells B.slots ∧ PostX ⟨T.setVm vm₁, locs, cells, slots⟩ (Value.ref b :: argsL).toArray q B ∧
      Steps p.tables e below (T.setTop g) ((B.U.setTop { g with stack := rest }).pushFrame (.throwing q))) := sorry
theorem vx_callSX (X : Stand p l e R s m args below meth c T locs cells slots) (hexec : p.tables.exec = Jvm.exec) {own : String} {index : Nat} {y : MethodName} {bytes : ByteArray} {maxL : Nat} {ret : Option FieldType} {hh : List (Nat × Nat × Nat × Nat)}
    (hown : s.vm.findClass own = some m.cls) (hlink : (Cond.methodLink own index y).before args s = true) (hstat : (Cond.static y).before args s = true) (hinit : (Cond.initialized y.cls).before args s = true)
    (hcode : (Cond.codeWith y bytes maxL ret hh).before args s = true) (hy : y.cls ≠ "java/lang/invoke/MethodHandle" ∧ y.cls ≠ "java/lang/invoke/VarHandle")
    {W9 : Nat} {Pre : Pt → Array Value → Prop} {Post : Pt → Array Value → Option Value → Pt → Prop} {PostX : Pt → Array Value → Addr → Pt → Prop} (hK : vx_Back l R p e below s args y 3 W9 Pre Post PostX)
    {g : JFrame} (hg : g.method = m) (hsize : g.locals.size = c.maxLocals) {argsL rest : List Value} (hlen : ∀ sig, parseMethodDescriptor y.desc = some sig → argsL.length = sig.parameters.length)
    (hstack : g.stack = argsL.reverse ++ rest) (hW : 2 * g.monitorRoom + (rest.map fun v => v.category).sum ≤ W9) (hdg : decode c.code g.pc = .ok (.invokestatic index, 3))
    (hpre : ∀ vm₁, s.WarmedH vm₁ → Pre ⟨T.setVm vm₁, locs, cells, slots⟩ argsL.toArray) :
    (∃ (v : Option Value) (vm₁ : Vm) (B : Pt), s.WarmedH vm₁ ∧ Stand p l e R s m args below meth c B.U B.locs B.cells B.slots ∧ Post ⟨T.setVm vm₁, locs, cells, slots⟩ argsL.toArray v B ∧
      ∀ target, Steps p.tables e below (B.U.setTop { g with pc := g.pc + 3, stack := v.toList ++ rest }) target → Steps p.tables e below (T.setTop g) target) ∨
    (∃ (q : Addr) (vm₁ : Vm) (B : Pt), s.WarmedH vm₁ ∧ Stand p l e R s m args below meth c B.U B.locs B.cells B.slots ∧ PostX ⟨T.setVm vm₁, locs, cells, slots⟩ argsL.toArray q B ∧
      Steps p.tables e below (T.setTop g) ((B.U.setTop { g with stack := rest }).pushFrame (.throwing q))) := sorry
theorem vx_callVW (X : Stand p l e R s m args below meth c T locs cells slots) (hexec : p.tables.exec = Jvm.exec) {own C : String} {index : Nat} {y : MethodName} {bytes : ByteArray} {maxL : Nat} {ret : Option FieldType} {hh : List (Nat × Nat × Nat × Nat)}
    (hown : s.vm.findClass own = some m.cls) (hlink : (Cond.methodLink own index y).before args s = true) (hinst : (Cond.instanceMethod y).before args s = true) (hsel : (Cond.selects C y y).before args s = true)
    (hcode : (Cond.codeWith y bytes maxL ret hh).before args s = true) (hy : y.cls ≠ "java/lang/invoke/MethodHandle" ∧ y.cls ≠ "java/lang/invoke/VarHandle")
    {W9 : Nat} {Pre : Pt → Array Value → Prop} {Post : Pt → Array Value → Option Value → Pt → Prop} (hK : Back l R p e below s args y 3 W9 Pre Post)
    {b : Addr} {cellB : Cell} (hcell : T.heap[b]? = some cellB) (hobj : cellB.vm.isStatics = false) (hcls : s.vm.findClass C = some cellB.cls)
    {g : JFrame} (hg : g.method = m) (hsize : g.locals.size = c.maxLocals) {argsL rest : List Value} (hlen : ∀ sig, parseMethodDescriptor y.desc = some sig → argsL.length = sig.parameters.length)
    (hstack : g.stack = argsL.reverse ++ .ref b :: rest) (hW : 2 * g.monitorRoom + (rest.map fun v => v.category).sum ≤ W9) (hdg : decode c.code g.pc = .ok (.invokevirtual index, 3))
    (hpre : ∀ vm₁, s.WarmedH vm₁ → Pre ⟨T.setVm vm₁, locs, cells, slots⟩ (Value.ref b :: argsL).toArray) :
    ∃ (v : Option Value) (vm₁ : Vm) (B : Pt), s.WarmedH vm₁ ∧ Stand p l e R s m args below meth c B.U B.locs B.cells B.slots ∧ Post ⟨T.setVm vm₁, locs, cells, slots⟩ (Value.ref b :: argsL).toArray v B ∧
      ∀ target, Steps p.tables e below (B.U.setTop { g with pc := g.pc + 3, stack := v.toList ++ rest }) target → Steps p.tables e below (T.setTop g) target := sorry
abbrev vx_CVW (R : Room) (s : State) (args : Array Value) (own C : String) (index : Nat) (y : MethodName) (bytes : ByteArray) (maxL : Nat) (ret : Option FieldType) (hh : List (Nat × Nat × Nat × Nat)) (ws : List Cond) (rm : Room) (mc ms n : Nat) : Prop :=
  (rm.cells = mc ∧ rm.slots = ms ∧ rm.frames + 1 ≤ R.frames ∧ 8 + (maxL + 11) + rm.locals ≤ R.locals ∧ (∀ w ∈ ws, ∀ (a' : Array Value) (U : State), s.WarmedH U.vm → w.before a' U = true) ∧ Cond.codeWith y bytes maxL ret hh ∈ ws) ∧
  (Cond.codeWith y bytes maxL ret hh).before args s = true ∧ (Cond.initialized y.cls).before args s = true ∧ (y.cls ≠ "java/lang/invoke/MethodHandle" ∧ y.cls ≠ "java/lang/invoke/VarHandle") ∧
  (∀ sig, parseMethodDescriptor y.desc = some sig → n = sig.parameters.length) ∧ (Cond.methodLink own index y).before args s = true ∧ (Cond.instanceMethod y).before args s = true ∧ (Cond.selects C y y).before args s = true
theorem vx_cwVW {own C : String} {index maxL mc ms : Nat} {y : MethodName} {bytes : ByteArray} {ret : Option FieldType} {hh : List (Nat × Nat × Nat × Nat)} {Ts ws ws' : List Cond} {rm : Room} (n : Nat) (ht : ∀ w ∈ Ts, w.before args s = true) (hT : GoodIn Ts (wsV own index C y ws)) (hw : ws = Cond.codeWith y bytes maxL ret hh :: ws') (hrc : rm.cells = mc) (hrs : rm.slots = ms)
    (hd : y.cls = C ∧ y.cls ≠ "java/lang/invoke/MethodHandle" ∧ y.cls ≠ "java/lang/invoke/VarHandle" ∧ (parseMethodDescriptor y.desc).map (fun d => d.parameters.length) = some n) (hR : rm.frames + 1 ≤ R.frames ∧ 8 + (maxL + 11) + rm.locals ≤ R.locals) :
    vx_CVW R s args own C index y bytes maxL ret hh ws rm mc ms n := sorry
theorem vx_runVW {y : MethodName} {bytes cc : ByteArray} {maxL nL mc ms n index : Nat} {ret : Option FieldType} {hh : List (Nat × Nat × Nat × Nat)} {ws : List Cond} {rm : Room} {Pc : Array Value → State → Prop} {Qc : Array Value → State → Outcome → State → Prop} {free : Addr → Prop} {Ts : List Cond} {own C : String} {b : Addr} {As rest : List Value} {g : JFrame}
    (S : CallFix p m c cc nL s args Ts own) (hM : Met l y ws rm Pc Qc mc ms free) (cw : vx_CVW R s args own C index y bytes maxL ret hh ws rm mc ms n) (hp : PreV s H C b Pc As)
    (hg : g.method = m) (hn : As.length = n) (hsize : g.locals.size = nL) (hstack : g.stack = As.reverse ++ .ref b :: rest) (hW : 2 * g.monitorRoom + (rest.map fun v => v.category).sum ≤ 8) (hdg : decode cc g.pc = .ok (.invokevirtual index, 3)) (hf : cells + mc ≤ R.cells ∧ slots + ms ≤ R.slots) :
    va_Run p l e R s m args below meth c H locs cells slots mc ms g rest (Qc (Value.ref b :: As).toArray) free := sorry
section
variable {y : MethodName} {bytes cc : ByteArray} {maxL nL mc ms n index : Nat} {ret : Option FieldType} {ws : List Cond} {rm : Room} {Pc : Array Value → State → Prop} {Qc : Array Value → State → Outcome → State → Prop} {XC : String → State → State → Prop} {free : Addr → Prop} {Ts : List Cond} {own C : String} {b : Addr} {As rest : List Value} {g : JFrame}
theorem vx_runVX {hh : List (Nat × Nat × Nat × Nat)} (S : CallFix p m c cc nL s args Ts own) (hM : vx_Met l y ws rm Pc Qc XC mc ms free) (cw : vx_CVW R s args own C index y bytes maxL ret hh ws rm mc ms n) (hp : PreV s H C b Pc As)
    (hg : g.method = m) (hn : As.length = n) (hsize : g.locals.size = nL) (hstack : g.stack = As.reverse ++ .ref b :: rest) (hW : 2 * g.monitorRoom + (rest.map fun v => v.category).sum ≤ 8) (hdg : decode cc g.pc = .ok (.invokevirtual index, 3)) (hf : cells + mc ≤ R.cells ∧ slots + ms ≤ R.slots) :
    vx_Run p l e R s m args below meth c H locs cells slots mc ms g rest (Qc (Value.ref b :: As).toArray) XC free := sorry
theorem vx_runSX {hh : List (Nat × Nat × Nat × Nat)} (S : CallFix p m c cc nL s args Ts own) (hM : vx_Met l y ws rm Pc Qc XC mc ms free) (cw : vx_CSW R s args own index y bytes maxL ret hh ws rm mc ms n) (hp : PreS s H Pc As)
    (hg : g.method = m) (hn : As.length = n) (hsize : g.locals.size = nL) (hstack : g.stack = As.reverse ++ rest) (hW : 2 * g.monitorRoom + (rest.map fun v => v.category).sum ≤ 8) (hdg : decode cc g.pc = .ok (.invokestatic index, 3)) (hf : cells + mc ≤ R.cells ∧ slots + ms ≤ R.slots) :
    vx_Run p l e R s m args below meth c H locs cells slots mc ms g rest (Qc As.toArray) XC free := sorry
end
end VXH
theorem vx_ofWH {l : Launch} {y : MethodName} {ws ws' : List Cond} {rm : Room} {Pc : Array Value → State → Prop} {Qc : Array Value → State → Outcome → State → Prop} {XC : String → State → State → Prop} {mc ms : Nat} {free : Addr → Prop} {cc : ByteArray} {maxL : Nat} {ret : Option FieldType} {hh : List (Nat × Nat × Nat × Nat)}
    (hy : plainName y.cls = true) (hw : ws = Cond.codeWith y cc maxL ret hh :: ws')
    (body : ∀ p e s m args below meth c s₁, BodyLoose p l y (headSpec ws rm) cc maxL ret e s m args below meth c s₁ → c.maxLocals = maxL → Pc args s →
      W p l e (headSpec ws rm).room s m args below meth c s.heap [] 0 0 (vx_MQ below Qc XC args s mc ms free) (entryFrame m args maxL)) : vx_Met l y ws rm Pc Qc XC mc ms free := sorry