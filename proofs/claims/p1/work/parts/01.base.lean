def lw_okq (q : MethodName × Nat) : Prop := (q.1.cls ≠ "java/lang/invoke/MethodHandle" ∧ q.1.cls ≠ "java/lang/invoke/VarHandle") ∧ Cond.instantiable q.1.cls q.2 ∈ tables_1 ∧ Cond.privateMethod q.1 ∈ tables_1 ∧ Cond.instanceMethod q.1 ∈ tables_1
theorem lw_p0 : lw_okq (⟨"BreedingHouse$Ranks", "counted", "(III)J"⟩, 9) := ⟨⟨by decide +kernel, by decide +kernel⟩, List.mem_of_getElem? (i := 262) (by decide +kernel), List.mem_of_getElem? (i := 272) (by decide +kernel), List.mem_of_getElem? (i := 273) (by decide +kernel)⟩
theorem lw_p1 : lw_okq (⟨"BreedingHouse$Ranks", "twoParts", "(III)J"⟩, 9) := ⟨⟨by decide +kernel, by decide +kernel⟩, List.mem_of_getElem? (i := 262) (by decide +kernel), List.mem_of_getElem? (i := 296) (by decide +kernel), List.mem_of_getElem? (i := 297) (by decide +kernel)⟩
theorem lw_p2 : lw_okq (⟨"java/lang/Throwable", "fillInStackTrace", "(I)Ljava/lang/Throwable;"⟩, 6) := ⟨⟨by decide +kernel, by decide +kernel⟩, List.mem_of_getElem? (i := 671) (by decide +kernel), List.mem_of_getElem? (i := 669) (by decide +kernel), List.mem_of_getElem? (i := 670) (by decide +kernel)⟩
theorem lw_p3 : lw_okq (⟨"BreedingHouse", "needRoom", "(I)V"⟩, 20) := ⟨⟨by decide +kernel, by decide +kernel⟩, List.mem_of_getElem? (i := 31) (by decide +kernel), List.mem_of_getElem? (i := 701) (by decide +kernel), List.mem_of_getElem? (i := 702) (by decide +kernel)⟩
theorem lw_p4 : lw_okq (⟨"BreedingHouse$Texts", "node", "(ZIZ)V"⟩, 9) := ⟨⟨by decide +kernel, by decide +kernel⟩, List.mem_of_getElem? (i := 41) (by decide +kernel), List.mem_of_getElem? (i := 729) (by decide +kernel), List.mem_of_getElem? (i := 730) (by decide +kernel)⟩
theorem lw_p5 : lw_okq (⟨"BreedingHouse$Texts", "peek", "()C"⟩, 9) := ⟨⟨by decide +kernel, by decide +kernel⟩, List.mem_of_getElem? (i := 41) (by decide +kernel), List.mem_of_getElem? (i := 733) (by decide +kernel), List.mem_of_getElem? (i := 734) (by decide +kernel)⟩
theorem lw_p6 : lw_okq (⟨"BreedingHouse$Texts", "fail", "()V"⟩, 9) := ⟨⟨by decide +kernel, by decide +kernel⟩, List.mem_of_getElem? (i := 41) (by decide +kernel), List.mem_of_getElem? (i := 824) (by decide +kernel), List.mem_of_getElem? (i := 825) (by decide +kernel)⟩
theorem lw_p7 : lw_okq (⟨"BreedingHouse$Texts", "branching", "(ZIZ)V"⟩, 9) := ⟨⟨by decide +kernel, by decide +kernel⟩, List.mem_of_getElem? (i := 41) (by decide +kernel), List.mem_of_getElem? (i := 828) (by decide +kernel), List.mem_of_getElem? (i := 829) (by decide +kernel)⟩
theorem lw_p8 : lw_okq (⟨"BreedingHouse$Texts", "expect", "(C)Z"⟩, 9) := ⟨⟨by decide +kernel, by decide +kernel⟩, List.mem_of_getElem? (i := 41) (by decide +kernel), List.mem_of_getElem? (i := 839) (by decide +kernel), List.mem_of_getElem? (i := 840) (by decide +kernel)⟩
theorem lw_p9 : lw_okq (⟨"BreedingHouse$Texts", "constant", "()I"⟩, 9) := ⟨⟨by decide +kernel, by decide +kernel⟩, List.mem_of_getElem? (i := 41) (by decide +kernel), List.mem_of_getElem? (i := 844) (by decide +kernel), List.mem_of_getElem? (i := 845) (by decide +kernel)⟩
theorem lw_p10 : lw_okq (⟨"BreedingHouse$Texts", "digits", "()I"⟩, 9) := ⟨⟨by decide +kernel, by decide +kernel⟩, List.mem_of_getElem? (i := 41) (by decide +kernel), List.mem_of_getElem? (i := 848) (by decide +kernel), List.mem_of_getElem? (i := 849) (by decide +kernel)⟩
theorem lw_p11 : lw_okq (⟨"BreedingHouse$Texts", "net", "()V"⟩, 9) := ⟨⟨by decide +kernel, by decide +kernel⟩, List.mem_of_getElem? (i := 41) (by decide +kernel), List.mem_of_getElem? (i := 855) (by decide +kernel), List.mem_of_getElem? (i := 856) (by decide +kernel)⟩
theorem lw_p12 : lw_okq (⟨"BreedingHouse$Texts", "digit", "(II)I"⟩, 9) := ⟨⟨by decide +kernel, by decide +kernel⟩, List.mem_of_getElem? (i := 41) (by decide +kernel), List.mem_of_getElem? (i := 859) (by decide +kernel), List.mem_of_getElem? (i := 860) (by decide +kernel)⟩
theorem lw_p13 : lw_okq (⟨"BreedingHouse$Texts", "parts", "(I)V"⟩, 9) := ⟨⟨by decide +kernel, by decide +kernel⟩, List.mem_of_getElem? (i := 41) (by decide +kernel), List.mem_of_getElem? (i := 863) (by decide +kernel), List.mem_of_getElem? (i := 864) (by decide +kernel)⟩
theorem lw_p14 : lw_okq (⟨"BreedingHouse$Texts", "instruction", "()V"⟩, 9) := ⟨⟨by decide +kernel, by decide +kernel⟩, List.mem_of_getElem? (i := 41) (by decide +kernel), List.mem_of_getElem? (i := 867) (by decide +kernel), List.mem_of_getElem? (i := 868) (by decide +kernel)⟩
theorem lw_p15 : lw_okq (⟨"BreedingHouse$Texts", "state", "(I)V"⟩, 9) := ⟨⟨by decide +kernel, by decide +kernel⟩, List.mem_of_getElem? (i := 41) (by decide +kernel), List.mem_of_getElem? (i := 872) (by decide +kernel), List.mem_of_getElem? (i := 873) (by decide +kernel)⟩
def lw_privs_1 : List (MethodName × Nat) := [(⟨"BreedingHouse$Ranks", "counted", "(III)J"⟩, 9), (⟨"BreedingHouse$Ranks", "twoParts", "(III)J"⟩, 9), (⟨"java/lang/Throwable", "fillInStackTrace", "(I)Ljava/lang/Throwable;"⟩, 6), (⟨"BreedingHouse", "needRoom", "(I)V"⟩, 20), (⟨"BreedingHouse$Texts", "node", "(ZIZ)V"⟩, 9), (⟨"BreedingHouse$Texts", "peek", "()C"⟩, 9), (⟨"BreedingHouse$Texts", "fail", "()V"⟩, 9), (⟨"BreedingHouse$Texts", "branching", "(ZIZ)V"⟩, 9), (⟨"BreedingHouse$Texts", "expect", "(C)Z"⟩, 9), (⟨"BreedingHouse$Texts", "constant", "()I"⟩, 9), (⟨"BreedingHouse$Texts", "digits", "()I"⟩, 9), (⟨"BreedingHouse$Texts", "net", "()V"⟩, 9), (⟨"BreedingHouse$Texts", "digit", "(II)I"⟩, 9), (⟨"BreedingHouse$Texts", "parts", "(I)V"⟩, 9), (⟨"BreedingHouse$Texts", "instruction", "()V"⟩, 9), (⟨"BreedingHouse$Texts", "state", "(I)V"⟩, 9)]
theorem lw_r1 : ∀ q ∈ lw_privs_1, lw_okq q := List.forall_mem_cons.mpr ⟨lw_p0, List.forall_mem_cons.mpr ⟨lw_p1, List.forall_mem_cons.mpr ⟨lw_p2, List.forall_mem_cons.mpr ⟨lw_p3, List.forall_mem_cons.mpr ⟨lw_p4, List.forall_mem_cons.mpr ⟨lw_p5, List.forall_mem_cons.mpr ⟨lw_p6, List.forall_mem_cons.mpr ⟨lw_p7, List.forall_mem_cons.mpr ⟨lw_p8, List.forall_mem_cons.mpr ⟨lw_p9, List.forall_mem_cons.mpr ⟨lw_p10, List.forall_mem_cons.mpr ⟨lw_p11, List.forall_mem_cons.mpr ⟨lw_p12, List.forall_mem_cons.mpr ⟨lw_p13, List.forall_mem_cons.mpr ⟨lw_p14, List.forall_mem_cons.mpr ⟨lw_p15, fun _ h => absurd h List.not_mem_nil⟩⟩⟩⟩⟩⟩⟩⟩⟩⟩⟩⟩⟩⟩⟩⟩
theorem lw_p16 : lw_okq (⟨"BreedingHouse$Shape", "leads", "(II)Z"⟩, 8) := ⟨⟨by decide +kernel, by decide +kernel⟩, List.mem_of_getElem? (i := 47) (by decide +kernel), List.mem_of_getElem? (i := 897) (by decide +kernel), List.mem_of_getElem? (i := 898) (by decide +kernel)⟩
theorem lw_p17 : lw_okq (⟨"BreedingHouse$Texts", "lostEdge", "()I"⟩, 9) := ⟨⟨by decide +kernel, by decide +kernel⟩, List.mem_of_getElem? (i := 41) (by decide +kernel), List.mem_of_getElem? (i := 901) (by decide +kernel), List.mem_of_getElem? (i := 902) (by decide +kernel)⟩
theorem lw_p18 : lw_okq (⟨"BreedingHouse", "bear", "(LBreedingHouse$Program;IIIIIJ)I"⟩, 20) := ⟨⟨by decide +kernel, by decide +kernel⟩, List.mem_of_getElem? (i := 31) (by decide +kernel), List.mem_of_getElem? (i := 906) (by decide +kernel), List.mem_of_getElem? (i := 907) (by decide +kernel)⟩
theorem lw_p19 : lw_okq (⟨"BreedingHouse", "birthAt", "(I)LBreedingHouse$Program;"⟩, 20) := ⟨⟨by decide +kernel, by decide +kernel⟩, List.mem_of_getElem? (i := 31) (by decide +kernel), List.mem_of_getElem? (i := 926) (by decide +kernel), List.mem_of_getElem? (i := 927) (by decide +kernel)⟩
theorem lw_p20 : lw_okq (⟨"BreedingHouse$Texts", "writeNode", "(II)I"⟩, 9) := ⟨⟨by decide +kernel, by decide +kernel⟩, List.mem_of_getElem? (i := 41) (by decide +kernel), List.mem_of_getElem? (i := 950) (by decide +kernel), List.mem_of_getElem? (i := 951) (by decide +kernel)⟩
theorem lw_p21 : lw_okq (⟨"BreedingHouse$Texts", "number", "(I)V"⟩, 9) := ⟨⟨by decide +kernel, by decide +kernel⟩, List.mem_of_getElem? (i := 41) (by decide +kernel), List.mem_of_getElem? (i := 954) (by decide +kernel), List.mem_of_getElem? (i := 955) (by decide +kernel)⟩
theorem lw_p22 : lw_okq (⟨"BreedingHouse$Texts", "ink", "(C)V"⟩, 9) := ⟨⟨by decide +kernel, by decide +kernel⟩, List.mem_of_getElem? (i := 41) (by decide +kernel), List.mem_of_getElem? (i := 961) (by decide +kernel), List.mem_of_getElem? (i := 962) (by decide +kernel)⟩
theorem lw_p23 : lw_okq (⟨"BreedingHouse$Texts", "writeItem", "(II)V"⟩, 9) := ⟨⟨by decide +kernel, by decide +kernel⟩, List.mem_of_getElem? (i := 41) (by decide +kernel), List.mem_of_getElem? (i := 985) (by decide +kernel), List.mem_of_getElem? (i := 986) (by decide +kernel)⟩
theorem lw_p24 : lw_okq (⟨"BreedingHouse$Shape", "gather", "(II)V"⟩, 8) := ⟨⟨by decide +kernel, by decide +kernel⟩, List.mem_of_getElem? (i := 47) (by decide +kernel), List.mem_of_getElem? (i := 1021) (by decide +kernel), List.mem_of_getElem? (i := 1022) (by decide +kernel)⟩
theorem lw_p25 : lw_okq (⟨"BreedingHouse$Shape", "hand", "(II)V"⟩, 8) := ⟨⟨by decide +kernel, by decide +kernel⟩, List.mem_of_getElem? (i := 47) (by decide +kernel), List.mem_of_getElem? (i := 1026) (by decide +kernel), List.mem_of_getElem? (i := 1027) (by decide +kernel)⟩
theorem lw_p26 : lw_okq (⟨"BreedingHouse$Ranks", "grow", "(IIJI)V"⟩, 9) := ⟨⟨by decide +kernel, by decide +kernel⟩, List.mem_of_getElem? (i := 262) (by decide +kernel), List.mem_of_getElem? (i := 1080) (by decide +kernel), List.mem_of_getElem? (i := 1081) (by decide +kernel)⟩
theorem lw_p27 : lw_okq (⟨"BreedingHouse$Ranks", "waysOf", "(III)J"⟩, 9) := ⟨⟨by decide +kernel, by decide +kernel⟩, List.mem_of_getElem? (i := 262) (by decide +kernel), List.mem_of_getElem? (i := 1084) (by decide +kernel), List.mem_of_getElem? (i := 1085) (by decide +kernel)⟩
theorem lw_p28 : lw_okq (⟨"BreedingHouse$Ranks", "growTwo", "(IIIJI)V"⟩, 9) := ⟨⟨by decide +kernel, by decide +kernel⟩, List.mem_of_getElem? (i := 262) (by decide +kernel), List.mem_of_getElem? (i := 1089) (by decide +kernel), List.mem_of_getElem? (i := 1090) (by decide +kernel)⟩
theorem lw_p29 : lw_okq (⟨"BreedingHouse$Ranks", "growThree", "(IIIJI)V"⟩, 9) := ⟨⟨by decide +kernel, by decide +kernel⟩, List.mem_of_getElem? (i := 262) (by decide +kernel), List.mem_of_getElem? (i := 1093) (by decide +kernel), List.mem_of_getElem? (i := 1094) (by decide +kernel)⟩
theorem lw_p30 : lw_okq (⟨"BreedingHouse$Ranks", "rankAt", "(III)J"⟩, 9) := ⟨⟨by decide +kernel, by decide +kernel⟩, List.mem_of_getElem? (i := 262) (by decide +kernel), List.mem_of_getElem? (i := 1112) (by decide +kernel), List.mem_of_getElem? (i := 1113) (by decide +kernel)⟩
theorem lw_p31 : lw_okq (⟨"BreedingHouse$Ranks", "aheadOfTwo", "(IIII)J"⟩, 9) := ⟨⟨by decide +kernel, by decide +kernel⟩, List.mem_of_getElem? (i := 262) (by decide +kernel), List.mem_of_getElem? (i := 1120) (by decide +kernel), List.mem_of_getElem? (i := 1121) (by decide +kernel)⟩
def lw_privs_2 : List (MethodName × Nat) := [(⟨"BreedingHouse$Shape", "leads", "(II)Z"⟩, 8), (⟨"BreedingHouse$Texts", "lostEdge", "()I"⟩, 9), (⟨"BreedingHouse", "bear", "(LBreedingHouse$Program;IIIIIJ)I"⟩, 20), (⟨"BreedingHouse", "birthAt", "(I)LBreedingHouse$Program;"⟩, 20), (⟨"BreedingHouse$Texts", "writeNode", "(II)I"⟩, 9), (⟨"BreedingHouse$Texts", "number", "(I)V"⟩, 9), (⟨"BreedingHouse$Texts", "ink", "(C)V"⟩, 9), (⟨"BreedingHouse$Texts", "writeItem", "(II)V"⟩, 9), (⟨"BreedingHouse$Shape", "gather", "(II)V"⟩, 8), (⟨"BreedingHouse$Shape", "hand", "(II)V"⟩, 8), (⟨"BreedingHouse$Ranks", "grow", "(IIJI)V"⟩, 9), (⟨"BreedingHouse$Ranks", "waysOf", "(III)J"⟩, 9), (⟨"BreedingHouse$Ranks", "growTwo", "(IIIJI)V"⟩, 9), (⟨"BreedingHouse$Ranks", "growThree", "(IIIJI)V"⟩, 9), (⟨"BreedingHouse$Ranks", "rankAt", "(III)J"⟩, 9), (⟨"BreedingHouse$Ranks", "aheadOfTwo", "(IIII)J"⟩, 9)]
theorem lw_r2 : ∀ q ∈ lw_privs_2, lw_okq q := List.forall_mem_cons.mpr ⟨lw_p16, List.forall_mem_cons.mpr ⟨lw_p17, List.forall_mem_cons.mpr ⟨lw_p18, List.forall_mem_cons.mpr ⟨lw_p19, List.forall_mem_cons.mpr ⟨lw_p20, List.forall_mem_cons.mpr ⟨lw_p21, List.forall_mem_cons.mpr ⟨lw_p22, List.forall_mem_cons.mpr ⟨lw_p23, List.forall_mem_cons.mpr ⟨lw_p24, List.forall_mem_cons.mpr ⟨lw_p25, List.forall_mem_cons.mpr ⟨lw_p26, List.forall_mem_cons.mpr ⟨lw_p27, List.forall_mem_cons.mpr ⟨lw_p28, List.forall_mem_cons.mpr ⟨lw_p29, List.forall_mem_cons.mpr ⟨lw_p30, List.forall_mem_cons.mpr ⟨lw_p31, fun _ h => absurd h List.not_mem_nil⟩⟩⟩⟩⟩⟩⟩⟩⟩⟩⟩⟩⟩⟩⟩⟩
theorem lw_p32 : lw_okq (⟨"BreedingHouse$Ranks", "aheadOfThree", "(IIIII)J"⟩, 9) := ⟨⟨by decide +kernel, by decide +kernel⟩, List.mem_of_getElem? (i := 262) (by decide +kernel), List.mem_of_getElem? (i := 1124) (by decide +kernel), List.mem_of_getElem? (i := 1125) (by decide +kernel)⟩
theorem lw_p33 : lw_okq (⟨"BreedingHouse", "needCase", "(I)V"⟩, 20) := ⟨⟨by decide +kernel, by decide +kernel⟩, List.mem_of_getElem? (i := 31) (by decide +kernel), List.mem_of_getElem? (i := 1150) (by decide +kernel), List.mem_of_getElem? (i := 1151) (by decide +kernel)⟩
theorem lw_p34 : lw_okq (⟨"BreedingHouse$Runner", "work", "(II)I"⟩, 15) := ⟨⟨by decide +kernel, by decide +kernel⟩, List.mem_of_getElem? (i := 122) (by decide +kernel), List.mem_of_getElem? (i := 1188) (by decide +kernel), List.mem_of_getElem? (i := 1189) (by decide +kernel)⟩
theorem lw_p35 : lw_okq (⟨"BreedingHouse$Runner", "step", "()Z"⟩, 15) := ⟨⟨by decide +kernel, by decide +kernel⟩, List.mem_of_getElem? (i := 122) (by decide +kernel), List.mem_of_getElem? (i := 1192) (by decide +kernel), List.mem_of_getElem? (i := 1193) (by decide +kernel)⟩
theorem lw_p36 : lw_okq (⟨"BreedingHouse$Runner", "leaf", "(II)I"⟩, 15) := ⟨⟨by decide +kernel, by decide +kernel⟩, List.mem_of_getElem? (i := 122) (by decide +kernel), List.mem_of_getElem? (i := 1197) (by decide +kernel), List.mem_of_getElem? (i := 1198) (by decide +kernel)⟩
theorem lw_p37 : lw_okq (⟨"BreedingHouse$Runner", "one", "(II)I"⟩, 15) := ⟨⟨by decide +kernel, by decide +kernel⟩, List.mem_of_getElem? (i := 122) (by decide +kernel), List.mem_of_getElem? (i := 1202) (by decide +kernel), List.mem_of_getElem? (i := 1203) (by decide +kernel)⟩
theorem lw_p38 : lw_okq (⟨"BreedingHouse$Runner", "foldOn", "(III)I"⟩, 15) := ⟨⟨by decide +kernel, by decide +kernel⟩, List.mem_of_getElem? (i := 122) (by decide +kernel), List.mem_of_getElem? (i := 1206) (by decide +kernel), List.mem_of_getElem? (i := 1207) (by decide +kernel)⟩
theorem lw_p39 : lw_okq (⟨"BreedingHouse$Runner", "runCode", "()I"⟩, 15) := ⟨⟨by decide +kernel, by decide +kernel⟩, List.mem_of_getElem? (i := 122) (by decide +kernel), List.mem_of_getElem? (i := 1214) (by decide +kernel), List.mem_of_getElem? (i := 1215) (by decide +kernel)⟩
theorem lw_p40 : lw_okq (⟨"BreedingHouse$Runner", "runMachine", "()I"⟩, 15) := ⟨⟨by decide +kernel, by decide +kernel⟩, List.mem_of_getElem? (i := 122) (by decide +kernel), List.mem_of_getElem? (i := 1220) (by decide +kernel), List.mem_of_getElem? (i := 1221) (by decide +kernel)⟩
theorem lw_p41 : lw_okq (⟨"BreedingHouse$Runner", "runNet", "()I"⟩, 15) := ⟨⟨by decide +kernel, by decide +kernel⟩, List.mem_of_getElem? (i := 122) (by decide +kernel), List.mem_of_getElem? (i := 1227) (by decide +kernel), List.mem_of_getElem? (i := 1228) (by decide +kernel)⟩
theorem lw_p42 : lw_okq (⟨"BreedingHouse$Runner", "exchange", "(II)V"⟩, 15) := ⟨⟨by decide +kernel, by decide +kernel⟩, List.mem_of_getElem? (i := 122) (by decide +kernel), List.mem_of_getElem? (i := 1231) (by decide +kernel), List.mem_of_getElem? (i := 1232) (by decide +kernel)⟩
theorem lw_p43 : lw_okq (⟨"BreedingHouse", "remembered", "()I"⟩, 20) := ⟨⟨by decide +kernel, by decide +kernel⟩, List.mem_of_getElem? (i := 31) (by decide +kernel), List.mem_of_getElem? (i := 1235) (by decide +kernel), List.mem_of_getElem? (i := 1236) (by decide +kernel)⟩
theorem lw_p44 : lw_okq (⟨"BreedingHouse", "needPart", "(I)V"⟩, 20) := ⟨⟨by decide +kernel, by decide +kernel⟩, List.mem_of_getElem? (i := 31) (by decide +kernel), List.mem_of_getElem? (i := 1277) (by decide +kernel), List.mem_of_getElem? (i := 1278) (by decide +kernel)⟩
theorem lw_p45 : lw_okq (⟨"BreedingHouse", "needHow", "(I)V"⟩, 20) := ⟨⟨by decide +kernel, by decide +kernel⟩, List.mem_of_getElem? (i := 31) (by decide +kernel), List.mem_of_getElem? (i := 1355) (by decide +kernel), List.mem_of_getElem? (i := 1356) (by decide +kernel)⟩
theorem lw_p46 : lw_okq (⟨"BreedingHouse$Changer", "editCandidates", "(I)I"⟩, 13) := ⟨⟨by decide +kernel, by decide +kernel⟩, List.mem_of_getElem? (i := 329) (by decide +kernel), List.mem_of_getElem? (i := 1366) (by decide +kernel), List.mem_of_getElem? (i := 1367) (by decide +kernel)⟩
theorem lw_p47 : lw_okq (⟨"BreedingHouse$Changer", "pairCandidates", "()I"⟩, 13) := ⟨⟨by decide +kernel, by decide +kernel⟩, List.mem_of_getElem? (i := 329) (by decide +kernel), List.mem_of_getElem? (i := 1370) (by decide +kernel), List.mem_of_getElem? (i := 1371) (by decide +kernel)⟩
def lw_privs_3 : List (MethodName × Nat) := [(⟨"BreedingHouse$Ranks", "aheadOfThree", "(IIIII)J"⟩, 9), (⟨"BreedingHouse", "needCase", "(I)V"⟩, 20), (⟨"BreedingHouse$Runner", "work", "(II)I"⟩, 15), (⟨"BreedingHouse$Runner", "step", "()Z"⟩, 15), (⟨"BreedingHouse$Runner", "leaf", "(II)I"⟩, 15), (⟨"BreedingHouse$Runner", "one", "(II)I"⟩, 15), (⟨"BreedingHouse$Runner", "foldOn", "(III)I"⟩, 15), (⟨"BreedingHouse$Runner", "runCode", "()I"⟩, 15), (⟨"BreedingHouse$Runner", "runMachine", "()I"⟩, 15), (⟨"BreedingHouse$Runner", "runNet", "()I"⟩, 15), (⟨"BreedingHouse$Runner", "exchange", "(II)V"⟩, 15), (⟨"BreedingHouse", "remembered", "()I"⟩, 20), (⟨"BreedingHouse", "needPart", "(I)V"⟩, 20), (⟨"BreedingHouse", "needHow", "(I)V"⟩, 20), (⟨"BreedingHouse$Changer", "editCandidates", "(I)I"⟩, 13), (⟨"BreedingHouse$Changer", "pairCandidates", "()I"⟩, 13)]
theorem lw_r3 : ∀ q ∈ lw_privs_3, lw_okq q := List.forall_mem_cons.mpr ⟨lw_p32, List.forall_mem_cons.mpr ⟨lw_p33, List.forall_mem_cons.mpr ⟨lw_p34, List.forall_mem_cons.mpr ⟨lw_p35, List.forall_mem_cons.mpr ⟨lw_p36, List.forall_mem_cons.mpr ⟨lw_p37, List.forall_mem_cons.mpr ⟨lw_p38, List.forall_mem_cons.mpr ⟨lw_p39, List.forall_mem_cons.mpr ⟨lw_p40, List.forall_mem_cons.mpr ⟨lw_p41, List.forall_mem_cons.mpr ⟨lw_p42, List.forall_mem_cons.mpr ⟨lw_p43, List.forall_mem_cons.mpr ⟨lw_p44, List.forall_mem_cons.mpr ⟨lw_p45, List.forall_mem_cons.mpr ⟨lw_p46, List.forall_mem_cons.mpr ⟨lw_p47, fun _ h => absurd h List.not_mem_nil⟩⟩⟩⟩⟩⟩⟩⟩⟩⟩⟩⟩⟩⟩⟩⟩
theorem lw_p48 : lw_okq (⟨"BreedingHouse$Changer", "nudged", "(III)Z"⟩, 13) := ⟨⟨by decide +kernel, by decide +kernel⟩, List.mem_of_getElem? (i := 329) (by decide +kernel), List.mem_of_getElem? (i := 1383) (by decide +kernel), List.mem_of_getElem? (i := 1384) (by decide +kernel)⟩
theorem lw_p49 : lw_okq (⟨"BreedingHouse$Changer", "resorted", "(II)Z"⟩, 13) := ⟨⟨by decide +kernel, by decide +kernel⟩, List.mem_of_getElem? (i := 329) (by decide +kernel), List.mem_of_getElem? (i := 1389) (by decide +kernel), List.mem_of_getElem? (i := 1390) (by decide +kernel)⟩
theorem lw_p50 : lw_okq (⟨"BreedingHouse$Changer", "leafFits", "(II)Z"⟩, 13) := ⟨⟨by decide +kernel, by decide +kernel⟩, List.mem_of_getElem? (i := 329) (by decide +kernel), List.mem_of_getElem? (i := 1401) (by decide +kernel), List.mem_of_getElem? (i := 1402) (by decide +kernel)⟩
theorem lw_p51 : lw_okq (⟨"BreedingHouse$Changer", "toGraft", "(LBreedingHouse$Program;II)Z"⟩, 13) := ⟨⟨by decide +kernel, by decide +kernel⟩, List.mem_of_getElem? (i := 329) (by decide +kernel), List.mem_of_getElem? (i := 1407) (by decide +kernel), List.mem_of_getElem? (i := 1408) (by decide +kernel)⟩
theorem lw_p52 : lw_okq (⟨"BreedingHouse$Changer", "grafted", "(I)Z"⟩, 13) := ⟨⟨by decide +kernel, by decide +kernel⟩, List.mem_of_getElem? (i := 329) (by decide +kernel), List.mem_of_getElem? (i := 1411) (by decide +kernel), List.mem_of_getElem? (i := 1412) (by decide +kernel)⟩
theorem lw_p53 : lw_okq (⟨"BreedingHouse$Changer", "partFits", "(II)Z"⟩, 13) := ⟨⟨by decide +kernel, by decide +kernel⟩, List.mem_of_getElem? (i := 329) (by decide +kernel), List.mem_of_getElem? (i := 1420) (by decide +kernel), List.mem_of_getElem? (i := 1421) (by decide +kernel)⟩
theorem lw_p54 : lw_okq (⟨"BreedingHouse$Changer", "nodesFit", "(II)Z"⟩, 13) := ⟨⟨by decide +kernel, by decide +kernel⟩, List.mem_of_getElem? (i := 329) (by decide +kernel), List.mem_of_getElem? (i := 1424) (by decide +kernel), List.mem_of_getElem? (i := 1425) (by decide +kernel)⟩
theorem lw_p55 : lw_okq (⟨"BreedingHouse$Changer", "reinstructed", "(II)Z"⟩, 13) := ⟨⟨by decide +kernel, by decide +kernel⟩, List.mem_of_getElem? (i := 329) (by decide +kernel), List.mem_of_getElem? (i := 1428) (by decide +kernel), List.mem_of_getElem? (i := 1429) (by decide +kernel)⟩
theorem lw_p56 : lw_okq (⟨"BreedingHouse$Changer", "leftOut", "(II)Z"⟩, 13) := ⟨⟨by decide +kernel, by decide +kernel⟩, List.mem_of_getElem? (i := 329) (by decide +kernel), List.mem_of_getElem? (i := 1435) (by decide +kernel), List.mem_of_getElem? (i := 1436) (by decide +kernel)⟩
theorem lw_p57 : lw_okq (⟨"BreedingHouse$Changer", "inserted", "(II)Z"⟩, 13) := ⟨⟨by decide +kernel, by decide +kernel⟩, List.mem_of_getElem? (i := 329) (by decide +kernel), List.mem_of_getElem? (i := 1439) (by decide +kernel), List.mem_of_getElem? (i := 1440) (by decide +kernel)⟩
theorem lw_p58 : lw_okq (⟨"BreedingHouse$Changer", "joined", "(II)Z"⟩, 13) := ⟨⟨by decide +kernel, by decide +kernel⟩, List.mem_of_getElem? (i := 329) (by decide +kernel), List.mem_of_getElem? (i := 1443) (by decide +kernel), List.mem_of_getElem? (i := 1444) (by decide +kernel)⟩
theorem lw_p59 : lw_okq (⟨"BreedingHouse$Changer", "edgeMoved", "(II)Z"⟩, 13) := ⟨⟨by decide +kernel, by decide +kernel⟩, List.mem_of_getElem? (i := 329) (by decide +kernel), List.mem_of_getElem? (i := 1447) (by decide +kernel), List.mem_of_getElem? (i := 1448) (by decide +kernel)⟩
theorem lw_p60 : lw_okq (⟨"BreedingHouse$Changer", "stateAdded", "(I)Z"⟩, 13) := ⟨⟨by decide +kernel, by decide +kernel⟩, List.mem_of_getElem? (i := 329) (by decide +kernel), List.mem_of_getElem? (i := 1451) (by decide +kernel), List.mem_of_getElem? (i := 1452) (by decide +kernel)⟩
theorem lw_p61 : lw_okq (⟨"BreedingHouse$Changer", "stateLeftOut", "(I)Z"⟩, 13) := ⟨⟨by decide +kernel, by decide +kernel⟩, List.mem_of_getElem? (i := 329) (by decide +kernel), List.mem_of_getElem? (i := 1455) (by decide +kernel), List.mem_of_getElem? (i := 1456) (by decide +kernel)⟩
theorem lw_p62 : lw_okq (⟨"BreedingHouse$Changer", "statesMixed", "(I)Z"⟩, 13) := ⟨⟨by decide +kernel, by decide +kernel⟩, List.mem_of_getElem? (i := 329) (by decide +kernel), List.mem_of_getElem? (i := 1459) (by decide +kernel), List.mem_of_getElem? (i := 1460) (by decide +kernel)⟩
theorem lw_p63 : lw_okq (⟨"BreedingHouse$Changer", "comparatorPut", "(III)Z"⟩, 13) := ⟨⟨by decide +kernel, by decide +kernel⟩, List.mem_of_getElem? (i := 329) (by decide +kernel), List.mem_of_getElem? (i := 1463) (by decide +kernel), List.mem_of_getElem? (i := 1464) (by decide +kernel)⟩
def lw_privs_4 : List (MethodName × Nat) := [(⟨"BreedingHouse$Changer", "nudged", "(III)Z"⟩, 13), (⟨"BreedingHouse$Changer", "resorted", "(II)Z"⟩, 13), (⟨"BreedingHouse$Changer", "leafFits", "(II)Z"⟩, 13), (⟨"BreedingHouse$Changer", "toGraft", "(LBreedingHouse$Program;II)Z"⟩, 13), (⟨"BreedingHouse$Changer", "grafted", "(I)Z"⟩, 13), (⟨"BreedingHouse$Changer", "partFits", "(II)Z"⟩, 13), (⟨"BreedingHouse$Changer", "nodesFit", "(II)Z"⟩, 13), (⟨"BreedingHouse$Changer", "reinstructed", "(II)Z"⟩, 13), (⟨"BreedingHouse$Changer", "leftOut", "(II)Z"⟩, 13), (⟨"BreedingHouse$Changer", "inserted", "(II)Z"⟩, 13), (⟨"BreedingHouse$Changer", "joined", "(II)Z"⟩, 13), (⟨"BreedingHouse$Changer", "edgeMoved", "(II)Z"⟩, 13), (⟨"BreedingHouse$Changer", "stateAdded", "(I)Z"⟩, 13), (⟨"BreedingHouse$Changer", "stateLeftOut", "(I)Z"⟩, 13), (⟨"BreedingHouse$Changer", "statesMixed", "(I)Z"⟩, 13), (⟨"BreedingHouse$Changer", "comparatorPut", "(III)Z"⟩, 13)]
theorem lw_r4 : ∀ q ∈ lw_privs_4, lw_okq q := List.forall_mem_cons.mpr ⟨lw_p48, List.forall_mem_cons.mpr ⟨lw_p49, List.forall_mem_cons.mpr ⟨lw_p50, List.forall_mem_cons.mpr ⟨lw_p51, List.forall_mem_cons.mpr ⟨lw_p52, List.forall_mem_cons.mpr ⟨lw_p53, List.forall_mem_cons.mpr ⟨lw_p54, List.forall_mem_cons.mpr ⟨lw_p55, List.forall_mem_cons.mpr ⟨lw_p56, List.forall_mem_cons.mpr ⟨lw_p57, List.forall_mem_cons.mpr ⟨lw_p58, List.forall_mem_cons.mpr ⟨lw_p59, List.forall_mem_cons.mpr ⟨lw_p60, List.forall_mem_cons.mpr ⟨lw_p61, List.forall_mem_cons.mpr ⟨lw_p62, List.forall_mem_cons.mpr ⟨lw_p63, fun _ h => absurd h List.not_mem_nil⟩⟩⟩⟩⟩⟩⟩⟩⟩⟩⟩⟩⟩⟩⟩⟩
theorem lw_p64 : lw_okq (⟨"BreedingHouse$Changer", "comparatorLeftOut", "(I)Z"⟩, 13) := ⟨⟨by decide +kernel, by decide +kernel⟩, List.mem_of_getElem? (i := 329) (by decide +kernel), List.mem_of_getElem? (i := 1467) (by decide +kernel), List.mem_of_getElem? (i := 1468) (by decide +kernel)⟩
theorem lw_p65 : lw_okq (⟨"BreedingHouse$Changer", "comparatorsSwapped", "(I)Z"⟩, 13) := ⟨⟨by decide +kernel, by decide +kernel⟩, List.mem_of_getElem? (i := 329) (by decide +kernel), List.mem_of_getElem? (i := 1471) (by decide +kernel), List.mem_of_getElem? (i := 1472) (by decide +kernel)⟩
theorem lw_p66 : lw_okq (⟨"BreedingHouse", "bred", "(IIIJ)I"⟩, 20) := ⟨⟨by decide +kernel, by decide +kernel⟩, List.mem_of_getElem? (i := 31) (by decide +kernel), List.mem_of_getElem? (i := 1494) (by decide +kernel), List.mem_of_getElem? (i := 1495) (by decide +kernel)⟩
theorem lw_p67 : lw_okq (⟨"BreedingHouse$Stream", "next", "()J"⟩, 1) := ⟨⟨by decide +kernel, by decide +kernel⟩, List.mem_of_getElem? (i := 214) (by decide +kernel), List.mem_of_getElem? (i := 1506) (by decide +kernel), List.mem_of_getElem? (i := 1507) (by decide +kernel)⟩
theorem lw_p68 : lw_okq (⟨"BreedingHouse", "islandAt", "(I)LBreedingHouse$Island;"⟩, 20) := ⟨⟨by decide +kernel, by decide +kernel⟩, List.mem_of_getElem? (i := 31) (by decide +kernel), List.mem_of_getElem? (i := 1542) (by decide +kernel), List.mem_of_getElem? (i := 1543) (by decide +kernel)⟩
theorem lw_p69 : lw_okq (⟨"BreedingHouse", "drawProgram", "(LBreedingHouse$Stream;II)V"⟩, 20) := ⟨⟨by decide +kernel, by decide +kernel⟩, List.mem_of_getElem? (i := 31) (by decide +kernel), List.mem_of_getElem? (i := 1548) (by decide +kernel), List.mem_of_getElem? (i := 1549) (by decide +kernel)⟩
theorem lw_p70 : lw_okq (⟨"BreedingHouse", "drawMachine", "(LBreedingHouse$Stream;I)V"⟩, 20) := ⟨⟨by decide +kernel, by decide +kernel⟩, List.mem_of_getElem? (i := 31) (by decide +kernel), List.mem_of_getElem? (i := 1552) (by decide +kernel), List.mem_of_getElem? (i := 1553) (by decide +kernel)⟩
theorem lw_p71 : lw_okq (⟨"BreedingHouse", "drawNet", "(LBreedingHouse$Stream;I)V"⟩, 20) := ⟨⟨by decide +kernel, by decide +kernel⟩, List.mem_of_getElem? (i := 31) (by decide +kernel), List.mem_of_getElem? (i := 1559) (by decide +kernel), List.mem_of_getElem? (i := 1560) (by decide +kernel)⟩
theorem lw_p72 : lw_okq (⟨"BreedingHouse$Turner", "emit", "(II)Z"⟩, 11) := ⟨⟨by decide +kernel, by decide +kernel⟩, List.mem_of_getElem? (i := 479) (by decide +kernel), List.mem_of_getElem? (i := 1570) (by decide +kernel), List.mem_of_getElem? (i := 1571) (by decide +kernel)⟩
theorem lw_p73 : lw_okq (⟨"BreedingHouse$Turner", "emitAnd", "(II)Z"⟩, 11) := ⟨⟨by decide +kernel, by decide +kernel⟩, List.mem_of_getElem? (i := 479) (by decide +kernel), List.mem_of_getElem? (i := 1577) (by decide +kernel), List.mem_of_getElem? (i := 1578) (by decide +kernel)⟩
theorem lw_p74 : lw_okq (⟨"BreedingHouse$Turner", "emitOr", "(II)Z"⟩, 11) := ⟨⟨by decide +kernel, by decide +kernel⟩, List.mem_of_getElem? (i := 479) (by decide +kernel), List.mem_of_getElem? (i := 1582) (by decide +kernel), List.mem_of_getElem? (i := 1583) (by decide +kernel)⟩
theorem lw_p75 : lw_okq (⟨"BreedingHouse$Turner", "emitIf", "(II)Z"⟩, 11) := ⟨⟨by decide +kernel, by decide +kernel⟩, List.mem_of_getElem? (i := 479) (by decide +kernel), List.mem_of_getElem? (i := 1586) (by decide +kernel), List.mem_of_getElem? (i := 1587) (by decide +kernel)⟩
theorem lw_p76 : lw_okq (⟨"BreedingHouse", "memberAt", "(LBreedingHouse$Island;I)I"⟩, 20) := ⟨⟨by decide +kernel, by decide +kernel⟩, List.mem_of_getElem? (i := 31) (by decide +kernel), List.mem_of_getElem? (i := 1605) (by decide +kernel), List.mem_of_getElem? (i := 1606) (by decide +kernel)⟩
theorem lw_p77 : lw_okq (⟨"BreedingHouse", "generation", "(LBreedingHouse$Island;I)V"⟩, 20) := ⟨⟨by decide +kernel, by decide +kernel⟩, List.mem_of_getElem? (i := 31) (by decide +kernel), List.mem_of_getElem? (i := 1620) (by decide +kernel), List.mem_of_getElem? (i := 1621) (by decide +kernel)⟩
theorem lw_p78 : lw_okq (⟨"BreedingHouse$Island", "better", "(II)Z"⟩, 10) := ⟨⟨by decide +kernel, by decide +kernel⟩, List.mem_of_getElem? (i := 208) (by decide +kernel), List.mem_of_getElem? (i := 1639) (by decide +kernel), List.mem_of_getElem? (i := 1640) (by decide +kernel)⟩
theorem lw_p79 : lw_okq (⟨"BreedingHouse$Island", "tournamentPlace", "(I)I"⟩, 10) := ⟨⟨by decide +kernel, by decide +kernel⟩, List.mem_of_getElem? (i := 208) (by decide +kernel), List.mem_of_getElem? (i := 1647) (by decide +kernel), List.mem_of_getElem? (i := 1648) (by decide +kernel)⟩
def lw_privs_5 : List (MethodName × Nat) := [(⟨"BreedingHouse$Changer", "comparatorLeftOut", "(I)Z"⟩, 13), (⟨"BreedingHouse$Changer", "comparatorsSwapped", "(I)Z"⟩, 13), (⟨"BreedingHouse", "bred", "(IIIJ)I"⟩, 20), (⟨"BreedingHouse$Stream", "next", "()J"⟩, 1), (⟨"BreedingHouse", "islandAt", "(I)LBreedingHouse$Island;"⟩, 20), (⟨"BreedingHouse", "drawProgram", "(LBreedingHouse$Stream;II)V"⟩, 20), (⟨"BreedingHouse", "drawMachine", "(LBreedingHouse$Stream;I)V"⟩, 20), (⟨"BreedingHouse", "drawNet", "(LBreedingHouse$Stream;I)V"⟩, 20), (⟨"BreedingHouse$Turner", "emit", "(II)Z"⟩, 11), (⟨"BreedingHouse$Turner", "emitAnd", "(II)Z"⟩, 11), (⟨"BreedingHouse$Turner", "emitOr", "(II)Z"⟩, 11), (⟨"BreedingHouse$Turner", "emitIf", "(II)Z"⟩, 11), (⟨"BreedingHouse", "memberAt", "(LBreedingHouse$Island;I)I"⟩, 20), (⟨"BreedingHouse", "generation", "(LBreedingHouse$Island;I)V"⟩, 20), (⟨"BreedingHouse$Island", "better", "(II)Z"⟩, 10), (⟨"BreedingHouse$Island", "tournamentPlace", "(I)I"⟩, 10)]
theorem lw_r5 : ∀ q ∈ lw_privs_5, lw_okq q := List.forall_mem_cons.mpr ⟨lw_p64, List.forall_mem_cons.mpr ⟨lw_p65, List.forall_mem_cons.mpr ⟨lw_p66, List.forall_mem_cons.mpr ⟨lw_p67, List.forall_mem_cons.mpr ⟨lw_p68, List.forall_mem_cons.mpr ⟨lw_p69, List.forall_mem_cons.mpr ⟨lw_p70, List.forall_mem_cons.mpr ⟨lw_p71, List.forall_mem_cons.mpr ⟨lw_p72, List.forall_mem_cons.mpr ⟨lw_p73, List.forall_mem_cons.mpr ⟨lw_p74, List.forall_mem_cons.mpr ⟨lw_p75, List.forall_mem_cons.mpr ⟨lw_p76, List.forall_mem_cons.mpr ⟨lw_p77, List.forall_mem_cons.mpr ⟨lw_p78, List.forall_mem_cons.mpr ⟨lw_p79, fun _ h => absurd h List.not_mem_nil⟩⟩⟩⟩⟩⟩⟩⟩⟩⟩⟩⟩⟩⟩⟩⟩
theorem lw_p80 : lw_okq (⟨"BreedingHouse$Island", "casesPlace", "()I"⟩, 10) := ⟨⟨by decide +kernel, by decide +kernel⟩, List.mem_of_getElem? (i := 208) (by decide +kernel), List.mem_of_getElem? (i := 1652) (by decide +kernel), List.mem_of_getElem? (i := 1653) (by decide +kernel)⟩
theorem lw_p81 : lw_okq (⟨"BreedingHouse$Island", "narrowed", "(II)I"⟩, 10) := ⟨⟨by decide +kernel, by decide +kernel⟩, List.mem_of_getElem? (i := 208) (by decide +kernel), List.mem_of_getElem? (i := 1656) (by decide +kernel), List.mem_of_getElem? (i := 1657) (by decide +kernel)⟩
theorem lw_p82 : lw_okq (⟨"BreedingHouse$Island", "leastOf", "(I)I"⟩, 10) := ⟨⟨by decide +kernel, by decide +kernel⟩, List.mem_of_getElem? (i := 208) (by decide +kernel), List.mem_of_getElem? (i := 1661) (by decide +kernel), List.mem_of_getElem? (i := 1662) (by decide +kernel)⟩
theorem lw_p83 : lw_okq (⟨"BreedingHouse$Island", "frontSize", "()I"⟩, 10) := ⟨⟨by decide +kernel, by decide +kernel⟩, List.mem_of_getElem? (i := 208) (by decide +kernel), List.mem_of_getElem? (i := 1665) (by decide +kernel), List.mem_of_getElem? (i := 1666) (by decide +kernel)⟩
theorem lw_p84 : lw_okq (⟨"BreedingHouse$Island", "inFront", "(I)Z"⟩, 10) := ⟨⟨by decide +kernel, by decide +kernel⟩, List.mem_of_getElem? (i := 208) (by decide +kernel), List.mem_of_getElem? (i := 1669) (by decide +kernel), List.mem_of_getElem? (i := 1670) (by decide +kernel)⟩
theorem lw_p85 : lw_okq (⟨"BreedingHouse$Island", "wins", "(III)I"⟩, 10) := ⟨⟨by decide +kernel, by decide +kernel⟩, List.mem_of_getElem? (i := 208) (by decide +kernel), List.mem_of_getElem? (i := 1721) (by decide +kernel), List.mem_of_getElem? (i := 1722) (by decide +kernel)⟩
theorem lw_p86 : lw_okq (⟨"BreedingHouse", "markLine", "(II)V"⟩, 20) := ⟨⟨by decide +kernel, by decide +kernel⟩, List.mem_of_getElem? (i := 31) (by decide +kernel), List.mem_of_getElem? (i := 1765) (by decide +kernel), List.mem_of_getElem? (i := 1766) (by decide +kernel)⟩
theorem lw_p87 : lw_okq (⟨"BreedingHouse", "mark", "(II)V"⟩, 20) := ⟨⟨by decide +kernel, by decide +kernel⟩, List.mem_of_getElem? (i := 31) (by decide +kernel), List.mem_of_getElem? (i := 1769) (by decide +kernel), List.mem_of_getElem? (i := 1770) (by decide +kernel)⟩
theorem lw_p88 : lw_okq (⟨"BreedingHouse$Ranks", "sweepLeaves", "(Z)I"⟩, 9) := ⟨⟨by decide +kernel, by decide +kernel⟩, List.mem_of_getElem? (i := 262) (by decide +kernel), List.mem_of_getElem? (i := 1808) (by decide +kernel), List.mem_of_getElem? (i := 1809) (by decide +kernel)⟩
theorem lw_p89 : lw_okq (⟨"BreedingHouse$Ranks", "right", "(IIIIZ)Z"⟩, 9) := ⟨⟨by decide +kernel, by decide +kernel⟩, List.mem_of_getElem? (i := 262) (by decide +kernel), List.mem_of_getElem? (i := 1812) (by decide +kernel), List.mem_of_getElem? (i := 1813) (by decide +kernel)⟩
theorem lw_p90 : lw_okq (⟨"BreedingHouse$Ranks", "outcome", "(IIII)J"⟩, 9) := ⟨⟨by decide +kernel, by decide +kernel⟩, List.mem_of_getElem? (i := 262) (by decide +kernel), List.mem_of_getElem? (i := 1816) (by decide +kernel), List.mem_of_getElem? (i := 1817) (by decide +kernel)⟩
theorem lw_p91 : lw_okq (⟨"BreedingHouse$Ranks", "sweep", "(IZ)I"⟩, 9) := ⟨⟨by decide +kernel, by decide +kernel⟩, List.mem_of_getElem? (i := 262) (by decide +kernel), List.mem_of_getElem? (i := 1823) (by decide +kernel), List.mem_of_getElem? (i := 1824) (by decide +kernel)⟩
theorem lw_p92 : lw_okq (⟨"BreedingHouse$Rules", "simplifyOnce", "(LBreedingHouse$Program;Z)Z"⟩, 7) := ⟨⟨by decide +kernel, by decide +kernel⟩, List.mem_of_getElem? (i := 444) (by decide +kernel), List.mem_of_getElem? (i := 1841) (by decide +kernel), List.mem_of_getElem? (i := 1842) (by decide +kernel)⟩
theorem lw_p93 : lw_okq (⟨"BreedingHouse$Rules", "fitting", "(II)I"⟩, 7) := ⟨⟨by decide +kernel, by decide +kernel⟩, List.mem_of_getElem? (i := 444) (by decide +kernel), List.mem_of_getElem? (i := 1846) (by decide +kernel), List.mem_of_getElem? (i := 1847) (by decide +kernel)⟩
theorem lw_p94 : lw_okq (⟨"BreedingHouse$Rules", "worked", "(III)I"⟩, 7) := ⟨⟨by decide +kernel, by decide +kernel⟩, List.mem_of_getElem? (i := 444) (by decide +kernel), List.mem_of_getElem? (i := 1852) (by decide +kernel), List.mem_of_getElem? (i := 1853) (by decide +kernel)⟩
theorem lw_p95 : lw_okq (⟨"BreedingHouse$Rules", "isConstant", "(I)Z"⟩, 7) := ⟨⟨by decide +kernel, by decide +kernel⟩, List.mem_of_getElem? (i := 444) (by decide +kernel), List.mem_of_getElem? (i := 1856) (by decide +kernel), List.mem_of_getElem? (i := 1857) (by decide +kernel)⟩
def lw_privs_6 : List (MethodName × Nat) := [(⟨"BreedingHouse$Island", "casesPlace", "()I"⟩, 10), (⟨"BreedingHouse$Island", "narrowed", "(II)I"⟩, 10), (⟨"BreedingHouse$Island", "leastOf", "(I)I"⟩, 10), (⟨"BreedingHouse$Island", "frontSize", "()I"⟩, 10), (⟨"BreedingHouse$Island", "inFront", "(I)Z"⟩, 10), (⟨"BreedingHouse$Island", "wins", "(III)I"⟩, 10), (⟨"BreedingHouse", "markLine", "(II)V"⟩, 20), (⟨"BreedingHouse", "mark", "(II)V"⟩, 20), (⟨"BreedingHouse$Ranks", "sweepLeaves", "(Z)I"⟩, 9), (⟨"BreedingHouse$Ranks", "right", "(IIIIZ)Z"⟩, 9), (⟨"BreedingHouse$Ranks", "outcome", "(IIII)J"⟩, 9), (⟨"BreedingHouse$Ranks", "sweep", "(IZ)I"⟩, 9), (⟨"BreedingHouse$Rules", "simplifyOnce", "(LBreedingHouse$Program;Z)Z"⟩, 7), (⟨"BreedingHouse$Rules", "fitting", "(II)I"⟩, 7), (⟨"BreedingHouse$Rules", "worked", "(III)I"⟩, 7), (⟨"BreedingHouse$Rules", "isConstant", "(I)Z"⟩, 7)]
theorem lw_r6 : ∀ q ∈ lw_privs_6, lw_okq q := List.forall_mem_cons.mpr ⟨lw_p80, List.forall_mem_cons.mpr ⟨lw_p81, List.forall_mem_cons.mpr ⟨lw_p82, List.forall_mem_cons.mpr ⟨lw_p83, List.forall_mem_cons.mpr ⟨lw_p84, List.forall_mem_cons.mpr ⟨lw_p85, List.forall_mem_cons.mpr ⟨lw_p86, List.forall_mem_cons.mpr ⟨lw_p87, List.forall_mem_cons.mpr ⟨lw_p88, List.forall_mem_cons.mpr ⟨lw_p89, List.forall_mem_cons.mpr ⟨lw_p90, List.forall_mem_cons.mpr ⟨lw_p91, List.forall_mem_cons.mpr ⟨lw_p92, List.forall_mem_cons.mpr ⟨lw_p93, List.forall_mem_cons.mpr ⟨lw_p94, List.forall_mem_cons.mpr ⟨lw_p95, fun _ h => absurd h List.not_mem_nil⟩⟩⟩⟩⟩⟩⟩⟩⟩⟩⟩⟩⟩⟩⟩⟩
theorem lw_p96 : lw_okq (⟨"BreedingHouse$Rules", "becomes", "(I)I"⟩, 7) := ⟨⟨by decide +kernel, by decide +kernel⟩, List.mem_of_getElem? (i := 444) (by decide +kernel), List.mem_of_getElem? (i := 1860) (by decide +kernel), List.mem_of_getElem? (i := 1861) (by decide +kernel)⟩
theorem lw_p97 : lw_okq (⟨"BreedingHouse$Rules", "neutral", "(III)I"⟩, 7) := ⟨⟨by decide +kernel, by decide +kernel⟩, List.mem_of_getElem? (i := 444) (by decide +kernel), List.mem_of_getElem? (i := 1864) (by decide +kernel), List.mem_of_getElem? (i := 1865) (by decide +kernel)⟩
theorem lw_p98 : lw_okq (⟨"BreedingHouse$Rules", "is", "(II)Z"⟩, 7) := ⟨⟨by decide +kernel, by decide +kernel⟩, List.mem_of_getElem? (i := 444) (by decide +kernel), List.mem_of_getElem? (i := 1868) (by decide +kernel), List.mem_of_getElem? (i := 1869) (by decide +kernel)⟩
theorem lw_p99 : lw_okq (⟨"BreedingHouse$Rules", "decided", "(III)I"⟩, 7) := ⟨⟨by decide +kernel, by decide +kernel⟩, List.mem_of_getElem? (i := 444) (by decide +kernel), List.mem_of_getElem? (i := 1872) (by decide +kernel), List.mem_of_getElem? (i := 1873) (by decide +kernel)⟩
theorem lw_p100 : lw_okq (⟨"BreedingHouse$Rules", "safe", "(I)Z"⟩, 7) := ⟨⟨by decide +kernel, by decide +kernel⟩, List.mem_of_getElem? (i := 444) (by decide +kernel), List.mem_of_getElem? (i := 1876) (by decide +kernel), List.mem_of_getElem? (i := 1877) (by decide +kernel)⟩
theorem lw_p101 : lw_okq (⟨"BreedingHouse$Rules", "alike", "(II)Z"⟩, 7) := ⟨⟨by decide +kernel, by decide +kernel⟩, List.mem_of_getElem? (i := 444) (by decide +kernel), List.mem_of_getElem? (i := 1885) (by decide +kernel), List.mem_of_getElem? (i := 1886) (by decide +kernel)⟩
theorem lw_p102 : lw_okq (⟨"BreedingHouse$Rules", "selfSame", "(III)I"⟩, 7) := ⟨⟨by decide +kernel, by decide +kernel⟩, List.mem_of_getElem? (i := 444) (by decide +kernel), List.mem_of_getElem? (i := 1889) (by decide +kernel), List.mem_of_getElem? (i := 1890) (by decide +kernel)⟩
theorem lw_p103 : lw_okq (⟨"BreedingHouse$Rules", "replace", "(II)V"⟩, 7) := ⟨⟨by decide +kernel, by decide +kernel⟩, List.mem_of_getElem? (i := 444) (by decide +kernel), List.mem_of_getElem? (i := 1893) (by decide +kernel), List.mem_of_getElem? (i := 1894) (by decide +kernel)⟩
theorem lw_p104 : lw_okq (⟨"BreedingHouse$Turner", "tellWay", "(I[I)V"⟩, 11) := ⟨⟨by decide +kernel, by decide +kernel⟩, List.mem_of_getElem? (i := 479) (by decide +kernel), List.mem_of_getElem? (i := 1924) (by decide +kernel), List.mem_of_getElem? (i := 1925) (by decide +kernel)⟩
theorem lw_p105 : lw_okq (⟨"BreedingHouse$Turner", "laid", "(II)Z"⟩, 11) := ⟨⟨by decide +kernel, by decide +kernel⟩, List.mem_of_getElem? (i := 479) (by decide +kernel), List.mem_of_getElem? (i := 1943) (by decide +kernel), List.mem_of_getElem? (i := 1944) (by decide +kernel)⟩
theorem lw_p106 : lw_okq (⟨"BreedingHouse", "shownUnlike", "(LBreedingHouse$Program;LBreedingHouse$Program;)Z"⟩, 20) := ⟨⟨by decide +kernel, by decide +kernel⟩, List.mem_of_getElem? (i := 31) (by decide +kernel), List.mem_of_getElem? (i := 1956) (by decide +kernel), List.mem_of_getElem? (i := 1957) (by decide +kernel)⟩
theorem lw_p107 : lw_okq (⟨"BreedingHouse", "keepUnlike", "([II)Z"⟩, 20) := ⟨⟨by decide +kernel, by decide +kernel⟩, List.mem_of_getElem? (i := 31) (by decide +kernel), List.mem_of_getElem? (i := 1964) (by decide +kernel), List.mem_of_getElem? (i := 1965) (by decide +kernel)⟩
theorem lw_p108 : lw_okq (⟨"BreedingHouse", "cutOnce", "(I)Z"⟩, 20) := ⟨⟨by decide +kernel, by decide +kernel⟩, List.mem_of_getElem? (i := 31) (by decide +kernel), List.mem_of_getElem? (i := 1982) (by decide +kernel), List.mem_of_getElem? (i := 1983) (by decide +kernel)⟩
theorem lw_p109 : lw_okq (⟨"BreedingHouse$Turner", "tellApart", "(LBreedingHouse$Program;)V"⟩, 11) := ⟨⟨by decide +kernel, by decide +kernel⟩, List.mem_of_getElem? (i := 479) (by decide +kernel), List.mem_of_getElem? (i := 2015) (by decide +kernel), List.mem_of_getElem? (i := 2016) (by decide +kernel)⟩
theorem lw_p110 : lw_okq (⟨"BreedingHouse$Turner", "standIn", "(LBreedingHouse$Program;I)I"⟩, 11) := ⟨⟨by decide +kernel, by decide +kernel⟩, List.mem_of_getElem? (i := 479) (by decide +kernel), List.mem_of_getElem? (i := 2019) (by decide +kernel), List.mem_of_getElem? (i := 2020) (by decide +kernel)⟩
theorem lw_p111 : lw_okq (⟨"BreedingHouse", "netAt", "(I)LBreedingHouse$Program;"⟩, 20) := ⟨⟨by decide +kernel, by decide +kernel⟩, List.mem_of_getElem? (i := 31) (by decide +kernel), List.mem_of_getElem? (i := 2030) (by decide +kernel), List.mem_of_getElem? (i := 2031) (by decide +kernel)⟩
def lw_privs_7 : List (MethodName × Nat) := [(⟨"BreedingHouse$Rules", "becomes", "(I)I"⟩, 7), (⟨"BreedingHouse$Rules", "neutral", "(III)I"⟩, 7), (⟨"BreedingHouse$Rules", "is", "(II)Z"⟩, 7), (⟨"BreedingHouse$Rules", "decided", "(III)I"⟩, 7), (⟨"BreedingHouse$Rules", "safe", "(I)Z"⟩, 7), (⟨"BreedingHouse$Rules", "alike", "(II)Z"⟩, 7), (⟨"BreedingHouse$Rules", "selfSame", "(III)I"⟩, 7), (⟨"BreedingHouse$Rules", "replace", "(II)V"⟩, 7), (⟨"BreedingHouse$Turner", "tellWay", "(I[I)V"⟩, 11), (⟨"BreedingHouse$Turner", "laid", "(II)Z"⟩, 11), (⟨"BreedingHouse", "shownUnlike", "(LBreedingHouse$Program;LBreedingHouse$Program;)Z"⟩, 20), (⟨"BreedingHouse", "keepUnlike", "([II)Z"⟩, 20), (⟨"BreedingHouse", "cutOnce", "(I)Z"⟩, 20), (⟨"BreedingHouse$Turner", "tellApart", "(LBreedingHouse$Program;)V"⟩, 11), (⟨"BreedingHouse$Turner", "standIn", "(LBreedingHouse$Program;I)I"⟩, 11), (⟨"BreedingHouse", "netAt", "(I)LBreedingHouse$Program;"⟩, 20)]
theorem lw_r7 : ∀ q ∈ lw_privs_7, lw_okq q := List.forall_mem_cons.mpr ⟨lw_p96, List.forall_mem_cons.mpr ⟨lw_p97, List.forall_mem_cons.mpr ⟨lw_p98, List.forall_mem_cons.mpr ⟨lw_p99, List.forall_mem_cons.mpr ⟨lw_p100, List.forall_mem_cons.mpr ⟨lw_p101, List.forall_mem_cons.mpr ⟨lw_p102, List.forall_mem_cons.mpr ⟨lw_p103, List.forall_mem_cons.mpr ⟨lw_p104, List.forall_mem_cons.mpr ⟨lw_p105, List.forall_mem_cons.mpr ⟨lw_p106, List.forall_mem_cons.mpr ⟨lw_p107, List.forall_mem_cons.mpr ⟨lw_p108, List.forall_mem_cons.mpr ⟨lw_p109, List.forall_mem_cons.mpr ⟨lw_p110, List.forall_mem_cons.mpr ⟨lw_p111, fun _ h => absurd h List.not_mem_nil⟩⟩⟩⟩⟩⟩⟩⟩⟩⟩⟩⟩⟩⟩⟩⟩
theorem lw_p112 : lw_okq (⟨"BreedingHouseModel", "readTree", "()V"⟩, 138) := ⟨⟨by decide +kernel, by decide +kernel⟩, List.mem_of_getElem? (i := 2063) (by decide +kernel), List.mem_of_getElem? (i := 2502) (by decide +kernel), List.mem_of_getElem? (i := 2503) (by decide +kernel)⟩
theorem lw_p113 : lw_okq (⟨"BreedingHouseModel", "readNode", "()Z"⟩, 138) := ⟨⟨by decide +kernel, by decide +kernel⟩, List.mem_of_getElem? (i := 2063) (by decide +kernel), List.mem_of_getElem? (i := 2506) (by decide +kernel), List.mem_of_getElem? (i := 2507) (by decide +kernel)⟩
theorem lw_p114 : lw_okq (⟨"BreedingHouseModel", "fail", "(I)Z"⟩, 138) := ⟨⟨by decide +kernel, by decide +kernel⟩, List.mem_of_getElem? (i := 2063) (by decide +kernel), List.mem_of_getElem? (i := 2513) (by decide +kernel), List.mem_of_getElem? (i := 2514) (by decide +kernel)⟩
theorem lw_p115 : lw_okq (⟨"BreedingHouseModel", "byteAt", "(I)I"⟩, 138) := ⟨⟨by decide +kernel, by decide +kernel⟩, List.mem_of_getElem? (i := 2063) (by decide +kernel), List.mem_of_getElem? (i := 2517) (by decide +kernel), List.mem_of_getElem? (i := 2518) (by decide +kernel)⟩
theorem lw_p116 : lw_okq (⟨"BreedingHouseModel", "lay", "(II)V"⟩, 138) := ⟨⟨by decide +kernel, by decide +kernel⟩, List.mem_of_getElem? (i := 2063) (by decide +kernel), List.mem_of_getElem? (i := 2527) (by decide +kernel), List.mem_of_getElem? (i := 2528) (by decide +kernel)⟩
theorem lw_p117 : lw_okq (⟨"BreedingHouseModel", "need", "(I)Z"⟩, 138) := ⟨⟨by decide +kernel, by decide +kernel⟩, List.mem_of_getElem? (i := 2063) (by decide +kernel), List.mem_of_getElem? (i := 2531) (by decide +kernel), List.mem_of_getElem? (i := 2532) (by decide +kernel)⟩
theorem lw_p118 : lw_okq (⟨"BreedingHouseModel", "readAgain", "()Z"⟩, 138) := ⟨⟨by decide +kernel, by decide +kernel⟩, List.mem_of_getElem? (i := 2063) (by decide +kernel), List.mem_of_getElem? (i := 2535) (by decide +kernel), List.mem_of_getElem? (i := 2536) (by decide +kernel)⟩
theorem lw_p119 : lw_okq (⟨"BreedingHouseModel", "isDigit", "(I)Z"⟩, 138) := ⟨⟨by decide +kernel, by decide +kernel⟩, List.mem_of_getElem? (i := 2063) (by decide +kernel), List.mem_of_getElem? (i := 2542) (by decide +kernel), List.mem_of_getElem? (i := 2543) (by decide +kernel)⟩
theorem lw_p120 : lw_okq (⟨"BreedingHouseModel", "constant", "()Z"⟩, 138) := ⟨⟨by decide +kernel, by decide +kernel⟩, List.mem_of_getElem? (i := 2063) (by decide +kernel), List.mem_of_getElem? (i := 2548) (by decide +kernel), List.mem_of_getElem? (i := 2549) (by decide +kernel)⟩
theorem lw_p121 : lw_okq (⟨"BreedingHouseModel", "digits", "()Z"⟩, 138) := ⟨⟨by decide +kernel, by decide +kernel⟩, List.mem_of_getElem? (i := 2063) (by decide +kernel), List.mem_of_getElem? (i := 2552) (by decide +kernel), List.mem_of_getElem? (i := 2553) (by decide +kernel)⟩
theorem lw_p122 : lw_okq (⟨"BreedingHouseModel", "closes", "()Z"⟩, 138) := ⟨⟨by decide +kernel, by decide +kernel⟩, List.mem_of_getElem? (i := 2063) (by decide +kernel), List.mem_of_getElem? (i := 2556) (by decide +kernel), List.mem_of_getElem? (i := 2557) (by decide +kernel)⟩
theorem lw_p123 : lw_okq (⟨"BreedingHouseModel", "readCode", "()V"⟩, 138) := ⟨⟨by decide +kernel, by decide +kernel⟩, List.mem_of_getElem? (i := 2063) (by decide +kernel), List.mem_of_getElem? (i := 2563) (by decide +kernel), List.mem_of_getElem? (i := 2564) (by decide +kernel)⟩
theorem lw_p124 : lw_okq (⟨"BreedingHouseModel", "readInstruction", "()Z"⟩, 138) := ⟨⟨by decide +kernel, by decide +kernel⟩, List.mem_of_getElem? (i := 2063) (by decide +kernel), List.mem_of_getElem? (i := 2567) (by decide +kernel), List.mem_of_getElem? (i := 2568) (by decide +kernel)⟩
theorem lw_p125 : lw_okq (⟨"BreedingHouseModel", "wrongAt", "()I"⟩, 138) := ⟨⟨by decide +kernel, by decide +kernel⟩, List.mem_of_getElem? (i := 2063) (by decide +kernel), List.mem_of_getElem? (i := 2574) (by decide +kernel), List.mem_of_getElem? (i := 2575) (by decide +kernel)⟩
theorem lw_p126 : lw_okq (⟨"BreedingHouseModel", "reaches", "(II)Z"⟩, 138) := ⟨⟨by decide +kernel, by decide +kernel⟩, List.mem_of_getElem? (i := 2063) (by decide +kernel), List.mem_of_getElem? (i := 2584) (by decide +kernel), List.mem_of_getElem? (i := 2585) (by decide +kernel)⟩
theorem lw_p127 : lw_okq (⟨"BreedingHouseModel", "readMachine", "()V"⟩, 138) := ⟨⟨by decide +kernel, by decide +kernel⟩, List.mem_of_getElem? (i := 2063) (by decide +kernel), List.mem_of_getElem? (i := 2588) (by decide +kernel), List.mem_of_getElem? (i := 2589) (by decide +kernel)⟩
def lw_privs_8 : List (MethodName × Nat) := [(⟨"BreedingHouseModel", "readTree", "()V"⟩, 138), (⟨"BreedingHouseModel", "readNode", "()Z"⟩, 138), (⟨"BreedingHouseModel", "fail", "(I)Z"⟩, 138), (⟨"BreedingHouseModel", "byteAt", "(I)I"⟩, 138), (⟨"BreedingHouseModel", "lay", "(II)V"⟩, 138), (⟨"BreedingHouseModel", "need", "(I)Z"⟩, 138), (⟨"BreedingHouseModel", "readAgain", "()Z"⟩, 138), (⟨"BreedingHouseModel", "isDigit", "(I)Z"⟩, 138), (⟨"BreedingHouseModel", "constant", "()Z"⟩, 138), (⟨"BreedingHouseModel", "digits", "()Z"⟩, 138), (⟨"BreedingHouseModel", "closes", "()Z"⟩, 138), (⟨"BreedingHouseModel", "readCode", "()V"⟩, 138), (⟨"BreedingHouseModel", "readInstruction", "()Z"⟩, 138), (⟨"BreedingHouseModel", "wrongAt", "()I"⟩, 138), (⟨"BreedingHouseModel", "reaches", "(II)Z"⟩, 138), (⟨"BreedingHouseModel", "readMachine", "()V"⟩, 138)]
theorem lw_r8 : ∀ q ∈ lw_privs_8, lw_okq q := List.forall_mem_cons.mpr ⟨lw_p112, List.forall_mem_cons.mpr ⟨lw_p113, List.forall_mem_cons.mpr ⟨lw_p114, List.forall_mem_cons.mpr ⟨lw_p115, List.forall_mem_cons.mpr ⟨lw_p116, List.forall_mem_cons.mpr ⟨lw_p117, List.forall_mem_cons.mpr ⟨lw_p118, List.forall_mem_cons.mpr ⟨lw_p119, List.forall_mem_cons.mpr ⟨lw_p120, List.forall_mem_cons.mpr ⟨lw_p121, List.forall_mem_cons.mpr ⟨lw_p122, List.forall_mem_cons.mpr ⟨lw_p123, List.forall_mem_cons.mpr ⟨lw_p124, List.forall_mem_cons.mpr ⟨lw_p125, List.forall_mem_cons.mpr ⟨lw_p126, List.forall_mem_cons.mpr ⟨lw_p127, fun _ h => absurd h List.not_mem_nil⟩⟩⟩⟩⟩⟩⟩⟩⟩⟩⟩⟩⟩⟩⟩⟩
theorem lw_p128 : lw_okq (⟨"BreedingHouseModel", "readState", "()Z"⟩, 138) := ⟨⟨by decide +kernel, by decide +kernel⟩, List.mem_of_getElem? (i := 2063) (by decide +kernel), List.mem_of_getElem? (i := 2592) (by decide +kernel), List.mem_of_getElem? (i := 2593) (by decide +kernel)⟩
theorem lw_p129 : lw_okq (⟨"BreedingHouseModel", "readNet", "()V"⟩, 138) := ⟨⟨by decide +kernel, by decide +kernel⟩, List.mem_of_getElem? (i := 2063) (by decide +kernel), List.mem_of_getElem? (i := 2599) (by decide +kernel), List.mem_of_getElem? (i := 2600) (by decide +kernel)⟩
theorem lw_p130 : lw_okq (⟨"BreedingHouseModel", "readPair", "()Z"⟩, 138) := ⟨⟨by decide +kernel, by decide +kernel⟩, List.mem_of_getElem? (i := 2063) (by decide +kernel), List.mem_of_getElem? (i := 2605) (by decide +kernel), List.mem_of_getElem? (i := 2606) (by decide +kernel)⟩
theorem lw_p131 : lw_okq (⟨"BreedingHouseModel", "born", "(IIIIIJ)I"⟩, 138) := ⟨⟨by decide +kernel, by decide +kernel⟩, List.mem_of_getElem? (i := 2063) (by decide +kernel), List.mem_of_getElem? (i := 2609) (by decide +kernel), List.mem_of_getElem? (i := 2610) (by decide +kernel)⟩
theorem lw_p132 : lw_okq (⟨"BreedingHouseModel", "isBirth", "(I)Z"⟩, 138) := ⟨⟨by decide +kernel, by decide +kernel⟩, List.mem_of_getElem? (i := 2063) (by decide +kernel), List.mem_of_getElem? (i := 2617) (by decide +kernel), List.mem_of_getElem? (i := 2618) (by decide +kernel)⟩
theorem lw_p133 : lw_okq (⟨"BreedingHouseModel", "load", "(I)V"⟩, 138) := ⟨⟨by decide +kernel, by decide +kernel⟩, List.mem_of_getElem? (i := 2063) (by decide +kernel), List.mem_of_getElem? (i := 2621) (by decide +kernel), List.mem_of_getElem? (i := 2622) (by decide +kernel)⟩
theorem lw_p134 : lw_okq (⟨"BreedingHouseModel", "print", "()V"⟩, 138) := ⟨⟨by decide +kernel, by decide +kernel⟩, List.mem_of_getElem? (i := 2063) (by decide +kernel), List.mem_of_getElem? (i := 2625) (by decide +kernel), List.mem_of_getElem? (i := 2626) (by decide +kernel)⟩
theorem lw_p135 : lw_okq (⟨"BreedingHouseModel", "sayTree", "()V"⟩, 138) := ⟨⟨by decide +kernel, by decide +kernel⟩, List.mem_of_getElem? (i := 2063) (by decide +kernel), List.mem_of_getElem? (i := 2629) (by decide +kernel), List.mem_of_getElem? (i := 2630) (by decide +kernel)⟩
theorem lw_p136 : lw_okq (⟨"BreedingHouseModel", "say", "(I)V"⟩, 138) := ⟨⟨by decide +kernel, by decide +kernel⟩, List.mem_of_getElem? (i := 2063) (by decide +kernel), List.mem_of_getElem? (i := 2633) (by decide +kernel), List.mem_of_getElem? (i := 2634) (by decide +kernel)⟩
theorem lw_p137 : lw_okq (⟨"BreedingHouseModel", "sayNumber", "(I)V"⟩, 138) := ⟨⟨by decide +kernel, by decide +kernel⟩, List.mem_of_getElem? (i := 2063) (by decide +kernel), List.mem_of_getElem? (i := 2637) (by decide +kernel), List.mem_of_getElem? (i := 2638) (by decide +kernel)⟩
theorem lw_p138 : lw_okq (⟨"BreedingHouseModel", "sayEnds", "()V"⟩, 138) := ⟨⟨by decide +kernel, by decide +kernel⟩, List.mem_of_getElem? (i := 2063) (by decide +kernel), List.mem_of_getElem? (i := 2644) (by decide +kernel), List.mem_of_getElem? (i := 2645) (by decide +kernel)⟩
theorem lw_p139 : lw_okq (⟨"BreedingHouseModel", "depthOf", "(I)I"⟩, 138) := ⟨⟨by decide +kernel, by decide +kernel⟩, List.mem_of_getElem? (i := 2063) (by decide +kernel), List.mem_of_getElem? (i := 2666) (by decide +kernel), List.mem_of_getElem? (i := 2667) (by decide +kernel)⟩
theorem lw_p140 : lw_okq (⟨"BreedingHouseModel", "isDesk", "(I)Z"⟩, 138) := ⟨⟨by decide +kernel, by decide +kernel⟩, List.mem_of_getElem? (i := 2063) (by decide +kernel), List.mem_of_getElem? (i := 2683) (by decide +kernel), List.mem_of_getElem? (i := 2684) (by decide +kernel)⟩
theorem lw_p141 : lw_okq (⟨"BreedingHouseModel", "countAll", "()V"⟩, 138) := ⟨⟨by decide +kernel, by decide +kernel⟩, List.mem_of_getElem? (i := 2063) (by decide +kernel), List.mem_of_getElem? (i := 2692) (by decide +kernel), List.mem_of_getElem? (i := 2693) (by decide +kernel)⟩
theorem lw_p142 : lw_okq (⟨"BreedingHouseModel", "reckoned", "(III)J"⟩, 138) := ⟨⟨by decide +kernel, by decide +kernel⟩, List.mem_of_getElem? (i := 2063) (by decide +kernel), List.mem_of_getElem? (i := 2696) (by decide +kernel), List.mem_of_getElem? (i := 2697) (by decide +kernel)⟩
theorem lw_p143 : lw_okq (⟨"BreedingHouseModel", "manySplit", "(IIIII)J"⟩, 138) := ⟨⟨by decide +kernel, by decide +kernel⟩, List.mem_of_getElem? (i := 2063) (by decide +kernel), List.mem_of_getElem? (i := 2704) (by decide +kernel), List.mem_of_getElem? (i := 2705) (by decide +kernel)⟩
def lw_privs_9 : List (MethodName × Nat) := [(⟨"BreedingHouseModel", "readState", "()Z"⟩, 138), (⟨"BreedingHouseModel", "readNet", "()V"⟩, 138), (⟨"BreedingHouseModel", "readPair", "()Z"⟩, 138), (⟨"BreedingHouseModel", "born", "(IIIIIJ)I"⟩, 138), (⟨"BreedingHouseModel", "isBirth", "(I)Z"⟩, 138), (⟨"BreedingHouseModel", "load", "(I)V"⟩, 138), (⟨"BreedingHouseModel", "print", "()V"⟩, 138), (⟨"BreedingHouseModel", "sayTree", "()V"⟩, 138), (⟨"BreedingHouseModel", "say", "(I)V"⟩, 138), (⟨"BreedingHouseModel", "sayNumber", "(I)V"⟩, 138), (⟨"BreedingHouseModel", "sayEnds", "()V"⟩, 138), (⟨"BreedingHouseModel", "depthOf", "(I)I"⟩, 138), (⟨"BreedingHouseModel", "isDesk", "(I)Z"⟩, 138), (⟨"BreedingHouseModel", "countAll", "()V"⟩, 138), (⟨"BreedingHouseModel", "reckoned", "(III)J"⟩, 138), (⟨"BreedingHouseModel", "manySplit", "(IIIII)J"⟩, 138)]
theorem lw_r9 : ∀ q ∈ lw_privs_9, lw_okq q := List.forall_mem_cons.mpr ⟨lw_p128, List.forall_mem_cons.mpr ⟨lw_p129, List.forall_mem_cons.mpr ⟨lw_p130, List.forall_mem_cons.mpr ⟨lw_p131, List.forall_mem_cons.mpr ⟨lw_p132, List.forall_mem_cons.mpr ⟨lw_p133, List.forall_mem_cons.mpr ⟨lw_p134, List.forall_mem_cons.mpr ⟨lw_p135, List.forall_mem_cons.mpr ⟨lw_p136, List.forall_mem_cons.mpr ⟨lw_p137, List.forall_mem_cons.mpr ⟨lw_p138, List.forall_mem_cons.mpr ⟨lw_p139, List.forall_mem_cons.mpr ⟨lw_p140, List.forall_mem_cons.mpr ⟨lw_p141, List.forall_mem_cons.mpr ⟨lw_p142, List.forall_mem_cons.mpr ⟨lw_p143, fun _ h => absurd h List.not_mem_nil⟩⟩⟩⟩⟩⟩⟩⟩⟩⟩⟩⟩⟩⟩⟩⟩
theorem lw_p144 : lw_okq (⟨"BreedingHouseModel", "many", "(III)J"⟩, 138) := ⟨⟨by decide +kernel, by decide +kernel⟩, List.mem_of_getElem? (i := 2063) (by decide +kernel), List.mem_of_getElem? (i := 2714) (by decide +kernel), List.mem_of_getElem? (i := 2715) (by decide +kernel)⟩
theorem lw_p145 : lw_okq (⟨"BreedingHouseModel", "manyOf", "(III)J"⟩, 138) := ⟨⟨by decide +kernel, by decide +kernel⟩, List.mem_of_getElem? (i := 2063) (by decide +kernel), List.mem_of_getElem? (i := 2718) (by decide +kernel), List.mem_of_getElem? (i := 2719) (by decide +kernel)⟩
theorem lw_p146 : lw_okq (⟨"BreedingHouseModel", "grow", "(IIIJ)V"⟩, 138) := ⟨⟨by decide +kernel, by decide +kernel⟩, List.mem_of_getElem? (i := 2063) (by decide +kernel), List.mem_of_getElem? (i := 2726) (by decide +kernel), List.mem_of_getElem? (i := 2727) (by decide +kernel)⟩
theorem lw_p147 : lw_okq (⟨"BreedingHouseModel", "later", "(IIIJ)V"⟩, 138) := ⟨⟨by decide +kernel, by decide +kernel⟩, List.mem_of_getElem? (i := 2063) (by decide +kernel), List.mem_of_getElem? (i := 2730) (by decide +kernel), List.mem_of_getElem? (i := 2731) (by decide +kernel)⟩
theorem lw_p148 : lw_okq (⟨"BreedingHouseModel", "growOne", "(IIIJ)V"⟩, 138) := ⟨⟨by decide +kernel, by decide +kernel⟩, List.mem_of_getElem? (i := 2063) (by decide +kernel), List.mem_of_getElem? (i := 2734) (by decide +kernel), List.mem_of_getElem? (i := 2735) (by decide +kernel)⟩
theorem lw_p149 : lw_okq (⟨"BreedingHouseModel", "growParts", "(IIIIIJ)V"⟩, 138) := ⟨⟨by decide +kernel, by decide +kernel⟩, List.mem_of_getElem? (i := 2063) (by decide +kernel), List.mem_of_getElem? (i := 2738) (by decide +kernel), List.mem_of_getElem? (i := 2739) (by decide +kernel)⟩
theorem lw_p150 : lw_okq (⟨"BreedingHouseModel", "loadA", "(I)V"⟩, 138) := ⟨⟨by decide +kernel, by decide +kernel⟩, List.mem_of_getElem? (i := 2063) (by decide +kernel), List.mem_of_getElem? (i := 2746) (by decide +kernel), List.mem_of_getElem? (i := 2747) (by decide +kernel)⟩
theorem lw_p151 : lw_okq (⟨"BreedingHouseModel", "measure", "()V"⟩, 138) := ⟨⟨by decide +kernel, by decide +kernel⟩, List.mem_of_getElem? (i := 2063) (by decide +kernel), List.mem_of_getElem? (i := 2750) (by decide +kernel), List.mem_of_getElem? (i := 2751) (by decide +kernel)⟩
theorem lw_p152 : lw_okq (⟨"BreedingHouseModel", "partA", "(II)I"⟩, 138) := ⟨⟨by decide +kernel, by decide +kernel⟩, List.mem_of_getElem? (i := 2063) (by decide +kernel), List.mem_of_getElem? (i := 2756) (by decide +kernel), List.mem_of_getElem? (i := 2757) (by decide +kernel)⟩
theorem lw_p153 : lw_okq (⟨"BreedingHouseModel", "placeOf", "(I)J"⟩, 138) := ⟨⟨by decide +kernel, by decide +kernel⟩, List.mem_of_getElem? (i := 2063) (by decide +kernel), List.mem_of_getElem? (i := 2760) (by decide +kernel), List.mem_of_getElem? (i := 2761) (by decide +kernel)⟩
theorem lw_p154 : lw_okq (⟨"BreedingHouseModel", "isCase", "(I)Z"⟩, 138) := ⟨⟨by decide +kernel, by decide +kernel⟩, List.mem_of_getElem? (i := 2063) (by decide +kernel), List.mem_of_getElem? (i := 2776) (by decide +kernel), List.mem_of_getElem? (i := 2777) (by decide +kernel)⟩
theorem lw_p155 : lw_okq (⟨"BreedingHouseModel", "askCase", "(I)V"⟩, 138) := ⟨⟨by decide +kernel, by decide +kernel⟩, List.mem_of_getElem? (i := 2063) (by decide +kernel), List.mem_of_getElem? (i := 2793) (by decide +kernel), List.mem_of_getElem? (i := 2794) (by decide +kernel)⟩
theorem lw_p156 : lw_okq (⟨"BreedingHouseModel", "go", "()V"⟩, 138) := ⟨⟨by decide +kernel, by decide +kernel⟩, List.mem_of_getElem? (i := 2063) (by decide +kernel), List.mem_of_getElem? (i := 2797) (by decide +kernel), List.mem_of_getElem? (i := 2798) (by decide +kernel)⟩
theorem lw_p157 : lw_okq (⟨"BreedingHouseModel", "goTree", "()V"⟩, 138) := ⟨⟨by decide +kernel, by decide +kernel⟩, List.mem_of_getElem? (i := 2063) (by decide +kernel), List.mem_of_getElem? (i := 2801) (by decide +kernel), List.mem_of_getElem? (i := 2802) (by decide +kernel)⟩
theorem lw_p158 : lw_okq (⟨"BreedingHouseModel", "spanDesk", "()V"⟩, 138) := ⟨⟨by decide +kernel, by decide +kernel⟩, List.mem_of_getElem? (i := 2063) (by decide +kernel), List.mem_of_getElem? (i := 2805) (by decide +kernel), List.mem_of_getElem? (i := 2806) (by decide +kernel)⟩
theorem lw_p159 : lw_okq (⟨"BreedingHouseModel", "enter", "(I)V"⟩, 138) := ⟨⟨by decide +kernel, by decide +kernel⟩, List.mem_of_getElem? (i := 2063) (by decide +kernel), List.mem_of_getElem? (i := 2809) (by decide +kernel), List.mem_of_getElem? (i := 2810) (by decide +kernel)⟩
def lw_privs_10 : List (MethodName × Nat) := [(⟨"BreedingHouseModel", "many", "(III)J"⟩, 138), (⟨"BreedingHouseModel", "manyOf", "(III)J"⟩, 138), (⟨"BreedingHouseModel", "grow", "(IIIJ)V"⟩, 138), (⟨"BreedingHouseModel", "later", "(IIIJ)V"⟩, 138), (⟨"BreedingHouseModel", "growOne", "(IIIJ)V"⟩, 138), (⟨"BreedingHouseModel", "growParts", "(IIIIIJ)V"⟩, 138), (⟨"BreedingHouseModel", "loadA", "(I)V"⟩, 138), (⟨"BreedingHouseModel", "measure", "()V"⟩, 138), (⟨"BreedingHouseModel", "partA", "(II)I"⟩, 138), (⟨"BreedingHouseModel", "placeOf", "(I)J"⟩, 138), (⟨"BreedingHouseModel", "isCase", "(I)Z"⟩, 138), (⟨"BreedingHouseModel", "askCase", "(I)V"⟩, 138), (⟨"BreedingHouseModel", "go", "()V"⟩, 138), (⟨"BreedingHouseModel", "goTree", "()V"⟩, 138), (⟨"BreedingHouseModel", "spanDesk", "()V"⟩, 138), (⟨"BreedingHouseModel", "enter", "(I)V"⟩, 138)]
theorem lw_r10 : ∀ q ∈ lw_privs_10, lw_okq q := List.forall_mem_cons.mpr ⟨lw_p144, List.forall_mem_cons.mpr ⟨lw_p145, List.forall_mem_cons.mpr ⟨lw_p146, List.forall_mem_cons.mpr ⟨lw_p147, List.forall_mem_cons.mpr ⟨lw_p148, List.forall_mem_cons.mpr ⟨lw_p149, List.forall_mem_cons.mpr ⟨lw_p150, List.forall_mem_cons.mpr ⟨lw_p151, List.forall_mem_cons.mpr ⟨lw_p152, List.forall_mem_cons.mpr ⟨lw_p153, List.forall_mem_cons.mpr ⟨lw_p154, List.forall_mem_cons.mpr ⟨lw_p155, List.forall_mem_cons.mpr ⟨lw_p156, List.forall_mem_cons.mpr ⟨lw_p157, List.forall_mem_cons.mpr ⟨lw_p158, List.forall_mem_cons.mpr ⟨lw_p159, fun _ h => absurd h List.not_mem_nil⟩⟩⟩⟩⟩⟩⟩⟩⟩⟩⟩⟩⟩⟩⟩⟩
theorem lw_p160 : lw_okq (⟨"BreedingHouseModel", "steps", "()Z"⟩, 138) := ⟨⟨by decide +kernel, by decide +kernel⟩, List.mem_of_getElem? (i := 2063) (by decide +kernel), List.mem_of_getElem? (i := 2813) (by decide +kernel), List.mem_of_getElem? (i := 2814) (by decide +kernel)⟩
theorem lw_p161 : lw_okq (⟨"BreedingHouseModel", "leaf", "(II)I"⟩, 138) := ⟨⟨by decide +kernel, by decide +kernel⟩, List.mem_of_getElem? (i := 2063) (by decide +kernel), List.mem_of_getElem? (i := 2817) (by decide +kernel), List.mem_of_getElem? (i := 2818) (by decide +kernel)⟩
theorem lw_p162 : lw_okq (⟨"BreedingHouseModel", "leave", "(I)V"⟩, 138) := ⟨⟨by decide +kernel, by decide +kernel⟩, List.mem_of_getElem? (i := 2063) (by decide +kernel), List.mem_of_getElem? (i := 2821) (by decide +kernel), List.mem_of_getElem? (i := 2822) (by decide +kernel)⟩
theorem lw_p163 : lw_okq (⟨"BreedingHouseModel", "part", "(III)V"⟩, 138) := ⟨⟨by decide +kernel, by decide +kernel⟩, List.mem_of_getElem? (i := 2063) (by decide +kernel), List.mem_of_getElem? (i := 2825) (by decide +kernel), List.mem_of_getElem? (i := 2826) (by decide +kernel)⟩
theorem lw_p164 : lw_okq (⟨"BreedingHouseModel", "rowAt", "(I)I"⟩, 138) := ⟨⟨by decide +kernel, by decide +kernel⟩, List.mem_of_getElem? (i := 2063) (by decide +kernel), List.mem_of_getElem? (i := 2829) (by decide +kernel), List.mem_of_getElem? (i := 2830) (by decide +kernel)⟩
theorem lw_p165 : lw_okq (⟨"BreedingHouseModel", "second", "(I)I"⟩, 138) := ⟨⟨by decide +kernel, by decide +kernel⟩, List.mem_of_getElem? (i := 2063) (by decide +kernel), List.mem_of_getElem? (i := 2833) (by decide +kernel), List.mem_of_getElem? (i := 2834) (by decide +kernel)⟩
theorem lw_p166 : lw_okq (⟨"BreedingHouseModel", "joined", "(III)I"⟩, 138) := ⟨⟨by decide +kernel, by decide +kernel⟩, List.mem_of_getElem? (i := 2063) (by decide +kernel), List.mem_of_getElem? (i := 2837) (by decide +kernel), List.mem_of_getElem? (i := 2838) (by decide +kernel)⟩
theorem lw_p167 : lw_okq (⟨"BreedingHouseModel", "fold", "(III)V"⟩, 138) := ⟨⟨by decide +kernel, by decide +kernel⟩, List.mem_of_getElem? (i := 2063) (by decide +kernel), List.mem_of_getElem? (i := 2841) (by decide +kernel), List.mem_of_getElem? (i := 2842) (by decide +kernel)⟩
theorem lw_p168 : lw_okq (⟨"BreedingHouseModel", "goCode", "()V"⟩, 138) := ⟨⟨by decide +kernel, by decide +kernel⟩, List.mem_of_getElem? (i := 2063) (by decide +kernel), List.mem_of_getElem? (i := 2845) (by decide +kernel), List.mem_of_getElem? (i := 2846) (by decide +kernel)⟩
theorem lw_p169 : lw_okq (⟨"BreedingHouseModel", "goMachine", "()V"⟩, 138) := ⟨⟨by decide +kernel, by decide +kernel⟩, List.mem_of_getElem? (i := 2063) (by decide +kernel), List.mem_of_getElem? (i := 2849) (by decide +kernel), List.mem_of_getElem? (i := 2850) (by decide +kernel)⟩
theorem lw_p170 : lw_okq (⟨"BreedingHouseModel", "goNet", "()V"⟩, 138) := ⟨⟨by decide +kernel, by decide +kernel⟩, List.mem_of_getElem? (i := 2063) (by decide +kernel), List.mem_of_getElem? (i := 2853) (by decide +kernel), List.mem_of_getElem? (i := 2854) (by decide +kernel)⟩
theorem lw_p171 : lw_okq (⟨"BreedingHouseModel", "exchange", "(I)Z"⟩, 138) := ⟨⟨by decide +kernel, by decide +kernel⟩, List.mem_of_getElem? (i := 2063) (by decide +kernel), List.mem_of_getElem? (i := 2857) (by decide +kernel), List.mem_of_getElem? (i := 2858) (by decide +kernel)⟩
theorem lw_p172 : lw_okq (⟨"BreedingHouseModel", "tellRun", "()I"⟩, 138) := ⟨⟨by decide +kernel, by decide +kernel⟩, List.mem_of_getElem? (i := 2063) (by decide +kernel), List.mem_of_getElem? (i := 2861) (by decide +kernel), List.mem_of_getElem? (i := 2862) (by decide +kernel)⟩
theorem lw_p173 : lw_okq (⟨"BreedingHouseModel", "askRow", "(III)V"⟩, 138) := ⟨⟨by decide +kernel, by decide +kernel⟩, List.mem_of_getElem? (i := 2063) (by decide +kernel), List.mem_of_getElem? (i := 2869) (by decide +kernel), List.mem_of_getElem? (i := 2870) (by decide +kernel)⟩
theorem lw_p174 : lw_okq (⟨"BreedingHouseModel", "errorAt", "(I)J"⟩, 138) := ⟨⟨by decide +kernel, by decide +kernel⟩, List.mem_of_getElem? (i := 2063) (by decide +kernel), List.mem_of_getElem? (i := 2885) (by decide +kernel), List.mem_of_getElem? (i := 2886) (by decide +kernel)⟩
theorem lw_p175 : lw_okq (⟨"BreedingHouseModel", "judge", "(Z)V"⟩, 138) := ⟨⟨by decide +kernel, by decide +kernel⟩, List.mem_of_getElem? (i := 2063) (by decide +kernel), List.mem_of_getElem? (i := 2898) (by decide +kernel), List.mem_of_getElem? (i := 2899) (by decide +kernel)⟩
def lw_privs_11 : List (MethodName × Nat) := [(⟨"BreedingHouseModel", "steps", "()Z"⟩, 138), (⟨"BreedingHouseModel", "leaf", "(II)I"⟩, 138), (⟨"BreedingHouseModel", "leave", "(I)V"⟩, 138), (⟨"BreedingHouseModel", "part", "(III)V"⟩, 138), (⟨"BreedingHouseModel", "rowAt", "(I)I"⟩, 138), (⟨"BreedingHouseModel", "second", "(I)I"⟩, 138), (⟨"BreedingHouseModel", "joined", "(III)I"⟩, 138), (⟨"BreedingHouseModel", "fold", "(III)V"⟩, 138), (⟨"BreedingHouseModel", "goCode", "()V"⟩, 138), (⟨"BreedingHouseModel", "goMachine", "()V"⟩, 138), (⟨"BreedingHouseModel", "goNet", "()V"⟩, 138), (⟨"BreedingHouseModel", "exchange", "(I)Z"⟩, 138), (⟨"BreedingHouseModel", "tellRun", "()I"⟩, 138), (⟨"BreedingHouseModel", "askRow", "(III)V"⟩, 138), (⟨"BreedingHouseModel", "errorAt", "(I)J"⟩, 138), (⟨"BreedingHouseModel", "judge", "(Z)V"⟩, 138)]
theorem lw_r11 : ∀ q ∈ lw_privs_11, lw_okq q := List.forall_mem_cons.mpr ⟨lw_p160, List.forall_mem_cons.mpr ⟨lw_p161, List.forall_mem_cons.mpr ⟨lw_p162, List.forall_mem_cons.mpr ⟨lw_p163, List.forall_mem_cons.mpr ⟨lw_p164, List.forall_mem_cons.mpr ⟨lw_p165, List.forall_mem_cons.mpr ⟨lw_p166, List.forall_mem_cons.mpr ⟨lw_p167, List.forall_mem_cons.mpr ⟨lw_p168, List.forall_mem_cons.mpr ⟨lw_p169, List.forall_mem_cons.mpr ⟨lw_p170, List.forall_mem_cons.mpr ⟨lw_p171, List.forall_mem_cons.mpr ⟨lw_p172, List.forall_mem_cons.mpr ⟨lw_p173, List.forall_mem_cons.mpr ⟨lw_p174, List.forall_mem_cons.mpr ⟨lw_p175, fun _ h => absurd h List.not_mem_nil⟩⟩⟩⟩⟩⟩⟩⟩⟩⟩⟩⟩⟩⟩⟩⟩
theorem lw_p176 : lw_okq (⟨"BreedingHouseModel", "lowest", "()V"⟩, 138) := ⟨⟨by decide +kernel, by decide +kernel⟩, List.mem_of_getElem? (i := 2063) (by decide +kernel), List.mem_of_getElem? (i := 2902) (by decide +kernel), List.mem_of_getElem? (i := 2903) (by decide +kernel)⟩
theorem lw_p177 : lw_okq (⟨"BreedingHouseModel", "lessPart", "(JJJJI)J"⟩, 138) := ⟨⟨by decide +kernel, by decide +kernel⟩, List.mem_of_getElem? (i := 2063) (by decide +kernel), List.mem_of_getElem? (i := 2913) (by decide +kernel), List.mem_of_getElem? (i := 2914) (by decide +kernel)⟩
theorem lw_p178 : lw_okq (⟨"BreedingHouseModel", "better", "(II)I"⟩, 138) := ⟨⟨by decide +kernel, by decide +kernel⟩, List.mem_of_getElem? (i := 2063) (by decide +kernel), List.mem_of_getElem? (i := 2925) (by decide +kernel), List.mem_of_getElem? (i := 2926) (by decide +kernel)⟩
theorem lw_p179 : lw_okq (⟨"BreedingHouseModel", "editA", "(II)I"⟩, 138) := ⟨⟨by decide +kernel, by decide +kernel⟩, List.mem_of_getElem? (i := 2063) (by decide +kernel), List.mem_of_getElem? (i := 2943) (by decide +kernel), List.mem_of_getElem? (i := 2944) (by decide +kernel)⟩
theorem lw_p180 : lw_okq (⟨"BreedingHouseModel", "editConstants", "()V"⟩, 138) := ⟨⟨by decide +kernel, by decide +kernel⟩, List.mem_of_getElem? (i := 2063) (by decide +kernel), List.mem_of_getElem? (i := 2947) (by decide +kernel), List.mem_of_getElem? (i := 2948) (by decide +kernel)⟩
theorem lw_p181 : lw_okq (⟨"BreedingHouseModel", "tryConstant", "(II)Z"⟩, 138) := ⟨⟨by decide +kernel, by decide +kernel⟩, List.mem_of_getElem? (i := 2063) (by decide +kernel), List.mem_of_getElem? (i := 2951) (by decide +kernel), List.mem_of_getElem? (i := 2952) (by decide +kernel)⟩
theorem lw_p182 : lw_okq (⟨"BreedingHouseModel", "fromA", "()V"⟩, 138) := ⟨⟨by decide +kernel, by decide +kernel⟩, List.mem_of_getElem? (i := 2063) (by decide +kernel), List.mem_of_getElem? (i := 2957) (by decide +kernel), List.mem_of_getElem? (i := 2958) (by decide +kernel)⟩
theorem lw_p183 : lw_okq (⟨"BreedingHouseModel", "copyA", "(II)V"⟩, 138) := ⟨⟨by decide +kernel, by decide +kernel⟩, List.mem_of_getElem? (i := 2063) (by decide +kernel), List.mem_of_getElem? (i := 2961) (by decide +kernel), List.mem_of_getElem? (i := 2962) (by decide +kernel)⟩
theorem lw_p184 : lw_okq (⟨"BreedingHouseModel", "counts", "()Z"⟩, 138) := ⟨⟨by decide +kernel, by decide +kernel⟩, List.mem_of_getElem? (i := 2063) (by decide +kernel), List.mem_of_getElem? (i := 2965) (by decide +kernel), List.mem_of_getElem? (i := 2966) (by decide +kernel)⟩
theorem lw_p185 : lw_okq (⟨"BreedingHouseModel", "isSound", "()Z"⟩, 138) := ⟨⟨by decide +kernel, by decide +kernel⟩, List.mem_of_getElem? (i := 2063) (by decide +kernel), List.mem_of_getElem? (i := 2969) (by decide +kernel), List.mem_of_getElem? (i := 2970) (by decide +kernel)⟩
theorem lw_p186 : lw_okq (⟨"BreedingHouseModel", "isTree", "(ZZ)Z"⟩, 138) := ⟨⟨by decide +kernel, by decide +kernel⟩, List.mem_of_getElem? (i := 2063) (by decide +kernel), List.mem_of_getElem? (i := 2973) (by decide +kernel), List.mem_of_getElem? (i := 2974) (by decide +kernel)⟩
theorem lw_p187 : lw_okq (⟨"BreedingHouseModel", "editSorts", "()V"⟩, 138) := ⟨⟨by decide +kernel, by decide +kernel⟩, List.mem_of_getElem? (i := 2063) (by decide +kernel), List.mem_of_getElem? (i := 2979) (by decide +kernel), List.mem_of_getElem? (i := 2980) (by decide +kernel)⟩
theorem lw_p188 : lw_okq (⟨"BreedingHouseModel", "editLeaves", "()V"⟩, 138) := ⟨⟨by decide +kernel, by decide +kernel⟩, List.mem_of_getElem? (i := 2063) (by decide +kernel), List.mem_of_getElem? (i := 2986) (by decide +kernel), List.mem_of_getElem? (i := 2987) (by decide +kernel)⟩
theorem lw_p189 : lw_okq (⟨"BreedingHouseModel", "tryLeaf", "(III)Z"⟩, 138) := ⟨⟨by decide +kernel, by decide +kernel⟩, List.mem_of_getElem? (i := 2063) (by decide +kernel), List.mem_of_getElem? (i := 2990) (by decide +kernel), List.mem_of_getElem? (i := 2991) (by decide +kernel)⟩
theorem lw_p190 : lw_okq (⟨"BreedingHouseModel", "begin", "()V"⟩, 138) := ⟨⟨by decide +kernel, by decide +kernel⟩, List.mem_of_getElem? (i := 2063) (by decide +kernel), List.mem_of_getElem? (i := 2994) (by decide +kernel), List.mem_of_getElem? (i := 2995) (by decide +kernel)⟩
theorem lw_p191 : lw_okq (⟨"BreedingHouseModel", "editParts", "()V"⟩, 138) := ⟨⟨by decide +kernel, by decide +kernel⟩, List.mem_of_getElem? (i := 2063) (by decide +kernel), List.mem_of_getElem? (i := 2998) (by decide +kernel), List.mem_of_getElem? (i := 2999) (by decide +kernel)⟩
def lw_privs_12 : List (MethodName × Nat) := [(⟨"BreedingHouseModel", "lowest", "()V"⟩, 138), (⟨"BreedingHouseModel", "lessPart", "(JJJJI)J"⟩, 138), (⟨"BreedingHouseModel", "better", "(II)I"⟩, 138), (⟨"BreedingHouseModel", "editA", "(II)I"⟩, 138), (⟨"BreedingHouseModel", "editConstants", "()V"⟩, 138), (⟨"BreedingHouseModel", "tryConstant", "(II)Z"⟩, 138), (⟨"BreedingHouseModel", "fromA", "()V"⟩, 138), (⟨"BreedingHouseModel", "copyA", "(II)V"⟩, 138), (⟨"BreedingHouseModel", "counts", "()Z"⟩, 138), (⟨"BreedingHouseModel", "isSound", "()Z"⟩, 138), (⟨"BreedingHouseModel", "isTree", "(ZZ)Z"⟩, 138), (⟨"BreedingHouseModel", "editSorts", "()V"⟩, 138), (⟨"BreedingHouseModel", "editLeaves", "()V"⟩, 138), (⟨"BreedingHouseModel", "tryLeaf", "(III)Z"⟩, 138), (⟨"BreedingHouseModel", "begin", "()V"⟩, 138), (⟨"BreedingHouseModel", "editParts", "()V"⟩, 138)]
theorem lw_r12 : ∀ q ∈ lw_privs_12, lw_okq q := List.forall_mem_cons.mpr ⟨lw_p176, List.forall_mem_cons.mpr ⟨lw_p177, List.forall_mem_cons.mpr ⟨lw_p178, List.forall_mem_cons.mpr ⟨lw_p179, List.forall_mem_cons.mpr ⟨lw_p180, List.forall_mem_cons.mpr ⟨lw_p181, List.forall_mem_cons.mpr ⟨lw_p182, List.forall_mem_cons.mpr ⟨lw_p183, List.forall_mem_cons.mpr ⟨lw_p184, List.forall_mem_cons.mpr ⟨lw_p185, List.forall_mem_cons.mpr ⟨lw_p186, List.forall_mem_cons.mpr ⟨lw_p187, List.forall_mem_cons.mpr ⟨lw_p188, List.forall_mem_cons.mpr ⟨lw_p189, List.forall_mem_cons.mpr ⟨lw_p190, List.forall_mem_cons.mpr ⟨lw_p191, fun _ h => absurd h List.not_mem_nil⟩⟩⟩⟩⟩⟩⟩⟩⟩⟩⟩⟩⟩⟩⟩⟩
theorem lw_p192 : lw_okq (⟨"BreedingHouseModel", "editSigns", "()V"⟩, 138) := ⟨⟨by decide +kernel, by decide +kernel⟩, List.mem_of_getElem? (i := 2063) (by decide +kernel), List.mem_of_getElem? (i := 3002) (by decide +kernel), List.mem_of_getElem? (i := 3003) (by decide +kernel)⟩
theorem lw_p193 : lw_okq (⟨"BreedingHouseModel", "editOut", "()V"⟩, 138) := ⟨⟨by decide +kernel, by decide +kernel⟩, List.mem_of_getElem? (i := 2063) (by decide +kernel), List.mem_of_getElem? (i := 3009) (by decide +kernel), List.mem_of_getElem? (i := 3010) (by decide +kernel)⟩
theorem lw_p194 : lw_okq (⟨"BreedingHouseModel", "without", "(II)Z"⟩, 138) := ⟨⟨by decide +kernel, by decide +kernel⟩, List.mem_of_getElem? (i := 2063) (by decide +kernel), List.mem_of_getElem? (i := 3013) (by decide +kernel), List.mem_of_getElem? (i := 3014) (by decide +kernel)⟩
theorem lw_p195 : lw_okq (⟨"BreedingHouseModel", "editIn", "()V"⟩, 138) := ⟨⟨by decide +kernel, by decide +kernel⟩, List.mem_of_getElem? (i := 2063) (by decide +kernel), List.mem_of_getElem? (i := 3017) (by decide +kernel), List.mem_of_getElem? (i := 3018) (by decide +kernel)⟩
theorem lw_p196 : lw_okq (⟨"BreedingHouseModel", "with", "(II)V"⟩, 138) := ⟨⟨by decide +kernel, by decide +kernel⟩, List.mem_of_getElem? (i := 2063) (by decide +kernel), List.mem_of_getElem? (i := 3021) (by decide +kernel), List.mem_of_getElem? (i := 3022) (by decide +kernel)⟩
theorem lw_p197 : lw_okq (⟨"BreedingHouseModel", "come", "(I)V"⟩, 138) := ⟨⟨by decide +kernel, by decide +kernel⟩, List.mem_of_getElem? (i := 2063) (by decide +kernel), List.mem_of_getElem? (i := 3025) (by decide +kernel), List.mem_of_getElem? (i := 3026) (by decide +kernel)⟩
theorem lw_p198 : lw_okq (⟨"BreedingHouseModel", "editOutputs", "()V"⟩, 138) := ⟨⟨by decide +kernel, by decide +kernel⟩, List.mem_of_getElem? (i := 2063) (by decide +kernel), List.mem_of_getElem? (i := 3029) (by decide +kernel), List.mem_of_getElem? (i := 3030) (by decide +kernel)⟩
theorem lw_p199 : lw_okq (⟨"BreedingHouseModel", "tryOutput", "(II)Z"⟩, 138) := ⟨⟨by decide +kernel, by decide +kernel⟩, List.mem_of_getElem? (i := 2063) (by decide +kernel), List.mem_of_getElem? (i := 3033) (by decide +kernel), List.mem_of_getElem? (i := 3034) (by decide +kernel)⟩
theorem lw_p200 : lw_okq (⟨"BreedingHouseModel", "editEdges", "()V"⟩, 138) := ⟨⟨by decide +kernel, by decide +kernel⟩, List.mem_of_getElem? (i := 2063) (by decide +kernel), List.mem_of_getElem? (i := 3037) (by decide +kernel), List.mem_of_getElem? (i := 3038) (by decide +kernel)⟩
theorem lw_p201 : lw_okq (⟨"BreedingHouseModel", "editSplit", "()V"⟩, 138) := ⟨⟨by decide +kernel, by decide +kernel⟩, List.mem_of_getElem? (i := 2063) (by decide +kernel), List.mem_of_getElem? (i := 3041) (by decide +kernel), List.mem_of_getElem? (i := 3042) (by decide +kernel)⟩
theorem lw_p202 : lw_okq (⟨"BreedingHouseModel", "editJoin", "()V"⟩, 138) := ⟨⟨by decide +kernel, by decide +kernel⟩, List.mem_of_getElem? (i := 2063) (by decide +kernel), List.mem_of_getElem? (i := 3045) (by decide +kernel), List.mem_of_getElem? (i := 3046) (by decide +kernel)⟩
theorem lw_p203 : lw_okq (⟨"BreedingHouseModel", "editLines", "()V"⟩, 138) := ⟨⟨by decide +kernel, by decide +kernel⟩, List.mem_of_getElem? (i := 2063) (by decide +kernel), List.mem_of_getElem? (i := 3049) (by decide +kernel), List.mem_of_getElem? (i := 3050) (by decide +kernel)⟩
theorem lw_p204 : lw_okq (⟨"BreedingHouseModel", "editLess", "()V"⟩, 138) := ⟨⟨by decide +kernel, by decide +kernel⟩, List.mem_of_getElem? (i := 2063) (by decide +kernel), List.mem_of_getElem? (i := 3053) (by decide +kernel), List.mem_of_getElem? (i := 3054) (by decide +kernel)⟩
theorem lw_p205 : lw_okq (⟨"BreedingHouseModel", "editMore", "()V"⟩, 138) := ⟨⟨by decide +kernel, by decide +kernel⟩, List.mem_of_getElem? (i := 2063) (by decide +kernel), List.mem_of_getElem? (i := 3057) (by decide +kernel), List.mem_of_getElem? (i := 3058) (by decide +kernel)⟩
theorem lw_p206 : lw_okq (⟨"BreedingHouseModel", "editSwap", "()V"⟩, 138) := ⟨⟨by decide +kernel, by decide +kernel⟩, List.mem_of_getElem? (i := 2063) (by decide +kernel), List.mem_of_getElem? (i := 3061) (by decide +kernel), List.mem_of_getElem? (i := 3062) (by decide +kernel)⟩
theorem lw_p207 : lw_okq (⟨"BreedingHouseModel", "isHow", "(II)Z"⟩, 138) := ⟨⟨by decide +kernel, by decide +kernel⟩, List.mem_of_getElem? (i := 2063) (by decide +kernel), List.mem_of_getElem? (i := 3073) (by decide +kernel), List.mem_of_getElem? (i := 3074) (by decide +kernel)⟩
def lw_privs_13 : List (MethodName × Nat) := [(⟨"BreedingHouseModel", "editSigns", "()V"⟩, 138), (⟨"BreedingHouseModel", "editOut", "()V"⟩, 138), (⟨"BreedingHouseModel", "without", "(II)Z"⟩, 138), (⟨"BreedingHouseModel", "editIn", "()V"⟩, 138), (⟨"BreedingHouseModel", "with", "(II)V"⟩, 138), (⟨"BreedingHouseModel", "come", "(I)V"⟩, 138), (⟨"BreedingHouseModel", "editOutputs", "()V"⟩, 138), (⟨"BreedingHouseModel", "tryOutput", "(II)Z"⟩, 138), (⟨"BreedingHouseModel", "editEdges", "()V"⟩, 138), (⟨"BreedingHouseModel", "editSplit", "()V"⟩, 138), (⟨"BreedingHouseModel", "editJoin", "()V"⟩, 138), (⟨"BreedingHouseModel", "editLines", "()V"⟩, 138), (⟨"BreedingHouseModel", "editLess", "()V"⟩, 138), (⟨"BreedingHouseModel", "editMore", "()V"⟩, 138), (⟨"BreedingHouseModel", "editSwap", "()V"⟩, 138), (⟨"BreedingHouseModel", "isHow", "(II)Z"⟩, 138)]
theorem lw_r13 : ∀ q ∈ lw_privs_13, lw_okq q := List.forall_mem_cons.mpr ⟨lw_p192, List.forall_mem_cons.mpr ⟨lw_p193, List.forall_mem_cons.mpr ⟨lw_p194, List.forall_mem_cons.mpr ⟨lw_p195, List.forall_mem_cons.mpr ⟨lw_p196, List.forall_mem_cons.mpr ⟨lw_p197, List.forall_mem_cons.mpr ⟨lw_p198, List.forall_mem_cons.mpr ⟨lw_p199, List.forall_mem_cons.mpr ⟨lw_p200, List.forall_mem_cons.mpr ⟨lw_p201, List.forall_mem_cons.mpr ⟨lw_p202, List.forall_mem_cons.mpr ⟨lw_p203, List.forall_mem_cons.mpr ⟨lw_p204, List.forall_mem_cons.mpr ⟨lw_p205, List.forall_mem_cons.mpr ⟨lw_p206, List.forall_mem_cons.mpr ⟨lw_p207, fun _ h => absurd h List.not_mem_nil⟩⟩⟩⟩⟩⟩⟩⟩⟩⟩⟩⟩⟩⟩⟩⟩
theorem lw_p208 : lw_okq (⟨"BreedingHouseModel", "changeA", "(IJ)V"⟩, 138) := ⟨⟨by decide +kernel, by decide +kernel⟩, List.mem_of_getElem? (i := 2063) (by decide +kernel), List.mem_of_getElem? (i := 3077) (by decide +kernel), List.mem_of_getElem? (i := 3078) (by decide +kernel)⟩
theorem lw_p209 : lw_okq (⟨"BreedingHouseModel", "plant", "()V"⟩, 138) := ⟨⟨by decide +kernel, by decide +kernel⟩, List.mem_of_getElem? (i := 2063) (by decide +kernel), List.mem_of_getElem? (i := 3081) (by decide +kernel), List.mem_of_getElem? (i := 3082) (by decide +kernel)⟩
theorem lw_p210 : lw_okq (⟨"BreedingHouseModel", "draw", "(I)I"⟩, 138) := ⟨⟨by decide +kernel, by decide +kernel⟩, List.mem_of_getElem? (i := 2063) (by decide +kernel), List.mem_of_getElem? (i := 3085) (by decide +kernel), List.mem_of_getElem? (i := 3086) (by decide +kernel)⟩
theorem lw_p211 : lw_okq (⟨"BreedingHouseModel", "half", "()J"⟩, 138) := ⟨⟨by decide +kernel, by decide +kernel⟩, List.mem_of_getElem? (i := 2063) (by decide +kernel), List.mem_of_getElem? (i := 3089) (by decide +kernel), List.mem_of_getElem? (i := 3090) (by decide +kernel)⟩
theorem lw_p212 : lw_okq (⟨"BreedingHouseModel", "isWithin", "(I)Z"⟩, 138) := ⟨⟨by decide +kernel, by decide +kernel⟩, List.mem_of_getElem? (i := 2063) (by decide +kernel), List.mem_of_getElem? (i := 3095) (by decide +kernel), List.mem_of_getElem? (i := 3096) (by decide +kernel)⟩
theorem lw_p213 : lw_okq (⟨"BreedingHouseModel", "wideDraw", "(J)J"⟩, 138) := ⟨⟨by decide +kernel, by decide +kernel⟩, List.mem_of_getElem? (i := 2063) (by decide +kernel), List.mem_of_getElem? (i := 3099) (by decide +kernel), List.mem_of_getElem? (i := 3100) (by decide +kernel)⟩
theorem lw_p214 : lw_okq (⟨"BreedingHouseModel", "arePairable", "(II)Z"⟩, 138) := ⟨⟨by decide +kernel, by decide +kernel⟩, List.mem_of_getElem? (i := 2063) (by decide +kernel), List.mem_of_getElem? (i := 3108) (by decide +kernel), List.mem_of_getElem? (i := 3109) (by decide +kernel)⟩
theorem lw_p215 : lw_okq (⟨"BreedingHouseModel", "loadB", "(I)V"⟩, 138) := ⟨⟨by decide +kernel, by decide +kernel⟩, List.mem_of_getElem? (i := 2063) (by decide +kernel), List.mem_of_getElem? (i := 3112) (by decide +kernel), List.mem_of_getElem? (i := 3113) (by decide +kernel)⟩
theorem lw_p216 : lw_okq (⟨"BreedingHouseModel", "pairA", "(I)I"⟩, 138) := ⟨⟨by decide +kernel, by decide +kernel⟩, List.mem_of_getElem? (i := 2063) (by decide +kernel), List.mem_of_getElem? (i := 3116) (by decide +kernel), List.mem_of_getElem? (i := 3117) (by decide +kernel)⟩
theorem lw_p217 : lw_okq (⟨"BreedingHouseModel", "pairTrees", "()V"⟩, 138) := ⟨⟨by decide +kernel, by decide +kernel⟩, List.mem_of_getElem? (i := 2063) (by decide +kernel), List.mem_of_getElem? (i := 3120) (by decide +kernel), List.mem_of_getElem? (i := 3121) (by decide +kernel)⟩
theorem lw_p218 : lw_okq (⟨"BreedingHouseModel", "copyB", "(II)V"⟩, 138) := ⟨⟨by decide +kernel, by decide +kernel⟩, List.mem_of_getElem? (i := 2063) (by decide +kernel), List.mem_of_getElem? (i := 3124) (by decide +kernel), List.mem_of_getElem? (i := 3125) (by decide +kernel)⟩
theorem lw_p219 : lw_okq (⟨"BreedingHouseModel", "pairMachines", "()V"⟩, 138) := ⟨⟨by decide +kernel, by decide +kernel⟩, List.mem_of_getElem? (i := 2063) (by decide +kernel), List.mem_of_getElem? (i := 3128) (by decide +kernel), List.mem_of_getElem? (i := 3129) (by decide +kernel)⟩
theorem lw_p220 : lw_okq (⟨"BreedingHouseModel", "pairRows", "()V"⟩, 138) := ⟨⟨by decide +kernel, by decide +kernel⟩, List.mem_of_getElem? (i := 2063) (by decide +kernel), List.mem_of_getElem? (i := 3132) (by decide +kernel), List.mem_of_getElem? (i := 3133) (by decide +kernel)⟩
theorem lw_p221 : lw_okq (⟨"BreedingHouseModel", "crossThem", "(IIJ)V"⟩, 138) := ⟨⟨by decide +kernel, by decide +kernel⟩, List.mem_of_getElem? (i := 2063) (by decide +kernel), List.mem_of_getElem? (i := 3140) (by decide +kernel), List.mem_of_getElem? (i := 3141) (by decide +kernel)⟩
theorem lw_p222 : lw_okq (⟨"BreedingHouseModel", "isIsland", "(I)Z"⟩, 138) := ⟨⟨by decide +kernel, by decide +kernel⟩, List.mem_of_getElem? (i := 2063) (by decide +kernel), List.mem_of_getElem? (i := 3148) (by decide +kernel), List.mem_of_getElem? (i := 3149) (by decide +kernel)⟩
theorem lw_p223 : lw_okq (⟨"BreedingHouseModel", "drawOne", "(II)V"⟩, 138) := ⟨⟨by decide +kernel, by decide +kernel⟩, List.mem_of_getElem? (i := 2063) (by decide +kernel), List.mem_of_getElem? (i := 3156) (by decide +kernel), List.mem_of_getElem? (i := 3157) (by decide +kernel)⟩
def lw_privs_14 : List (MethodName × Nat) := [(⟨"BreedingHouseModel", "changeA", "(IJ)V"⟩, 138), (⟨"BreedingHouseModel", "plant", "()V"⟩, 138), (⟨"BreedingHouseModel", "draw", "(I)I"⟩, 138), (⟨"BreedingHouseModel", "half", "()J"⟩, 138), (⟨"BreedingHouseModel", "isWithin", "(I)Z"⟩, 138), (⟨"BreedingHouseModel", "wideDraw", "(J)J"⟩, 138), (⟨"BreedingHouseModel", "arePairable", "(II)Z"⟩, 138), (⟨"BreedingHouseModel", "loadB", "(I)V"⟩, 138), (⟨"BreedingHouseModel", "pairA", "(I)I"⟩, 138), (⟨"BreedingHouseModel", "pairTrees", "()V"⟩, 138), (⟨"BreedingHouseModel", "copyB", "(II)V"⟩, 138), (⟨"BreedingHouseModel", "pairMachines", "()V"⟩, 138), (⟨"BreedingHouseModel", "pairRows", "()V"⟩, 138), (⟨"BreedingHouseModel", "crossThem", "(IIJ)V"⟩, 138), (⟨"BreedingHouseModel", "isIsland", "(I)Z"⟩, 138), (⟨"BreedingHouseModel", "drawOne", "(II)V"⟩, 138)]
theorem lw_r14 : ∀ q ∈ lw_privs_14, lw_okq q := List.forall_mem_cons.mpr ⟨lw_p208, List.forall_mem_cons.mpr ⟨lw_p209, List.forall_mem_cons.mpr ⟨lw_p210, List.forall_mem_cons.mpr ⟨lw_p211, List.forall_mem_cons.mpr ⟨lw_p212, List.forall_mem_cons.mpr ⟨lw_p213, List.forall_mem_cons.mpr ⟨lw_p214, List.forall_mem_cons.mpr ⟨lw_p215, List.forall_mem_cons.mpr ⟨lw_p216, List.forall_mem_cons.mpr ⟨lw_p217, List.forall_mem_cons.mpr ⟨lw_p218, List.forall_mem_cons.mpr ⟨lw_p219, List.forall_mem_cons.mpr ⟨lw_p220, List.forall_mem_cons.mpr ⟨lw_p221, List.forall_mem_cons.mpr ⟨lw_p222, List.forall_mem_cons.mpr ⟨lw_p223, fun _ h => absurd h List.not_mem_nil⟩⟩⟩⟩⟩⟩⟩⟩⟩⟩⟩⟩⟩⟩⟩⟩
theorem lw_p224 : lw_okq (⟨"BreedingHouseModel", "drawMachine", "(I)V"⟩, 138) := ⟨⟨by decide +kernel, by decide +kernel⟩, List.mem_of_getElem? (i := 2063) (by decide +kernel), List.mem_of_getElem? (i := 3160) (by decide +kernel), List.mem_of_getElem? (i := 3161) (by decide +kernel)⟩
theorem lw_p225 : lw_okq (⟨"BreedingHouseModel", "drawNet", "(I)V"⟩, 138) := ⟨⟨by decide +kernel, by decide +kernel⟩, List.mem_of_getElem? (i := 2063) (by decide +kernel), List.mem_of_getElem? (i := 3164) (by decide +kernel), List.mem_of_getElem? (i := 3165) (by decide +kernel)⟩
theorem lw_p226 : lw_okq (⟨"BreedingHouseModel", "toCode", "()Z"⟩, 138) := ⟨⟨by decide +kernel, by decide +kernel⟩, List.mem_of_getElem? (i := 2063) (by decide +kernel), List.mem_of_getElem? (i := 3168) (by decide +kernel), List.mem_of_getElem? (i := 3169) (by decide +kernel)⟩
theorem lw_p227 : lw_okq (⟨"BreedingHouseModel", "toA", "()V"⟩, 138) := ⟨⟨by decide +kernel, by decide +kernel⟩, List.mem_of_getElem? (i := 2063) (by decide +kernel), List.mem_of_getElem? (i := 3172) (by decide +kernel), List.mem_of_getElem? (i := 3173) (by decide +kernel)⟩
theorem lw_p228 : lw_okq (⟨"BreedingHouseModel", "lengthOf", "(I)I"⟩, 138) := ⟨⟨by decide +kernel, by decide +kernel⟩, List.mem_of_getElem? (i := 2063) (by decide +kernel), List.mem_of_getElem? (i := 3176) (by decide +kernel), List.mem_of_getElem? (i := 3177) (by decide +kernel)⟩
theorem lw_p229 : lw_okq (⟨"BreedingHouseModel", "place0", "(II)V"⟩, 138) := ⟨⟨by decide +kernel, by decide +kernel⟩, List.mem_of_getElem? (i := 2063) (by decide +kernel), List.mem_of_getElem? (i := 3180) (by decide +kernel), List.mem_of_getElem? (i := 3181) (by decide +kernel)⟩
theorem lw_p230 : lw_okq (⟨"BreedingHouseModel", "codeAt", "(III)V"⟩, 138) := ⟨⟨by decide +kernel, by decide +kernel⟩, List.mem_of_getElem? (i := 2063) (by decide +kernel), List.mem_of_getElem? (i := 3184) (by decide +kernel), List.mem_of_getElem? (i := 3185) (by decide +kernel)⟩
theorem lw_p231 : lw_okq (⟨"BreedingHouseModel", "isPlace", "(II)Z"⟩, 138) := ⟨⟨by decide +kernel, by decide +kernel⟩, List.mem_of_getElem? (i := 2063) (by decide +kernel), List.mem_of_getElem? (i := 3196) (by decide +kernel), List.mem_of_getElem? (i := 3197) (by decide +kernel)⟩
theorem lw_p232 : lw_okq (⟨"BreedingHouseModel", "elites", "(I)I"⟩, 138) := ⟨⟨by decide +kernel, by decide +kernel⟩, List.mem_of_getElem? (i := 2063) (by decide +kernel), List.mem_of_getElem? (i := 3204) (by decide +kernel), List.mem_of_getElem? (i := 3205) (by decide +kernel)⟩
theorem lw_p233 : lw_okq (⟨"BreedingHouseModel", "generation", "(I)V"⟩, 138) := ⟨⟨by decide +kernel, by decide +kernel⟩, List.mem_of_getElem? (i := 2063) (by decide +kernel), List.mem_of_getElem? (i := 3209) (by decide +kernel), List.mem_of_getElem? (i := 3210) (by decide +kernel)⟩
theorem lw_p234 : lw_okq (⟨"BreedingHouseModel", "gather", "(I)V"⟩, 138) := ⟨⟨by decide +kernel, by decide +kernel⟩, List.mem_of_getElem? (i := 2063) (by decide +kernel), List.mem_of_getElem? (i := 3213) (by decide +kernel), List.mem_of_getElem? (i := 3214) (by decide +kernel)⟩
theorem lw_p235 : lw_okq (⟨"BreedingHouseModel", "errorsAtHand", "()V"⟩, 138) := ⟨⟨by decide +kernel, by decide +kernel⟩, List.mem_of_getElem? (i := 2063) (by decide +kernel), List.mem_of_getElem? (i := 3217) (by decide +kernel), List.mem_of_getElem? (i := 3218) (by decide +kernel)⟩
theorem lw_p236 : lw_okq (⟨"BreedingHouseModel", "rank", "()V"⟩, 138) := ⟨⟨by decide +kernel, by decide +kernel⟩, List.mem_of_getElem? (i := 2063) (by decide +kernel), List.mem_of_getElem? (i := 3221) (by decide +kernel), List.mem_of_getElem? (i := 3222) (by decide +kernel)⟩
theorem lw_p237 : lw_okq (⟨"BreedingHouseModel", "isBetter", "(II)Z"⟩, 138) := ⟨⟨by decide +kernel, by decide +kernel⟩, List.mem_of_getElem? (i := 2063) (by decide +kernel), List.mem_of_getElem? (i := 3225) (by decide +kernel), List.mem_of_getElem? (i := 3226) (by decide +kernel)⟩
theorem lw_p238 : lw_okq (⟨"BreedingHouseModel", "scoreOrder", "(II)J"⟩, 138) := ⟨⟨by decide +kernel, by decide +kernel⟩, List.mem_of_getElem? (i := 2063) (by decide +kernel), List.mem_of_getElem? (i := 3229) (by decide +kernel), List.mem_of_getElem? (i := 3230) (by decide +kernel)⟩
theorem lw_p239 : lw_okq (⟨"BreedingHouseModel", "child", "()I"⟩, 138) := ⟨⟨by decide +kernel, by decide +kernel⟩, List.mem_of_getElem? (i := 2063) (by decide +kernel), List.mem_of_getElem? (i := 3233) (by decide +kernel), List.mem_of_getElem? (i := 3234) (by decide +kernel)⟩
def lw_privs_15 : List (MethodName × Nat) := [(⟨"BreedingHouseModel", "drawMachine", "(I)V"⟩, 138), (⟨"BreedingHouseModel", "drawNet", "(I)V"⟩, 138), (⟨"BreedingHouseModel", "toCode", "()Z"⟩, 138), (⟨"BreedingHouseModel", "toA", "()V"⟩, 138), (⟨"BreedingHouseModel", "lengthOf", "(I)I"⟩, 138), (⟨"BreedingHouseModel", "place0", "(II)V"⟩, 138), (⟨"BreedingHouseModel", "codeAt", "(III)V"⟩, 138), (⟨"BreedingHouseModel", "isPlace", "(II)Z"⟩, 138), (⟨"BreedingHouseModel", "elites", "(I)I"⟩, 138), (⟨"BreedingHouseModel", "generation", "(I)V"⟩, 138), (⟨"BreedingHouseModel", "gather", "(I)V"⟩, 138), (⟨"BreedingHouseModel", "errorsAtHand", "()V"⟩, 138), (⟨"BreedingHouseModel", "rank", "()V"⟩, 138), (⟨"BreedingHouseModel", "isBetter", "(II)Z"⟩, 138), (⟨"BreedingHouseModel", "scoreOrder", "(II)J"⟩, 138), (⟨"BreedingHouseModel", "child", "()I"⟩, 138)]
theorem lw_r15 : ∀ q ∈ lw_privs_15, lw_okq q := List.forall_mem_cons.mpr ⟨lw_p224, List.forall_mem_cons.mpr ⟨lw_p225, List.forall_mem_cons.mpr ⟨lw_p226, List.forall_mem_cons.mpr ⟨lw_p227, List.forall_mem_cons.mpr ⟨lw_p228, List.forall_mem_cons.mpr ⟨lw_p229, List.forall_mem_cons.mpr ⟨lw_p230, List.forall_mem_cons.mpr ⟨lw_p231, List.forall_mem_cons.mpr ⟨lw_p232, List.forall_mem_cons.mpr ⟨lw_p233, List.forall_mem_cons.mpr ⟨lw_p234, List.forall_mem_cons.mpr ⟨lw_p235, List.forall_mem_cons.mpr ⟨lw_p236, List.forall_mem_cons.mpr ⟨lw_p237, List.forall_mem_cons.mpr ⟨lw_p238, List.forall_mem_cons.mpr ⟨lw_p239, fun _ h => absurd h List.not_mem_nil⟩⟩⟩⟩⟩⟩⟩⟩⟩⟩⟩⟩⟩⟩⟩⟩
theorem lw_p240 : lw_okq (⟨"BreedingHouseModel", "choose", "()I"⟩, 138) := ⟨⟨by decide +kernel, by decide +kernel⟩, List.mem_of_getElem? (i := 2063) (by decide +kernel), List.mem_of_getElem? (i := 3237) (by decide +kernel), List.mem_of_getElem? (i := 3238) (by decide +kernel)⟩
theorem lw_p241 : lw_okq (⟨"BreedingHouseModel", "tournament", "()I"⟩, 138) := ⟨⟨by decide +kernel, by decide +kernel⟩, List.mem_of_getElem? (i := 2063) (by decide +kernel), List.mem_of_getElem? (i := 3241) (by decide +kernel), List.mem_of_getElem? (i := 3242) (by decide +kernel)⟩
theorem lw_p242 : lw_okq (⟨"BreedingHouseModel", "fronts", "()I"⟩, 138) := ⟨⟨by decide +kernel, by decide +kernel⟩, List.mem_of_getElem? (i := 2063) (by decide +kernel), List.mem_of_getElem? (i := 3245) (by decide +kernel), List.mem_of_getElem? (i := 3246) (by decide +kernel)⟩
theorem lw_p243 : lw_okq (⟨"BreedingHouseModel", "isFront", "(I)Z"⟩, 138) := ⟨⟨by decide +kernel, by decide +kernel⟩, List.mem_of_getElem? (i := 2063) (by decide +kernel), List.mem_of_getElem? (i := 3249) (by decide +kernel), List.mem_of_getElem? (i := 3250) (by decide +kernel)⟩
theorem lw_p244 : lw_okq (⟨"BreedingHouseModel", "frontAt", "(I)I"⟩, 138) := ⟨⟨by decide +kernel, by decide +kernel⟩, List.mem_of_getElem? (i := 2063) (by decide +kernel), List.mem_of_getElem? (i := 3253) (by decide +kernel), List.mem_of_getElem? (i := 3254) (by decide +kernel)⟩
theorem lw_p245 : lw_okq (⟨"BreedingHouseModel", "lexical", "()I"⟩, 138) := ⟨⟨by decide +kernel, by decide +kernel⟩, List.mem_of_getElem? (i := 2063) (by decide +kernel), List.mem_of_getElem? (i := 3257) (by decide +kernel), List.mem_of_getElem? (i := 3258) (by decide +kernel)⟩
theorem lw_p246 : lw_okq (⟨"BreedingHouseModel", "bestAtHand", "()I"⟩, 138) := ⟨⟨by decide +kernel, by decide +kernel⟩, List.mem_of_getElem? (i := 2063) (by decide +kernel), List.mem_of_getElem? (i := 3263) (by decide +kernel), List.mem_of_getElem? (i := 3264) (by decide +kernel)⟩
theorem lw_p247 : lw_okq (⟨"BreedingHouseModel", "seenCount", "()I"⟩, 138) := ⟨⟨by decide +kernel, by decide +kernel⟩, List.mem_of_getElem? (i := 2063) (by decide +kernel), List.mem_of_getElem? (i := 3283) (by decide +kernel), List.mem_of_getElem? (i := 3284) (by decide +kernel)⟩
theorem lw_p248 : lw_okq (⟨"BreedingHouseModel", "nextOrder", "()Z"⟩, 138) := ⟨⟨by decide +kernel, by decide +kernel⟩, List.mem_of_getElem? (i := 2063) (by decide +kernel), List.mem_of_getElem? (i := 3287) (by decide +kernel), List.mem_of_getElem? (i := 3288) (by decide +kernel)⟩
theorem lw_p249 : lw_okq (⟨"BreedingHouseModel", "distanceOf", "(II)J"⟩, 138) := ⟨⟨by decide +kernel, by decide +kernel⟩, List.mem_of_getElem? (i := 2063) (by decide +kernel), List.mem_of_getElem? (i := 3295) (by decide +kernel), List.mem_of_getElem? (i := 3296) (by decide +kernel)⟩
theorem lw_p250 : lw_okq (⟨"BreedingHouseModel", "mark", "(IZ)V"⟩, 138) := ⟨⟨by decide +kernel, by decide +kernel⟩, List.mem_of_getElem? (i := 2063) (by decide +kernel), List.mem_of_getElem? (i := 3307) (by decide +kernel), List.mem_of_getElem? (i := 3308) (by decide +kernel)⟩
theorem lw_p251 : lw_okq (⟨"BreedingHouseModel", "markOne", "(IZ)V"⟩, 138) := ⟨⟨by decide +kernel, by decide +kernel⟩, List.mem_of_getElem? (i := 2063) (by decide +kernel), List.mem_of_getElem? (i := 3311) (by decide +kernel), List.mem_of_getElem? (i := 3312) (by decide +kernel)⟩
theorem lw_p252 : lw_okq (⟨"BreedingHouseModel", "fitsAll", "()Z"⟩, 138) := ⟨⟨by decide +kernel, by decide +kernel⟩, List.mem_of_getElem? (i := 2063) (by decide +kernel), List.mem_of_getElem? (i := 3331) (by decide +kernel), List.mem_of_getElem? (i := 3332) (by decide +kernel)⟩
theorem lw_p253 : lw_okq (⟨"BreedingHouseModel", "simplify", "(Z)V"⟩, 138) := ⟨⟨by decide +kernel, by decide +kernel⟩, List.mem_of_getElem? (i := 2063) (by decide +kernel), List.mem_of_getElem? (i := 3339) (by decide +kernel), List.mem_of_getElem? (i := 3340) (by decide +kernel)⟩
theorem lw_p254 : lw_okq (⟨"BreedingHouseModel", "firstRule", "(Z)Z"⟩, 138) := ⟨⟨by decide +kernel, by decide +kernel⟩, List.mem_of_getElem? (i := 2063) (by decide +kernel), List.mem_of_getElem? (i := 3343) (by decide +kernel), List.mem_of_getElem? (i := 3344) (by decide +kernel)⟩
theorem lw_p255 : lw_okq (⟨"BreedingHouseModel", "rule", "(II)Z"⟩, 138) := ⟨⟨by decide +kernel, by decide +kernel⟩, List.mem_of_getElem? (i := 2063) (by decide +kernel), List.mem_of_getElem? (i := 3347) (by decide +kernel), List.mem_of_getElem? (i := 3348) (by decide +kernel)⟩
def lw_privs_16 : List (MethodName × Nat) := [(⟨"BreedingHouseModel", "choose", "()I"⟩, 138), (⟨"BreedingHouseModel", "tournament", "()I"⟩, 138), (⟨"BreedingHouseModel", "fronts", "()I"⟩, 138), (⟨"BreedingHouseModel", "isFront", "(I)Z"⟩, 138), (⟨"BreedingHouseModel", "frontAt", "(I)I"⟩, 138), (⟨"BreedingHouseModel", "lexical", "()I"⟩, 138), (⟨"BreedingHouseModel", "bestAtHand", "()I"⟩, 138), (⟨"BreedingHouseModel", "seenCount", "()I"⟩, 138), (⟨"BreedingHouseModel", "nextOrder", "()Z"⟩, 138), (⟨"BreedingHouseModel", "distanceOf", "(II)J"⟩, 138), (⟨"BreedingHouseModel", "mark", "(IZ)V"⟩, 138), (⟨"BreedingHouseModel", "markOne", "(IZ)V"⟩, 138), (⟨"BreedingHouseModel", "fitsAll", "()Z"⟩, 138), (⟨"BreedingHouseModel", "simplify", "(Z)V"⟩, 138), (⟨"BreedingHouseModel", "firstRule", "(Z)Z"⟩, 138), (⟨"BreedingHouseModel", "rule", "(II)Z"⟩, 138)]
theorem lw_r16 : ∀ q ∈ lw_privs_16, lw_okq q := List.forall_mem_cons.mpr ⟨lw_p240, List.forall_mem_cons.mpr ⟨lw_p241, List.forall_mem_cons.mpr ⟨lw_p242, List.forall_mem_cons.mpr ⟨lw_p243, List.forall_mem_cons.mpr ⟨lw_p244, List.forall_mem_cons.mpr ⟨lw_p245, List.forall_mem_cons.mpr ⟨lw_p246, List.forall_mem_cons.mpr ⟨lw_p247, List.forall_mem_cons.mpr ⟨lw_p248, List.forall_mem_cons.mpr ⟨lw_p249, List.forall_mem_cons.mpr ⟨lw_p250, List.forall_mem_cons.mpr ⟨lw_p251, List.forall_mem_cons.mpr ⟨lw_p252, List.forall_mem_cons.mpr ⟨lw_p253, List.forall_mem_cons.mpr ⟨lw_p254, List.forall_mem_cons.mpr ⟨lw_p255, fun _ h => absurd h List.not_mem_nil⟩⟩⟩⟩⟩⟩⟩⟩⟩⟩⟩⟩⟩⟩⟩⟩
theorem lw_p256 : lw_okq (⟨"BreedingHouseModel", "ruleNumbers", "(I)Z"⟩, 138) := ⟨⟨by decide +kernel, by decide +kernel⟩, List.mem_of_getElem? (i := 2063) (by decide +kernel), List.mem_of_getElem? (i := 3351) (by decide +kernel), List.mem_of_getElem? (i := 3352) (by decide +kernel)⟩
theorem lw_p257 : lw_okq (⟨"BreedingHouseModel", "becomesNumber", "(II)Z"⟩, 138) := ⟨⟨by decide +kernel, by decide +kernel⟩, List.mem_of_getElem? (i := 2063) (by decide +kernel), List.mem_of_getElem? (i := 3355) (by decide +kernel), List.mem_of_getElem? (i := 3356) (by decide +kernel)⟩
theorem lw_p258 : lw_okq (⟨"BreedingHouseModel", "ruleUnits", "(I)Z"⟩, 138) := ⟨⟨by decide +kernel, by decide +kernel⟩, List.mem_of_getElem? (i := 2063) (by decide +kernel), List.mem_of_getElem? (i := 3359) (by decide +kernel), List.mem_of_getElem? (i := 3360) (by decide +kernel)⟩
theorem lw_p259 : lw_okq (⟨"BreedingHouseModel", "isConstant", "(II)Z"⟩, 138) := ⟨⟨by decide +kernel, by decide +kernel⟩, List.mem_of_getElem? (i := 2063) (by decide +kernel), List.mem_of_getElem? (i := 3363) (by decide +kernel), List.mem_of_getElem? (i := 3364) (by decide +kernel)⟩
theorem lw_p260 : lw_okq (⟨"BreedingHouseModel", "becomes", "(II)Z"⟩, 138) := ⟨⟨by decide +kernel, by decide +kernel⟩, List.mem_of_getElem? (i := 2063) (by decide +kernel), List.mem_of_getElem? (i := 3367) (by decide +kernel), List.mem_of_getElem? (i := 3368) (by decide +kernel)⟩
theorem lw_p261 : lw_okq (⟨"BreedingHouseModel", "ruleTwice", "(I)Z"⟩, 138) := ⟨⟨by decide +kernel, by decide +kernel⟩, List.mem_of_getElem? (i := 2063) (by decide +kernel), List.mem_of_getElem? (i := 3371) (by decide +kernel), List.mem_of_getElem? (i := 3372) (by decide +kernel)⟩
theorem lw_p262 : lw_okq (⟨"BreedingHouseModel", "ruleKnown", "(I)Z"⟩, 138) := ⟨⟨by decide +kernel, by decide +kernel⟩, List.mem_of_getElem? (i := 2063) (by decide +kernel), List.mem_of_getElem? (i := 3375) (by decide +kernel), List.mem_of_getElem? (i := 3376) (by decide +kernel)⟩
theorem lw_p263 : lw_okq (⟨"BreedingHouseModel", "ruleAlike", "(I)Z"⟩, 138) := ⟨⟨by decide +kernel, by decide +kernel⟩, List.mem_of_getElem? (i := 2063) (by decide +kernel), List.mem_of_getElem? (i := 3379) (by decide +kernel), List.mem_of_getElem? (i := 3380) (by decide +kernel)⟩
theorem lw_p264 : lw_okq (⟨"BreedingHouseModel", "isSafe", "(I)Z"⟩, 138) := ⟨⟨by decide +kernel, by decide +kernel⟩, List.mem_of_getElem? (i := 2063) (by decide +kernel), List.mem_of_getElem? (i := 3383) (by decide +kernel), List.mem_of_getElem? (i := 3384) (by decide +kernel)⟩
theorem lw_p265 : lw_okq (⟨"BreedingHouseModel", "isLike", "(II)Z"⟩, 138) := ⟨⟨by decide +kernel, by decide +kernel⟩, List.mem_of_getElem? (i := 2063) (by decide +kernel), List.mem_of_getElem? (i := 3387) (by decide +kernel), List.mem_of_getElem? (i := 3388) (by decide +kernel)⟩
theorem lw_p266 : lw_okq (⟨"BreedingHouseModel", "ruleSelf", "(I)Z"⟩, 138) := ⟨⟨by decide +kernel, by decide +kernel⟩, List.mem_of_getElem? (i := 2063) (by decide +kernel), List.mem_of_getElem? (i := 3391) (by decide +kernel), List.mem_of_getElem? (i := 3392) (by decide +kernel)⟩
theorem lw_p267 : lw_okq (⟨"BreedingHouseModel", "ruleDenied", "(I)Z"⟩, 138) := ⟨⟨by decide +kernel, by decide +kernel⟩, List.mem_of_getElem? (i := 2063) (by decide +kernel), List.mem_of_getElem? (i := 3395) (by decide +kernel), List.mem_of_getElem? (i := 3396) (by decide +kernel)⟩
theorem lw_p268 : lw_okq (⟨"BreedingHouseModel", "ruleZero", "(I)Z"⟩, 138) := ⟨⟨by decide +kernel, by decide +kernel⟩, List.mem_of_getElem? (i := 2063) (by decide +kernel), List.mem_of_getElem? (i := 3399) (by decide +kernel), List.mem_of_getElem? (i := 3400) (by decide +kernel)⟩
theorem lw_p269 : lw_okq (⟨"BreedingHouseModel", "ruleRest", "(I)Z"⟩, 138) := ⟨⟨by decide +kernel, by decide +kernel⟩, List.mem_of_getElem? (i := 2063) (by decide +kernel), List.mem_of_getElem? (i := 3403) (by decide +kernel), List.mem_of_getElem? (i := 3404) (by decide +kernel)⟩
theorem lw_p270 : lw_okq (⟨"BreedingHouseModel", "toTree", "()Z"⟩, 138) := ⟨⟨by decide +kernel, by decide +kernel⟩, List.mem_of_getElem? (i := 2063) (by decide +kernel), List.mem_of_getElem? (i := 3423) (by decide +kernel), List.mem_of_getElem? (i := 3424) (by decide +kernel)⟩
theorem lw_p271 : lw_okq (⟨"BreedingHouseModel", "heapStep", "(II)Z"⟩, 138) := ⟨⟨by decide +kernel, by decide +kernel⟩, List.mem_of_getElem? (i := 2063) (by decide +kernel), List.mem_of_getElem? (i := 3427) (by decide +kernel), List.mem_of_getElem? (i := 3428) (by decide +kernel)⟩
def lw_privs_17 : List (MethodName × Nat) := [(⟨"BreedingHouseModel", "ruleNumbers", "(I)Z"⟩, 138), (⟨"BreedingHouseModel", "becomesNumber", "(II)Z"⟩, 138), (⟨"BreedingHouseModel", "ruleUnits", "(I)Z"⟩, 138), (⟨"BreedingHouseModel", "isConstant", "(II)Z"⟩, 138), (⟨"BreedingHouseModel", "becomes", "(II)Z"⟩, 138), (⟨"BreedingHouseModel", "ruleTwice", "(I)Z"⟩, 138), (⟨"BreedingHouseModel", "ruleKnown", "(I)Z"⟩, 138), (⟨"BreedingHouseModel", "ruleAlike", "(I)Z"⟩, 138), (⟨"BreedingHouseModel", "isSafe", "(I)Z"⟩, 138), (⟨"BreedingHouseModel", "isLike", "(II)Z"⟩, 138), (⟨"BreedingHouseModel", "ruleSelf", "(I)Z"⟩, 138), (⟨"BreedingHouseModel", "ruleDenied", "(I)Z"⟩, 138), (⟨"BreedingHouseModel", "ruleZero", "(I)Z"⟩, 138), (⟨"BreedingHouseModel", "ruleRest", "(I)Z"⟩, 138), (⟨"BreedingHouseModel", "toTree", "()Z"⟩, 138), (⟨"BreedingHouseModel", "heapStep", "(II)Z"⟩, 138)]
theorem lw_r17 : ∀ q ∈ lw_privs_17, lw_okq q := List.forall_mem_cons.mpr ⟨lw_p256, List.forall_mem_cons.mpr ⟨lw_p257, List.forall_mem_cons.mpr ⟨lw_p258, List.forall_mem_cons.mpr ⟨lw_p259, List.forall_mem_cons.mpr ⟨lw_p260, List.forall_mem_cons.mpr ⟨lw_p261, List.forall_mem_cons.mpr ⟨lw_p262, List.forall_mem_cons.mpr ⟨lw_p263, List.forall_mem_cons.mpr ⟨lw_p264, List.forall_mem_cons.mpr ⟨lw_p265, List.forall_mem_cons.mpr ⟨lw_p266, List.forall_mem_cons.mpr ⟨lw_p267, List.forall_mem_cons.mpr ⟨lw_p268, List.forall_mem_cons.mpr ⟨lw_p269, List.forall_mem_cons.mpr ⟨lw_p270, List.forall_mem_cons.mpr ⟨lw_p271, fun _ h => absurd h List.not_mem_nil⟩⟩⟩⟩⟩⟩⟩⟩⟩⟩⟩⟩⟩⟩⟩⟩
theorem lw_p272 : lw_okq (⟨"BreedingHouseModel", "heapLay", "(III)V"⟩, 138) := ⟨⟨by decide +kernel, by decide +kernel⟩, List.mem_of_getElem? (i := 2063) (by decide +kernel), List.mem_of_getElem? (i := 3431) (by decide +kernel), List.mem_of_getElem? (i := 3432) (by decide +kernel)⟩
theorem lw_p273 : lw_okq (⟨"BreedingHouseModel", "heapSign", "(I)Z"⟩, 138) := ⟨⟨by decide +kernel, by decide +kernel⟩, List.mem_of_getElem? (i := 2063) (by decide +kernel), List.mem_of_getElem? (i := 3435) (by decide +kernel), List.mem_of_getElem? (i := 3436) (by decide +kernel)⟩
theorem lw_p274 : lw_okq (⟨"BreedingHouseModel", "heapNumber", "(I)V"⟩, 138) := ⟨⟨by decide +kernel, by decide +kernel⟩, List.mem_of_getElem? (i := 2063) (by decide +kernel), List.mem_of_getElem? (i := 3439) (by decide +kernel), List.mem_of_getElem? (i := 3440) (by decide +kernel)⟩
theorem lw_p275 : lw_okq (⟨"BreedingHouseModel", "heapTruth", "(I)Z"⟩, 138) := ⟨⟨by decide +kernel, by decide +kernel⟩, List.mem_of_getElem? (i := 2063) (by decide +kernel), List.mem_of_getElem? (i := 3443) (by decide +kernel), List.mem_of_getElem? (i := 3444) (by decide +kernel)⟩
theorem lw_p276 : lw_okq (⟨"BreedingHouseModel", "heapFits", "(I)Z"⟩, 138) := ⟨⟨by decide +kernel, by decide +kernel⟩, List.mem_of_getElem? (i := 2063) (by decide +kernel), List.mem_of_getElem? (i := 3447) (by decide +kernel), List.mem_of_getElem? (i := 3448) (by decide +kernel)⟩
theorem lw_p277 : lw_okq (⟨"BreedingHouseModel", "heapCopy", "(II)V"⟩, 138) := ⟨⟨by decide +kernel, by decide +kernel⟩, List.mem_of_getElem? (i := 2063) (by decide +kernel), List.mem_of_getElem? (i := 3451) (by decide +kernel), List.mem_of_getElem? (i := 3452) (by decide +kernel)⟩
theorem lw_p278 : lw_okq (⟨"BreedingHouseModel", "heapSafe", "(I)Z"⟩, 138) := ⟨⟨by decide +kernel, by decide +kernel⟩, List.mem_of_getElem? (i := 2063) (by decide +kernel), List.mem_of_getElem? (i := 3455) (by decide +kernel), List.mem_of_getElem? (i := 3456) (by decide +kernel)⟩
theorem lw_p279 : lw_okq (⟨"BreedingHouseModel", "equalMachines", "()I"⟩, 138) := ⟨⟨by decide +kernel, by decide +kernel⟩, List.mem_of_getElem? (i := 2063) (by decide +kernel), List.mem_of_getElem? (i := 3463) (by decide +kernel), List.mem_of_getElem? (i := 3464) (by decide +kernel)⟩
theorem lw_p280 : lw_okq (⟨"BreedingHouseModel", "tellWord", "(I)V"⟩, 138) := ⟨⟨by decide +kernel, by decide +kernel⟩, List.mem_of_getElem? (i := 2063) (by decide +kernel), List.mem_of_getElem? (i := 3467) (by decide +kernel), List.mem_of_getElem? (i := 3468) (by decide +kernel)⟩
theorem lw_p281 : lw_okq (⟨"BreedingHouseModel", "noWitness", "()V"⟩, 138) := ⟨⟨by decide +kernel, by decide +kernel⟩, List.mem_of_getElem? (i := 2063) (by decide +kernel), List.mem_of_getElem? (i := 3471) (by decide +kernel), List.mem_of_getElem? (i := 3472) (by decide +kernel)⟩
theorem lw_p282 : lw_okq (⟨"BreedingHouseModel", "equalNets", "(II)I"⟩, 138) := ⟨⟨by decide +kernel, by decide +kernel⟩, List.mem_of_getElem? (i := 2063) (by decide +kernel), List.mem_of_getElem? (i := 3475) (by decide +kernel), List.mem_of_getElem? (i := 3476) (by decide +kernel)⟩
theorem lw_p283 : lw_okq (⟨"BreedingHouseModel", "bitsBehind", "(I)I"⟩, 138) := ⟨⟨by decide +kernel, by decide +kernel⟩, List.mem_of_getElem? (i := 2063) (by decide +kernel), List.mem_of_getElem? (i := 3479) (by decide +kernel), List.mem_of_getElem? (i := 3480) (by decide +kernel)⟩
theorem lw_p284 : lw_okq (⟨"BreedingHouseModel", "areAlikeTrees", "(II)Z"⟩, 138) := ⟨⟨by decide +kernel, by decide +kernel⟩, List.mem_of_getElem? (i := 2063) (by decide +kernel), List.mem_of_getElem? (i := 3483) (by decide +kernel), List.mem_of_getElem? (i := 3484) (by decide +kernel)⟩
theorem lw_p285 : lw_okq (⟨"BreedingHouseModel", "tried", "(II)I"⟩, 138) := ⟨⟨by decide +kernel, by decide +kernel⟩, List.mem_of_getElem? (i := 2063) (by decide +kernel), List.mem_of_getElem? (i := 3487) (by decide +kernel), List.mem_of_getElem? (i := 3488) (by decide +kernel)⟩
theorem lw_p286 : lw_okq (⟨"BreedingHouseModel", "differs", "(II)Z"⟩, 138) := ⟨⟨by decide +kernel, by decide +kernel⟩, List.mem_of_getElem? (i := 2063) (by decide +kernel), List.mem_of_getElem? (i := 3491) (by decide +kernel), List.mem_of_getElem? (i := 3492) (by decide +kernel)⟩
theorem lw_p287 : lw_okq (⟨"BreedingHouseModel", "tellInput", "()I"⟩, 138) := ⟨⟨by decide +kernel, by decide +kernel⟩, List.mem_of_getElem? (i := 2063) (by decide +kernel), List.mem_of_getElem? (i := 3495) (by decide +kernel), List.mem_of_getElem? (i := 3496) (by decide +kernel)⟩
def lw_privs_18 : List (MethodName × Nat) := [(⟨"BreedingHouseModel", "heapLay", "(III)V"⟩, 138), (⟨"BreedingHouseModel", "heapSign", "(I)Z"⟩, 138), (⟨"BreedingHouseModel", "heapNumber", "(I)V"⟩, 138), (⟨"BreedingHouseModel", "heapTruth", "(I)Z"⟩, 138), (⟨"BreedingHouseModel", "heapFits", "(I)Z"⟩, 138), (⟨"BreedingHouseModel", "heapCopy", "(II)V"⟩, 138), (⟨"BreedingHouseModel", "heapSafe", "(I)Z"⟩, 138), (⟨"BreedingHouseModel", "equalMachines", "()I"⟩, 138), (⟨"BreedingHouseModel", "tellWord", "(I)V"⟩, 138), (⟨"BreedingHouseModel", "noWitness", "()V"⟩, 138), (⟨"BreedingHouseModel", "equalNets", "(II)I"⟩, 138), (⟨"BreedingHouseModel", "bitsBehind", "(I)I"⟩, 138), (⟨"BreedingHouseModel", "areAlikeTrees", "(II)Z"⟩, 138), (⟨"BreedingHouseModel", "tried", "(II)I"⟩, 138), (⟨"BreedingHouseModel", "differs", "(II)Z"⟩, 138), (⟨"BreedingHouseModel", "tellInput", "()I"⟩, 138)]
theorem lw_r18 : ∀ q ∈ lw_privs_18, lw_okq q := List.forall_mem_cons.mpr ⟨lw_p272, List.forall_mem_cons.mpr ⟨lw_p273, List.forall_mem_cons.mpr ⟨lw_p274, List.forall_mem_cons.mpr ⟨lw_p275, List.forall_mem_cons.mpr ⟨lw_p276, List.forall_mem_cons.mpr ⟨lw_p277, List.forall_mem_cons.mpr ⟨lw_p278, List.forall_mem_cons.mpr ⟨lw_p279, List.forall_mem_cons.mpr ⟨lw_p280, List.forall_mem_cons.mpr ⟨lw_p281, List.forall_mem_cons.mpr ⟨lw_p282, List.forall_mem_cons.mpr ⟨lw_p283, List.forall_mem_cons.mpr ⟨lw_p284, List.forall_mem_cons.mpr ⟨lw_p285, List.forall_mem_cons.mpr ⟨lw_p286, List.forall_mem_cons.mpr ⟨lw_p287, fun _ h => absurd h List.not_mem_nil⟩⟩⟩⟩⟩⟩⟩⟩⟩⟩⟩⟩⟩⟩⟩⟩
theorem lw_p288 : lw_okq (⟨"BreedingHouseModel", "shorten", "(JJ)Z"⟩, 138) := ⟨⟨by decide +kernel, by decide +kernel⟩, List.mem_of_getElem? (i := 2063) (by decide +kernel), List.mem_of_getElem? (i := 3507) (by decide +kernel), List.mem_of_getElem? (i := 3508) (by decide +kernel)⟩
theorem lw_p289 : lw_okq (⟨"BreedingHouseModel", "isNoWorse", "(JJ)Z"⟩, 138) := ⟨⟨by decide +kernel, by decide +kernel⟩, List.mem_of_getElem? (i := 2063) (by decide +kernel), List.mem_of_getElem? (i := 3514) (by decide +kernel), List.mem_of_getElem? (i := 3515) (by decide +kernel)⟩
theorem lw_p290 : lw_okq (⟨"BreedingHouseModel", "refine", "()V"⟩, 138) := ⟨⟨by decide +kernel, by decide +kernel⟩, List.mem_of_getElem? (i := 2063) (by decide +kernel), List.mem_of_getElem? (i := 3526) (by decide +kernel), List.mem_of_getElem? (i := 3527) (by decide +kernel)⟩
theorem lw_p291 : lw_okq (⟨"BreedingHouseModel", "goAlike", "(II)Z"⟩, 138) := ⟨⟨by decide +kernel, by decide +kernel⟩, List.mem_of_getElem? (i := 2063) (by decide +kernel), List.mem_of_getElem? (i := 3530) (by decide +kernel), List.mem_of_getElem? (i := 3531) (by decide +kernel)⟩
theorem lw_p292 : lw_okq (⟨"BreedingHouseModel", "netThrown", "(I)I"⟩, 138) := ⟨⟨by decide +kernel, by decide +kernel⟩, List.mem_of_getElem? (i := 2063) (by decide +kernel), List.mem_of_getElem? (i := 3538) (by decide +kernel), List.mem_of_getElem? (i := 3539) (by decide +kernel)⟩
def lw_privs_19 : List (MethodName × Nat) := [(⟨"BreedingHouseModel", "shorten", "(JJ)Z"⟩, 138), (⟨"BreedingHouseModel", "isNoWorse", "(JJ)Z"⟩, 138), (⟨"BreedingHouseModel", "refine", "()V"⟩, 138), (⟨"BreedingHouseModel", "goAlike", "(II)Z"⟩, 138), (⟨"BreedingHouseModel", "netThrown", "(I)I"⟩, 138)]
theorem lw_r19 : ∀ q ∈ lw_privs_19, lw_okq q := List.forall_mem_cons.mpr ⟨lw_p288, List.forall_mem_cons.mpr ⟨lw_p289, List.forall_mem_cons.mpr ⟨lw_p290, List.forall_mem_cons.mpr ⟨lw_p291, List.forall_mem_cons.mpr ⟨lw_p292, fun _ h => absurd h List.not_mem_nil⟩⟩⟩⟩⟩
def lw_privs : List (MethodName × Nat) := lw_privs_1 ++ (lw_privs_2 ++ (lw_privs_3 ++ (lw_privs_4 ++ (lw_privs_5 ++ (lw_privs_6 ++ (lw_privs_7 ++ (lw_privs_8 ++ (lw_privs_9 ++ (lw_privs_10 ++ (lw_privs_11 ++ (lw_privs_12 ++ (lw_privs_13 ++ (lw_privs_14 ++ (lw_privs_15 ++ (lw_privs_16 ++ (lw_privs_17 ++ (lw_privs_18 ++ (lw_privs_19))))))))))))))))))
def lw_tbl : List Cond := k2_sels lw_privs ++ tables_1
theorem lw_privs_ok : ∀ q ∈ lw_privs, lw_okq q := by
  show ∀ q ∈ lw_privs_1 ++ (lw_privs_2 ++ (lw_privs_3 ++ (lw_privs_4 ++ (lw_privs_5 ++ (lw_privs_6 ++ (lw_privs_7 ++ (lw_privs_8 ++ (lw_privs_9 ++ (lw_privs_10 ++ (lw_privs_11 ++ (lw_privs_12 ++ (lw_privs_13 ++ (lw_privs_14 ++ (lw_privs_15 ++ (lw_privs_16 ++ (lw_privs_17 ++ (lw_privs_18 ++ (lw_privs_19)))))))))))))))))), lw_okq q
  exact List.forall_mem_append.mpr ⟨lw_r1, List.forall_mem_append.mpr ⟨lw_r2, List.forall_mem_append.mpr ⟨lw_r3, List.forall_mem_append.mpr ⟨lw_r4, List.forall_mem_append.mpr ⟨lw_r5, List.forall_mem_append.mpr ⟨lw_r6, List.forall_mem_append.mpr ⟨lw_r7, List.forall_mem_append.mpr ⟨lw_r8, List.forall_mem_append.mpr ⟨lw_r9, List.forall_mem_append.mpr ⟨lw_r10, List.forall_mem_append.mpr ⟨lw_r11, List.forall_mem_append.mpr ⟨lw_r12, List.forall_mem_append.mpr ⟨lw_r13, List.forall_mem_append.mpr ⟨lw_r14, List.forall_mem_append.mpr ⟨lw_r15, List.forall_mem_append.mpr ⟨lw_r16, List.forall_mem_append.mpr ⟨lw_r17, List.forall_mem_append.mpr ⟨lw_r18, lw_r19⟩⟩⟩⟩⟩⟩⟩⟩⟩⟩⟩⟩⟩⟩⟩⟩⟩⟩
theorem goodIn_r {big : List Cond} (ws : List Cond) (ps : List Nat) (hp : ws = ps.filterMap (fun i => big[i]?)) (h : ws.all goodWord = true) : GoodIn big ws := by
  intro w hw
  have h1 := List.all_eq_true.mp h w hw
  rw [hp] at hw
  obtain ⟨i, -, hi⟩ := List.mem_filterMap.mp hw
  have hm : w ∈ big := by first | exact List.mem_of_getElem? hi | exact List.getElem?_mem hi
  exact ⟨hm, good_of_word h1⟩
theorem goodIn_app {big a b : List Cond} (ha : GoodIn big a) (hb : GoodIn big b) : GoodIn big (a ++ b) := fun w h => (List.mem_append.mp h).elim (ha w) (hb w)
theorem goodIn_ca {big a b : List Cond} {c : Cond} (ha : GoodIn big (c :: a)) (hb : GoodIn big b) : GoodIn big (c :: (a ++ b)) := fun w h => (List.mem_cons.mp h).elim (fun e => ha w (List.mem_cons.mpr (Or.inl e))) (fun h => (List.mem_append.mp h).elim (fun h => ha w (List.mem_cons.mpr (Or.inr h))) (hb w))
theorem goodIn_sub {big ws : List Cond} (hm : ∀ w ∈ ws, w ∈ big) (h : ws.all goodWord = true) : GoodIn big ws := fun w hw => ⟨hm w hw, good_of_word (List.all_eq_true.mp h w hw)⟩

section VXA

def vx_T (XC : String → State → State → Prop) (st : State) (q : Addr) (t : State) (mc ms : Nat) (free : Addr → Prop) : Prop :=
  ∃ (E : String) (ce : Cell) (L : List Loc), XC E st t ∧ t.heap[q]? = some ce ∧ ce.vm = .none ∧ st.vm.findClass E = some ce.cls ∧ st.WarmedH t.vm ∧ st.sameButNew ({ t with vm := st.vm } : State) L mc ms ∧ ∀ z ∈ L, free z.base
def vx_Q (Qc : Array Value → State → Outcome → State → Prop) (XC : String → State → State → Prop) (mc ms : Nat) (free : Addr → Prop) : Array Value → State → Outcome → State → Prop := fun a st o t =>
  (Qc a st o t ∧ ∃ L, FrameEnd st o t L mc ms ∧ ∀ q ∈ L, free q.base) ∨ ∃ q, o = .threw q ∧ vx_T XC st q t mc ms free
def vx_Met (l : Launch) (y : MethodName) (ws : List Cond) (rm : Room) (Pc : Array Value → State → Prop) (Qc : Array Value → State → Outcome → State → Prop) (XC : String → State → State → Prop) (mc ms : Nat) (free : Addr → Prop) : Prop :=
  MetFree l y (headSpec ws rm) Pc (fun _ _ _ _ _ => True) (vx_Q Qc XC mc ms free)
def vx_Post (XC : String → State → State → Prop) (mc ms : Nat) (free : Addr → Prop) : Pt → Array Value → Addr → Pt → Prop := fun A a q B =>
  ∃ (g : JFrame) (mk : MethodId) (t : State) (L : List Loc) (E : String) (ce : Cell), B.U.heap = t.heap ∧ B.U.vm = t.vm ∧ XC E (A.U.calling g mk a) t ∧ t.heap[q]? = some ce ∧ ce.vm = .none ∧ A.U.vm.findClass E = some ce.cls ∧ B.locs = A.locs ++ L ∧ (∀ z ∈ L, free z.base) ∧ B.cells = A.cells + mc ∧ B.slots = A.slots + ms
def vx_Back (l : Launch) (R : Room) (p : Program) (e : Env) (below : List Frame) (s : State) (sargs : Array Value) (y : MethodName) (len W9 : Nat)
    (Pre : Pt → Array Value → Prop) (Post : Pt → Array Value → Option Value → Pt → Prop) (PostX : Pt → Array Value → Addr → Pt → Prop) : Prop :=
  ∀ (m : MethodId) (meth : Method) (c : Code) (A : Pt) (g : JFrame) (ig : Instr) (mk : MethodId) (a : Array Value),
    Stand p l e R s m sargs below meth c A.U A.locs A.cells A.slots → g.method = m → g.locals.size = c.maxLocals → decode c.code g.pc = .ok (ig, len) →
    2 * g.monitorRoom + (g.stack.map fun v => v.category).sum ≤ W9 → A.U.methodNamed? y = some mk → Pre A a →
    (∃ (v : Option Value) (B : Pt), Stand p l e R s m sargs below meth c B.U B.locs B.cells B.slots ∧ Post A a v B ∧
      Steps p.tables e below (doInvoke e (A.U.setTop g) [] mk a).1 (B.U.setTop { g with pc := g.pc + len, stack := v.toList ++ g.stack })) ∨
    (∃ (q : Addr) (B : Pt), Stand p l e R s m sargs below meth c B.U B.locs B.cells B.slots ∧ PostX A a q B ∧
      Steps p.tables e below (doInvoke e (A.U.setTop g) [] mk a).1 ((B.U.setTop g).pushFrame (.throwing q)))
section Payer
variable {l : Launch} {R : Room} {p : Program} {e : Env} {below : List Frame} {s : State} {sargs : Array Value} {y : MethodName} {len W9 : Nat}
theorem vx_back {ws : List Cond} {rm : Room} {Pc : Array Value → State → Prop} {Qc : Array Value → State → Outcome → State → Prop} {XC : String → State → State → Prop} {mc ms : Nat} {free : Addr → Prop} {bytes : ByteArray} {maxL : Nat} {ret : Option FieldType}
    (hM : vx_Met l y ws rm Pc Qc XC mc ms free) (hblind : FrameBlind Pc) (hrc : rm.cells = mc) (hrs : rm.slots = ms)
    (hframes : rm.frames + 1 ≤ R.frames) (hlocals : W9 + (maxL + 11) + rm.locals ≤ R.locals)
    (hws : ∀ w ∈ ws, ∀ a' U, s.WarmedH U.vm → w.before a' U = true) (hcode : Cond.code y bytes maxL ret ∈ ws) (hinit : ∀ a' U, s.WarmedH U.vm → (Cond.initialized y.cls).before a' U = true) :
    vx_Back l R p e below s sargs y len W9 (PreOf R mc ms Pc) (PostOf Qc mc ms free) (vx_Post XC mc ms free) := by
  intro m meth c A g ig mk a X hg hsize hdg hW hn hp
  have h1 : (headSpec ws rm).pre.before a A.U = true := atoms_intro fun w hw => hws w hw _ _ X.warmed
  have h2 : (Cond.code y bytes maxL ret).before a A.U = true := hws _ hcode _ _ X.warmed
  have h3 : (Cond.initialized y.cls).before a A.U = true := hinit _ _ X.warmed
  have h4 : A.cells + (headSpec ws rm).room.cells ≤ R.cells := by rw [show (headSpec ws rm).room.cells = mc from hrc]; exact hp.1
  have h5 : A.slots + (headSpec ws rm).room.slots ≤ R.slots := by rw [show (headSpec ws rm).room.slots = ms from hrs]; exact hp.2.1
  have hPc : Pc a (A.U.calling g mk a) := hblind _ _ _ _ hp.2.2
  obtain ⟨U, Ls, c0, s0⟩ := A
  dsimp only [Pt.U, Pt.locs, Pt.cells, Pt.slots] at h1 h2 h3 h4 h5 X hn hPc ⊢
  obtain ⟨methY, cY, hmY, hcY, -, hlY, -, -, -, -⟩ := Cond.code_spec hn h2
  obtain ⟨kY, hkY, -⟩ := className_of_methodNamed hn
  have hinitY : kY.init = .initialized := Cond.initialized_spec (findClass_of_methodNamed hn) hkY h3
  have h : At U g.method c below := by rw [hg]; exact X.here
  have hlocals9 : W9 + (maxL + 11) + (headSpec ws rm).room.locals ≤ R.locals := hlocals
  have happ : (headSpec ws rm).appliesLoose y e.platform (U.calling g mk a) = true :=
    Spec.appliesLoose_calling (g := g) h hdg hn hkY hinitY
      (X.room_calling (g := g) (R' := (headSpec ws rm).room) hsize hmY hcY hframes (by rw [hlY]; omega) h4 h5) h1
  obtain ⟨mid, hmid⟩ := h.above
  have hfr : (U.setTop g).frames = (.java g :: mid) ++ below := by rw [State.frames_setTop' g h.top, hmid]; rfl
  obtain ⟨o, s₂, hsteps, -, hend, hq⟩ := Steps.callFree hM p X.admits X.cas X.clock (acts := []) hfr happ hPc trivial
  have hq' : vx_Q Qc XC mc ms free a (U.calling g mk a) o s₂ := hq
  rw [State.frames_setTop' g h.top] at hend
  obtain ⟨g₀, hg0⟩ := Option.isSome_iff_exists.mp h.top
  obtain ⟨r, hr⟩ := State.topJava?_eq_some.mp hg0
  have hr' : (({ U with heap := s₂.heap, slotsUsed := s₂.slotsUsed } : State).setVm s₂.vm).frames = .java g₀ :: r := hr
  rcases hq' with ⟨hqc, L, hfe, hL⟩ | ⟨q, rfl, E, ce, L, hx, hce, hcv, hcl, hW₂, hsm, hL⟩
  · obtain ⟨⟨v, rfl⟩, hW₂, e2, q2, q3, q4, q5, q6⟩ := id hfe
    have e3 : s₂ = ({ (U.calling g mk a).setFrames s₂.frames with heap := s₂.heap, slotsUsed := s₂.slotsUsed } : State).setVm s₂.vm := by
      have : s₂ = ({ s₂ with vm := (U.calling g mk a).vm } : State).setVm s₂.vm := rfl
      rw [e2] at this
      exact this
    obtain ⟨c₂, i₂, len₂, hc₂, hd₂, hf₂⟩ := hend
    have hW' : U.WarmedH s₂.vm := hW₂
    have hcc : c₂ = c := by
      have h1 : s₂.code? g.method = U.code? g.method := by
        rw [State.code?_eq, State.code?_eq, hW'.alike.method?]
      exact Option.some.inj (hc₂.symm.trans (h1.trans h.code))
    subst hcc
    have hlen : len₂ = len := by rw [hdg] at hd₂; cases hd₂; rfl
    subst hlen
    have hs₂ : s₂ = (({ U with heap := s₂.heap, slotsUsed := s₂.slotsUsed } : State).setVm s₂.vm).setTop { g with pc := g.pc + len₂, stack := v.toList ++ g.stack } := by
      refine e3.trans ?_
      rw [hf₂, State.calling_eq h.top, State.setFrames_setFrames, State.setTop_of_frames _ hr', hr]
      rfl
    have hsame : U.sameButNew ({ U with heap := s₂.heap, slotsUsed := s₂.slotsUsed } : State) L mc ms := by
      refine ⟨?_, q2, q3, q4, q5, q6⟩
      obtain ⟨t, ht, -⟩ := State.frames_cons hr
      show ({ U with heap := s₂.heap, slotsUsed := s₂.slotsUsed } : State) = { U.setFrames U.frames with heap := s₂.heap, slotsUsed := s₂.slotsUsed }
      rw [State.setFrames_self ht]
    subst hg
    refine Or.inl ⟨v, ⟨(({ U with heap := s₂.heap, slotsUsed := s₂.slotsUsed } : State).setVm s₂.vm), Ls ++ L, c0 + mc, s0 + ms⟩,
      ⟨X.admits, X.cas, X.clock, X.frames, X.room, X.hears, X.method, X.code, (X.here.setHeapUsed s₂.heap s₂.slotsUsed).setVm hW'.alike, X.tail, State.WarmedH.trans X.warmed hW', X.limits, X.bytes, X.same.trans (hsame.setVm s.vm)⟩,
      ⟨g, mk, s₂, L, rfl, rfl, hqc, rfl, hL, rfl, rfl⟩, ?_⟩
    show Steps p.tables e below _ ((({ U with heap := s₂.heap, slotsUsed := s₂.slotsUsed } : State).setVm s₂.vm).setTop { g with pc := g.pc + len₂, stack := v.toList ++ g.stack })
    rw [← hs₂]
    exact hsteps
  · obtain ⟨e2, q2, q3, q4, q5, q6⟩ := id hsm
    have e3 : s₂ = ({ (U.calling g mk a).setFrames s₂.frames with heap := s₂.heap, slotsUsed := s₂.slotsUsed } : State).setVm s₂.vm := by
      have : s₂ = ({ s₂ with vm := (U.calling g mk a).vm } : State).setVm s₂.vm := rfl
      rw [e2] at this
      exact this
    have hf₂ : s₂.frames = .throwing q :: .java g :: U.frames.tail := hend
    have hW' : U.WarmedH s₂.vm := hW₂
    have hs₂ : s₂ = ((({ U with heap := s₂.heap, slotsUsed := s₂.slotsUsed } : State).setVm s₂.vm).setTop g).pushFrame (.throwing q) := by
      refine e3.trans ?_
      rw [hf₂, State.calling_eq h.top, State.setFrames_setFrames, State.pushFrame, State.frames_setTop _ hr', State.setTop_of_frames _ hr', State.setFrames_setFrames, hr]
      rfl
    have hsame : U.sameButNew ({ U with heap := s₂.heap, slotsUsed := s₂.slotsUsed } : State) L mc ms := by
      refine ⟨?_, q2, q3, q4, q5, q6⟩
      obtain ⟨t, ht, -⟩ := State.frames_cons hr
      show ({ U with heap := s₂.heap, slotsUsed := s₂.slotsUsed } : State) = { U.setFrames U.frames with heap := s₂.heap, slotsUsed := s₂.slotsUsed }
      rw [State.setFrames_self ht]
    subst hg
    refine Or.inr ⟨q, ⟨(({ U with heap := s₂.heap, slotsUsed := s₂.slotsUsed } : State).setVm s₂.vm), Ls ++ L, c0 + mc, s0 + ms⟩,
      ⟨X.admits, X.cas, X.clock, X.frames, X.room, X.hears, X.method, X.code, (X.here.setHeapUsed s₂.heap s₂.slotsUsed).setVm hW'.alike, X.tail, State.WarmedH.trans X.warmed hW', X.limits, X.bytes, X.same.trans (hsame.setVm s.vm)⟩,
      ⟨g, mk, s₂, L, E, ce, rfl, rfl, hx, hce, hcv, hcl, rfl, hL, rfl, rfl⟩, ?_⟩
    show Steps p.tables e below _ (((({ U with heap := s₂.heap, slotsUsed := s₂.slotsUsed } : State).setVm s₂.vm).setTop g).pushFrame (.throwing q))
    rw [← hs₂]
    exact hsteps
end Payer
section Calls
variable {p : Program} {l : Launch} {e : Env} {R : Room} {s : State} {m : MethodId} {args : Array Value} {below : List Frame} {meth : Method} {c : Code} {T : State} {locs : List Loc} {cells slots : Nat}
theorem vx_callV (X : Stand p l e R s m args below meth c T locs cells slots) (hexec : p.tables.exec = Jvm.exec) {own C : String} {index : Nat} {y : MethodName} {bytes : ByteArray} {maxL : Nat} {ret : Option FieldType}
    (hown : s.vm.findClass own = some m.cls) (hlink : (Cond.methodLink own index y).before args s = true) (hinst : (Cond.instanceMethod y).before args s = true) (hsel : (Cond.selects C y y).before args s = true)
    (hcode : (Cond.code y bytes maxL ret).before args s = true) (hy : y.cls ≠ "java/lang/invoke/MethodHandle" ∧ y.cls ≠ "java/lang/invoke/VarHandle")
    {W9 : Nat} {Pre : Pt → Array Value → Prop} {Post : Pt → Array Value → Option Value → Pt → Prop} {PostX : Pt → Array Value → Addr → Pt → Prop} (hK : vx_Back l R p e below s args y 3 W9 Pre Post PostX)
    {b : Addr} {cellB : Cell} (hcell : T.heap[b]? = some cellB) (hobj : cellB.vm.isStatics = false) (hcls : s.vm.findClass C = some cellB.cls)
    {g : JFrame} (hg : g.method = m) (hsize : g.locals.size = c.maxLocals) {argsL rest : List Value} (hlen : ∀ sig, parseMethodDescriptor y.desc = some sig → argsL.length = sig.parameters.length)
    (hstack : g.stack = argsL.reverse ++ .ref b :: rest) (hW : 2 * g.monitorRoom + (rest.map fun v => v.category).sum ≤ W9) (hdg : decode c.code g.pc = .ok (.invokevirtual index, 3))
    (hpre : ∀ vm₁, s.WarmedH vm₁ → Pre ⟨T.setVm vm₁, locs, cells, slots⟩ (Value.ref b :: argsL).toArray) :
    (∃ (v : Option Value) (vm₁ : Vm) (B : Pt), s.WarmedH vm₁ ∧ Stand p l e R s m args below meth c B.U B.locs B.cells B.slots ∧ Post ⟨T.setVm vm₁, locs, cells, slots⟩ (Value.ref b :: argsL).toArray v B ∧
      ∀ target, Steps p.tables e below (B.U.setTop { g with pc := g.pc + 3, stack := v.toList ++ rest }) target → Steps p.tables e below (T.setTop g) target) ∨
    (∃ (q : Addr) (vm₁ : Vm) (B : Pt), s.WarmedH vm₁ ∧ Stand p l e R s m args below meth c B.U B.locs B.cells B.slots ∧ PostX ⟨T.setVm vm₁, locs, cells, slots⟩ (Value.ref b :: argsL).toArray q B ∧
      Steps p.tables e below (T.setTop g) ((B.U.setTop { g with stack := rest }).pushFrame (.throwing q))) := by
  obtain ⟨mk, methM, hnamed, hmethM, hstM, habM⟩ := Cond.instanceMethod_spec hinst
  obtain ⟨methM', cM, hmethM', -, -, -, -, -, -, hsigM⟩ := Cond.code_spec hnamed hcode
  cases hmethM.symm.trans hmethM'
  obtain ⟨c2, r2, m2, q1, q2, q3, q4, kP, hkP, hkPi⟩ := Cond.selects_spec hsel
  cases hcls.symm.trans q1
  cases (State.methodFound?_of_named hnamed hy).symm.trans q2
  cases hnamed.symm.trans q3
  have hselP : selectMethod e.platform s.vm cellB.cls mk = .method mk := by rw [Launch.admits_selectMethod X.admits]; exact q4
  obtain ⟨vm₁, X₁, hstep₁⟩ := X.invokevirtual hexec hown hlink hnamed hmethM hstM hkP hkPi hy (a := b) (cell := cellB) hcell
    (fun z h => by rw [h] at hobj; cases hobj) hselP hmethM habM hkP hkPi (g := g) hg (argsL := argsL) (rest := rest) (hlen _ hsigM) hstack hdg
  rcases hK m meth c ⟨T.setVm vm₁, locs, cells, slots⟩ { g with stack := rest } (.invokevirtual index) mk (Value.ref b :: argsL).toArray X₁ hg hsize hdg hW (X₁.named hnamed) (hpre vm₁ X₁.warmed) with ⟨v, B, X', hpost, hsteps⟩ | ⟨q, B, X', hpost, hsteps⟩
  · exact Or.inl ⟨v, vm₁, B, X₁.warmed, X', hpost, fun target h => hstep₁ _ fun acts => by rw [doInvoke_state]; exact hsteps.trans h⟩
  · exact Or.inr ⟨q, vm₁, B, X₁.warmed, X', hpost, hstep₁ _ fun acts => by rw [doInvoke_state]; exact hsteps⟩
theorem vx_callS (X : Stand p l e R s m args below meth c T locs cells slots) (hexec : p.tables.exec = Jvm.exec) {own : String} {index : Nat} {y : MethodName} {bytes : ByteArray} {maxL : Nat} {ret : Option FieldType}
    (hown : s.vm.findClass own = some m.cls) (hlink : (Cond.methodLink own index y).before args s = true) (hstat : (Cond.static y).before args s = true) (hinit : (Cond.initialized y.cls).before args s = true)
    (hcode : (Cond.code y bytes maxL ret).before args s = true) (hy : y.cls ≠ "java/lang/invoke/MethodHandle" ∧ y.cls ≠ "java/lang/invoke/VarHandle")
    {W9 : Nat} {Pre : Pt → Array Value → Prop} {Post : Pt → Array Value → Option Value → Pt → Prop} {PostX : Pt → Array Value → Addr → Pt → Prop} (hK : vx_Back l R p e below s args y 3 W9 Pre Post PostX)
    {g : JFrame} (hg : g.method = m) (hsize : g.locals.size = c.maxLocals) {argsL rest : List Value} (hlen : ∀ sig, parseMethodDescriptor y.desc = some sig → argsL.length = sig.parameters.length)
    (hstack : g.stack = argsL.reverse ++ rest) (hW : 2 * g.monitorRoom + (rest.map fun v => v.category).sum ≤ W9) (hdg : decode c.code g.pc = .ok (.invokestatic index, 3))
    (hpre : ∀ vm₁, s.WarmedH vm₁ → Pre ⟨T.setVm vm₁, locs, cells, slots⟩ argsL.toArray) :
    (∃ (v : Option Value) (vm₁ : Vm) (B : Pt), s.WarmedH vm₁ ∧ Stand p l e R s m args below meth c B.U B.locs B.cells B.slots ∧ Post ⟨T.setVm vm₁, locs, cells, slots⟩ argsL.toArray v B ∧
      ∀ target, Steps p.tables e below (B.U.setTop { g with pc := g.pc + 3, stack := v.toList ++ rest }) target → Steps p.tables e below (T.setTop g) target) ∨
    (∃ (q : Addr) (vm₁ : Vm) (B : Pt), s.WarmedH vm₁ ∧ Stand p l e R s m args below meth c B.U B.locs B.cells B.slots ∧ PostX ⟨T.setVm vm₁, locs, cells, slots⟩ argsL.toArray q B ∧
      Steps p.tables e below (T.setTop g) ((B.U.setTop { g with stack := rest }).pushFrame (.throwing q))) := by
  obtain ⟨mk, hnamed⟩ := Cond.code_named hcode
  obtain ⟨methM, cM, hmethM, -, -, -, -, -, -, hsigM⟩ := Cond.code_spec hnamed hcode
  have hstatic : methM.isStatic = true := Cond.static_spec hnamed hmethM hstat
  obtain ⟨kP, hkP, -⟩ := className_of_methodNamed hnamed
  have hinitP : kP.init = .initialized := Cond.initialized_spec (findClass_of_methodNamed hnamed) hkP hinit
  obtain ⟨vm₁, X₁, hstep₁⟩ := X.invokestatic hexec hown hlink hnamed hmethM hstatic hkP hinitP hy (g := g) hg (argsL := argsL) (rest := rest) (hlen _ hsigM) hstack hdg
  rcases hK m meth c ⟨T.setVm vm₁, locs, cells, slots⟩ { g with stack := rest } (.invokestatic index) mk argsL.toArray X₁ hg hsize hdg hW (X₁.named hnamed) (hpre vm₁ X₁.warmed) with ⟨v, B, X', hpost, hsteps⟩ | ⟨q, B, X', hpost, hsteps⟩
  · exact Or.inl ⟨v, vm₁, B, X₁.warmed, X', hpost, fun target h => hstep₁ _ fun acts => by rw [doInvoke_state]; exact hsteps.trans h⟩
  · exact Or.inr ⟨q, vm₁, B, X₁.warmed, X', hpost, hstep₁ _ fun acts => by rw [doInvoke_state]; exact hsteps⟩
end Calls
theorem vx_cls {s : State} {T : State} {vm₁ : Vm} {E : String} {k : ClassId} (hW : s.WarmedH vm₁) (h : (T.setVm vm₁).vm.findClass E = some k) : s.vm.findClass E = some k := by
  have h1 : vm₁.findClass E = some k := h
  rw [hW.alike.findClass] at h1
  exact h1
def vx_W (p : Program) (l : Launch) (e : Env) (R : Room) (s : State) (m : MethodId) (args : Array Value) (below : List Frame) (meth : Method) (c : Code) (H : Heap) (locs : List Loc) (cells slots : Nat) (Q : State → Prop) (g : JFrame) (q : Addr) : Prop :=
  ∀ T : State, T.heap = H → Stand p l e R s m args below meth c T locs cells slots → ∃ t, Steps p.tables e below ((T.setTop g).pushFrame (.throwing q)) t ∧ Q t
def vx_Run (p : Program) (l : Launch) (e : Env) (R : Room) (s : State) (m : MethodId) (args : Array Value) (below : List Frame) (meth : Method) (c : Code) (H : Heap) (locs : List Loc) (cells slots mc ms : Nat) (g : JFrame) (rest : List Value) (Qa : State → Outcome → State → Prop) (XC : String → State → State → Prop) (free : Addr → Prop) : Prop :=
  ∀ T : State, T.heap = H → Stand p l e R s m args below meth c T locs cells slots →
    (∃ (v : Option Value) (st₀ t T' : State) (L : List Loc), st₀.heap = H ∧ Stand p l e R s m args below meth c T' (locs ++ L) (cells + mc) (slots + ms) ∧ (∀ q ∈ L, free q.base) ∧ T'.heap = t.heap ∧ T'.vm = t.vm ∧ Qa st₀ (.returned v) t ∧
      Goes p e below T g T' { g with pc := g.pc + 3, stack := v.toList ++ rest }) ∨
    (∃ (q : Addr) (st₀ t T' : State) (L : List Loc) (E : String) (ce : Cell), st₀.heap = H ∧ Stand p l e R s m args below meth c T' (locs ++ L) (cells + mc) (slots + ms) ∧ (∀ z ∈ L, free z.base) ∧ T'.heap = t.heap ∧ T'.vm = t.vm ∧ XC E st₀ t ∧ t.heap[q]? = some ce ∧ ce.vm = .none ∧ s.vm.findClass E = some ce.cls ∧
      Steps p.tables e below (T.setTop g) ((T'.setTop { g with stack := rest }).pushFrame (.throwing q)))
def vx_X {S : Type} (px : S → Prop) (B : String → S → State → Prop) (A : Nat → Prop) : String → State → State → Prop := fun E st t => ∃ u : S, px u ∧ B E u t ∧ va_F A st t
section Runs
variable {p : Program} {l : Launch} {e : Env} {R : Room} {s : State} {m : MethodId} {args : Array Value} {below : List Frame} {meth : Method} {c : Code} {H : Heap} {locs : List Loc} {cells slots : Nat}
variable {y : MethodName} {bytes cc : ByteArray} {maxL nL mc ms n index : Nat} {ret : Option FieldType} {ws : List Cond} {rm : Room} {Pc : Array Value → State → Prop} {Qc : Array Value → State → Outcome → State → Prop} {XC : String → State → State → Prop} {free : Addr → Prop} {Ts : List Cond} {own C : String} {b : Addr} {As rest : List Value} {g : JFrame}
theorem vx_callBack (cb : CallB R s args own index y bytes maxL ret ws rm mc ms n) (hM : vx_Met l y ws rm Pc Qc XC mc ms free) (hbl : FrameBlind Pc) : vx_Back l R p e below s args y 3 8 (PreOf R mc ms Pc) (PostOf Qc mc ms free) (vx_Post XC mc ms free) := by
  obtain ⟨hrc, hrs, hfr, hlo, hws, hcw, -, hini, -⟩ := cb
  exact vx_back (bytes := bytes) (maxL := maxL) (ret := ret) hM hbl hrc hrs hfr hlo hws hcw (fun a' U hW => word_at hW (Or.inl (by first | rfl | simp [Cond.onTables, Cond.keeps, Cond.steady])) hini)
theorem vx_runV (S : CallFix p m c cc nL s args Ts own) (hM : vx_Met l y ws rm Pc Qc XC mc ms free) (cw : CallW R s args own C index y bytes maxL ret ws rm mc ms n) (hp : PreV s H C b Pc As)
    (hg : g.method = m) (hn : As.length = n) (hsize : g.locals.size = nL) (hstack : g.stack = As.reverse ++ .ref b :: rest) (hW : 2 * g.monitorRoom + (rest.map fun v => v.category).sum ≤ 8) (hdg : decode cc g.pc = .ok (.invokevirtual index, 3)) (hf : cells + mc ≤ R.cells ∧ slots + ms ≤ R.slots) :
    vx_Run p l e R s m args below meth c H locs cells slots mc ms g rest (Qc (Value.ref b :: As).toArray) XC free := by
  have hK : vx_Back l R p e below s args y 3 8 (PreOf R mc ms Pc) (PostOf Qc mc ms free) (vx_Post XC mc ms free) := vx_callBack cw.1 hM hp.1
  obtain ⟨⟨-, -, -, -, -, -, hcode, -, hy, hlen, hl⟩, hin, hse⟩ := cw
  obtain ⟨hx, hb, hml, ho, -⟩ := S
  obtain ⟨-, ⟨cellB, hcB, hoB, hclB⟩, hPc⟩ := hp
  intro T hT X
  rcases vx_callV X hx (C := C) (bytes := bytes) (maxL := maxL) (ret := ret) ho hl hin hse hcode hy hK (by rw [hT]; exact hcB) hoB hclB hg (hsize.trans hml.symm) (argsL := As) (rest := rest) (fun sig h => hn.trans (hlen sig h)) hstack hW (by rw [hb]; exact hdg)
    (fun vm₁ hW₁ => ⟨hf.1, hf.2, hPc (T.setVm vm₁) hT hW₁⟩) with ⟨v, vm₁, ⟨U', l2, c2, s2⟩, hW₁, X', ⟨g', mk, t, L, e1, e2, hq, h1, hL, h2, h3⟩, st⟩ | ⟨q, vm₁, ⟨U', l2, c2, s2⟩, hW₁, X', ⟨g', mk, t, L, E, ce, e1, e2, hq, hce, hcv, hcl, h1, hL, h2, h3⟩, st⟩
  · dsimp only [Pt.U, Pt.locs, Pt.cells, Pt.slots] at X' e1 e2 h1 h2 h3 st
    subst h1; subst h2; subst h3
    exact Or.inl ⟨v, (T.setVm vm₁).calling g' mk (Value.ref b :: As).toArray, t, U', L, hT, X', hL, e1, e2, hq, st⟩
  · dsimp only [Pt.U, Pt.locs, Pt.cells, Pt.slots] at X' e1 e2 h1 h2 h3 st hcl
    subst h1; subst h2; subst h3
    exact Or.inr ⟨q, (T.setVm vm₁).calling g' mk (Value.ref b :: As).toArray, t, U', L, E, ce, hT, X', hL, e1, e2, hq, hce, hcv, vx_cls hW₁ hcl, st⟩
theorem vx_runS (S : CallFix p m c cc nL s args Ts own) (hM : vx_Met l y ws rm Pc Qc XC mc ms free) (cw : CallB R s args own index y bytes maxL ret ws rm mc ms n ∧ (Cond.static y).before args s = true) (hp : PreS s H Pc As)
    (hg : g.method = m) (hn : As.length = n) (hsize : g.locals.size = nL) (hstack : g.stack = As.reverse ++ rest) (hW : 2 * g.monitorRoom + (rest.map fun v => v.category).sum ≤ 8) (hdg : decode cc g.pc = .ok (.invokestatic index, 3)) (hf : cells + mc ≤ R.cells ∧ slots + ms ≤ R.slots) :
    vx_Run p l e R s m args below meth c H locs cells slots mc ms g rest (Qc As.toArray) XC free := by
  have hK : vx_Back l R p e below s args y 3 8 (PreOf R mc ms Pc) (PostOf Qc mc ms free) (vx_Post XC mc ms free) := vx_callBack cw.1 hM hp.1
  obtain ⟨⟨-, -, -, -, -, -, hcode, hini, hy, hlen, hl⟩, hstt⟩ := cw
  obtain ⟨hx, hb, hml, ho, -⟩ := S
  intro T hT X
  rcases vx_callS X hx (bytes := bytes) (maxL := maxL) (ret := ret) ho hl hstt hini hcode hy hK hg (hsize.trans hml.symm) (argsL := As) (rest := rest) (fun sig h => hn.trans (hlen sig h)) hstack hW (by rw [hb]; exact hdg)
    (fun vm₁ hW₁ => ⟨hf.1, hf.2, hp.2 (T.setVm vm₁) hT hW₁⟩) with ⟨v, vm₁, ⟨U', l2, c2, s2⟩, hW₁, X', ⟨g', mk, t, L, e1, e2, hq, h1, hL, h2, h3⟩, st⟩ | ⟨q, vm₁, ⟨U', l2, c2, s2⟩, hW₁, X', ⟨g', mk, t, L, E, ce, e1, e2, hq, hce, hcv, hcl, h1, hL, h2, h3⟩, st⟩
  · dsimp only [Pt.U, Pt.locs, Pt.cells, Pt.slots] at X' e1 e2 h1 h2 h3 st
    subst h1; subst h2; subst h3
    exact Or.inl ⟨v, (T.setVm vm₁).calling g' mk As.toArray, t, U', L, hT, X', hL, e1, e2, hq, st⟩
  · dsimp only [Pt.U, Pt.locs, Pt.cells, Pt.slots] at X' e1 e2 h1 h2 h3 st hcl
    subst h1; subst h2; subst h3
    exact Or.inr ⟨q, (T.setVm vm₁).calling g' mk As.toArray, t, U', L, E, ce, hT, X', hL, e1, e2, hq, hce, hcv, vx_cls hW₁ hcl, st⟩
end Runs
section Rows
variable {p : Program} {l : Launch} {e : Env} {R : Room} {s : State} {m : MethodId} {args : Array Value} {below : List Frame} {meth : Method} {c : Code} {H : Heap} {locs : List Loc} {cells slots : Nat} {Q : State → Prop}
variable {mc ms : Nat} {free : Addr → Prop} {A0 A1 : Nat → Prop} {H0 : Heap} {a : Array Value} {pc : Nat} {ls : Array Slot} {st0 rest : List Value}
theorem vx_keep {st₀ t T' : State} {L : List Loc} (h0 : st₀.heap = H) (e1 : T'.heap = t.heap) (hS : va_S A0 H0 H locs) (hA : ∀ q, q < H.size → A1 q → A0 q) (hf : ∀ q, free q → A0 q) (hL : ∀ q ∈ L, free q.base) (hF : va_F A1 st₀ t) :
    H.size ≤ T'.heap.size ∧ (∀ q : Nat, q < H.size → ¬ A1 q → T'.heap[q]? = H[q]?) ∧ va_S A0 H0 T'.heap (locs ++ L) := by
  obtain ⟨hz, hk⟩ := hF
  rw [h0] at hz hk
  exact ⟨by rw [e1]; exact hz, fun q h1 h2 => by rw [e1]; exact hk q h1 h2,
    ⟨Nat.le_trans hS.1 (by rw [e1]; exact hz), fun q h1 h2 => by rw [e1, hk q (Nat.lt_of_lt_of_le h1 hS.1) (fun z => h2 (hA q (Nat.lt_of_lt_of_le h1 hS.1) z))]; exact hS.2.1 q h1 h2, fun q hq => by
      rcases List.mem_append.mp hq with h | h
      · exact hS.2.2 q h
      · exact hf _ (hL q h)⟩⟩
theorem vx_calli {S SX : Type} {post : Int32 → S → Prop} {px : SX → Prop} {B : S → State → Prop} {BX : String → SX → State → Prop} {AX : Nat → Prop} (hr : vx_Run p l e R s m args below meth c H locs cells slots mc ms (F0 m pc ls st0) rest (va_Qi post B A1 a) (vx_X px BX AX) free) (hS : va_S A0 H0 H locs) (hA : ∀ q, q < H.size → A1 q → A0 q) (hf : ∀ q, free q → A0 q) (hAX : ∀ q, q < H.size → AX q → A0 q)
    (kx : ∀ (E : String) (ce : Cell) (q9 : Addr) (u : SX) (t : State) (H1 : Heap) (locs1 : List Loc), t.heap = H1 → s.vm.Alike t.vm → px u → BX E u t → H.size ≤ H1.size → (∀ q : Nat, q < H.size → ¬ AX q → H1[q]? = H[q]?) → va_S A0 H0 H1 locs1 → H1[q9]? = some ce → ce.vm = .none → s.vm.findClass E = some ce.cls → vx_W p l e R s m args below meth c H1 locs1 (cells + mc) (slots + ms) Q (F0 m pc ls rest) q9)
    (kk : ∀ (r : Int32) (u : S) (t : State) (H1 : Heap) (locs1 : List Loc), t.heap = H1 → s.vm.Alike t.vm → post r u → B u t → H.size ≤ H1.size → (∀ q : Nat, q < H.size → ¬ A1 q → H1[q]? = H[q]?) → va_S A0 H0 H1 locs1 → W p l e R s m args below meth c H1 locs1 (cells + mc) (slots + ms) Q (F0 m (pc + 3) ls (.int r :: rest))) : W p l e R s m args below meth c H locs cells slots Q (F0 m pc ls st0) := by
  intro T hT X
  rcases hr T hT X with ⟨v, st₀, t, T', L, h0, X', hL, e1, e2, ⟨⟨r, u, hv, hp, hb⟩, hF⟩, st⟩ | ⟨q, st₀, t, T', L, E, ce, h0, X', hL, e1, e2, ⟨u, hp, hb, hF⟩, hce, hcv, hcl, st⟩
  · cases hv
    obtain ⟨k1, k2, k3⟩ := vx_keep h0 e1 hS hA hf hL hF
    obtain ⟨t2, a1, b1⟩ := kk r u t T'.heap (locs ++ L) e1.symm (by rw [← e2]; exact X'.warmed.alike) hp hb k1 k2 k3 T' rfl X'
    exact ⟨t2, st t2 a1, b1⟩
  · obtain ⟨k1, k2, k3⟩ := vx_keep h0 e1 hS hAX hf hL hF
    obtain ⟨t2, a1, b1⟩ := kx E ce q u t T'.heap (locs ++ L) e1.symm (by rw [← e2]; exact X'.warmed.alike) hp hb k1 k2 k3 (by rw [e1]; exact hce) hcv hcl T' rfl X'
    exact ⟨t2, st.trans a1, b1⟩
theorem vx_calll {S SX : Type} {post : Int64 → S → Prop} {px : SX → Prop} {B : S → State → Prop} {BX : String → SX → State → Prop} {AX : Nat → Prop} (hr : vx_Run p l e R s m args below meth c H locs cells slots mc ms (F0 m pc ls st0) rest (va_Ql post B A1 a) (vx_X px BX AX) free) (hS : va_S A0 H0 H locs) (hA : ∀ q, q < H.size → A1 q → A0 q) (hf : ∀ q, free q → A0 q) (hAX : ∀ q, q < H.size → AX q → A0 q)
    (kx : ∀ (E : String) (ce : Cell) (q9 : Addr) (u : SX) (t : State) (H1 : Heap) (locs1 : List Loc), t.heap = H1 → s.vm.Alike t.vm → px u → BX E u t → H.size ≤ H1.size → (∀ q : Nat, q < H.size → ¬ AX q → H1[q]? = H[q]?) → va_S A0 H0 H1 locs1 → H1[q9]? = some ce → ce.vm = .none → s.vm.findClass E = some ce.cls → vx_W p l e R s m args below meth c H1 locs1 (cells + mc) (slots + ms) Q (F0 m pc ls rest) q9)
    (kk : ∀ (r : Int64) (u : S) (t : State) (H1 : Heap) (locs1 : List Loc), t.heap = H1 → s.vm.Alike t.vm → post r u → B u t → H.size ≤ H1.size → (∀ q : Nat, q < H.size → ¬ A1 q → H1[q]? = H[q]?) → va_S A0 H0 H1 locs1 → W p l e R s m args below meth c H1 locs1 (cells + mc) (slots + ms) Q (F0 m (pc + 3) ls (.long r :: rest))) : W p l e R s m args below meth c H locs cells slots Q (F0 m pc ls st0) := by
  intro T hT X
  rcases hr T hT X with ⟨v, st₀, t, T', L, h0, X', hL, e1, e2, ⟨⟨r, u, hv, hp, hb⟩, hF⟩, st⟩ | ⟨q, st₀, t, T', L, E, ce, h0, X', hL, e1, e2, ⟨u, hp, hb, hF⟩, hce, hcv, hcl, st⟩
  · cases hv
    obtain ⟨k1, k2, k3⟩ := vx_keep h0 e1 hS hA hf hL hF
    obtain ⟨t2, a1, b1⟩ := kk r u t T'.heap (locs ++ L) e1.symm (by rw [← e2]; exact X'.warmed.alike) hp hb k1 k2 k3 T' rfl X'
    exact ⟨t2, st t2 a1, b1⟩
  · obtain ⟨k1, k2, k3⟩ := vx_keep h0 e1 hS hAX hf hL hF
    obtain ⟨t2, a1, b1⟩ := kx E ce q u t T'.heap (locs ++ L) e1.symm (by rw [← e2]; exact X'.warmed.alike) hp hb k1 k2 k3 (by rw [e1]; exact hce) hcv hcl T' rfl X'
    exact ⟨t2, st.trans a1, b1⟩
theorem vx_callf {S SX : Type} {post : UInt32 → S → Prop} {px : SX → Prop} {B : S → State → Prop} {BX : String → SX → State → Prop} {AX : Nat → Prop} (hr : vx_Run p l e R s m args below meth c H locs cells slots mc ms (F0 m pc ls st0) rest (va_Qf post B A1 a) (vx_X px BX AX) free) (hS : va_S A0 H0 H locs) (hA : ∀ q, q < H.size → A1 q → A0 q) (hf : ∀ q, free q → A0 q) (hAX : ∀ q, q < H.size → AX q → A0 q)
    (kx : ∀ (E : String) (ce : Cell) (q9 : Addr) (u : SX) (t : State) (H1 : Heap) (locs1 : List Loc), t.heap = H1 → s.vm.Alike t.vm → px u → BX E u t → H.size ≤ H1.size → (∀ q : Nat, q < H.size → ¬ AX q → H1[q]? = H[q]?) → va_S A0 H0 H1 locs1 → H1[q9]? = some ce → ce.vm = .none → s.vm.findClass E = some ce.cls → vx_W p l e R s m args below meth c H1 locs1 (cells + mc) (slots + ms) Q (F0 m pc ls rest) q9)
    (kk : ∀ (r : UInt32) (u : S) (t : State) (H1 : Heap) (locs1 : List Loc), t.heap = H1 → s.vm.Alike t.vm → post r u → B u t → H.size ≤ H1.size → (∀ q : Nat, q < H.size → ¬ A1 q → H1[q]? = H[q]?) → va_S A0 H0 H1 locs1 → W p l e R s m args below meth c H1 locs1 (cells + mc) (slots + ms) Q (F0 m (pc + 3) ls (.float r :: rest))) : W p l e R s m args below meth c H locs cells slots Q (F0 m pc ls st0) := by
  intro T hT X
  rcases hr T hT X with ⟨v, st₀, t, T', L, h0, X', hL, e1, e2, ⟨⟨r, u, hv, hp, hb⟩, hF⟩, st⟩ | ⟨q, st₀, t, T', L, E, ce, h0, X', hL, e1, e2, ⟨u, hp, hb, hF⟩, hce, hcv, hcl, st⟩
  · cases hv
    obtain ⟨k1, k2, k3⟩ := vx_keep h0 e1 hS hA hf hL hF
    obtain ⟨t2, a1, b1⟩ := kk r u t T'.heap (locs ++ L) e1.symm (by rw [← e2]; exact X'.warmed.alike) hp hb k1 k2 k3 T' rfl X'
    exact ⟨t2, st t2 a1, b1⟩
  · obtain ⟨k1, k2, k3⟩ := vx_keep h0 e1 hS hAX hf hL hF
    obtain ⟨t2, a1, b1⟩ := kx E ce q u t T'.heap (locs ++ L) e1.symm (by rw [← e2]; exact X'.warmed.alike) hp hb k1 k2 k3 (by rw [e1]; exact hce) hcv hcl T' rfl X'
    exact ⟨t2, st.trans a1, b1⟩
theorem vx_calld {S SX : Type} {post : UInt64 → S → Prop} {px : SX → Prop} {B : S → State → Prop} {BX : String → SX → State → Prop} {AX : Nat → Prop} (hr : vx_Run p l e R s m args below meth c H locs cells slots mc ms (F0 m pc ls st0) rest (va_Qd post B A1 a) (vx_X px BX AX) free) (hS : va_S A0 H0 H locs) (hA : ∀ q, q < H.size → A1 q → A0 q) (hf : ∀ q, free q → A0 q) (hAX : ∀ q, q < H.size → AX q → A0 q)
    (kx : ∀ (E : String) (ce : Cell) (q9 : Addr) (u : SX) (t : State) (H1 : Heap) (locs1 : List Loc), t.heap = H1 → s.vm.Alike t.vm → px u → BX E u t → H.size ≤ H1.size → (∀ q : Nat, q < H.size → ¬ AX q → H1[q]? = H[q]?) → va_S A0 H0 H1 locs1 → H1[q9]? = some ce → ce.vm = .none → s.vm.findClass E = some ce.cls → vx_W p l e R s m args below meth c H1 locs1 (cells + mc) (slots + ms) Q (F0 m pc ls rest) q9)
    (kk : ∀ (r : UInt64) (u : S) (t : State) (H1 : Heap) (locs1 : List Loc), t.heap = H1 → s.vm.Alike t.vm → post r u → B u t → H.size ≤ H1.size → (∀ q : Nat, q < H.size → ¬ A1 q → H1[q]? = H[q]?) → va_S A0 H0 H1 locs1 → W p l e R s m args below meth c H1 locs1 (cells + mc) (slots + ms) Q (F0 m (pc + 3) ls (.double r :: rest))) : W p l e R s m args below meth c H locs cells slots Q (F0 m pc ls st0) := by
  intro T hT X
  rcases hr T hT X with ⟨v, st₀, t, T', L, h0, X', hL, e1, e2, ⟨⟨r, u, hv, hp, hb⟩, hF⟩, st⟩ | ⟨q, st₀, t, T', L, E, ce, h0, X', hL, e1, e2, ⟨u, hp, hb, hF⟩, hce, hcv, hcl, st⟩
  · cases hv
    obtain ⟨k1, k2, k3⟩ := vx_keep h0 e1 hS hA hf hL hF
    obtain ⟨t2, a1, b1⟩ := kk r u t T'.heap (locs ++ L) e1.symm (by rw [← e2]; exact X'.warmed.alike) hp hb k1 k2 k3 T' rfl X'
    exact ⟨t2, st t2 a1, b1⟩
  · obtain ⟨k1, k2, k3⟩ := vx_keep h0 e1 hS hAX hf hL hF
    obtain ⟨t2, a1, b1⟩ := kx E ce q u t T'.heap (locs ++ L) e1.symm (by rw [← e2]; exact X'.warmed.alike) hp hb k1 k2 k3 (by rw [e1]; exact hce) hcv hcl T' rfl X'
    exact ⟨t2, st.trans a1, b1⟩
theorem vx_callv {S SX : Type} {post : S → Prop} {px : SX → Prop} {B : S → State → Prop} {BX : String → SX → State → Prop} {AX : Nat → Prop} (hr : vx_Run p l e R s m args below meth c H locs cells slots mc ms (F0 m pc ls st0) rest (va_Qv post B A1 a) (vx_X px BX AX) free) (hS : va_S A0 H0 H locs) (hA : ∀ q, q < H.size → A1 q → A0 q) (hf : ∀ q, free q → A0 q) (hAX : ∀ q, q < H.size → AX q → A0 q)
    (kx : ∀ (E : String) (ce : Cell) (q9 : Addr) (u : SX) (t : State) (H1 : Heap) (locs1 : List Loc), t.heap = H1 → s.vm.Alike t.vm → px u → BX E u t → H.size ≤ H1.size → (∀ q : Nat, q < H.size → ¬ AX q → H1[q]? = H[q]?) → va_S A0 H0 H1 locs1 → H1[q9]? = some ce → ce.vm = .none → s.vm.findClass E = some ce.cls → vx_W p l e R s m args below meth c H1 locs1 (cells + mc) (slots + ms) Q (F0 m pc ls rest) q9)
    (kk : ∀ (u : S) (t : State) (H1 : Heap) (locs1 : List Loc), t.heap = H1 → s.vm.Alike t.vm → post u → B u t → H.size ≤ H1.size → (∀ q : Nat, q < H.size → ¬ A1 q → H1[q]? = H[q]?) → va_S A0 H0 H1 locs1 → W p l e R s m args below meth c H1 locs1 (cells + mc) (slots + ms) Q (F0 m (pc + 3) ls (rest))) : W p l e R s m args below meth c H locs cells slots Q (F0 m pc ls st0) := by
  intro T hT X
  rcases hr T hT X with ⟨v, st₀, t, T', L, h0, X', hL, e1, e2, ⟨⟨u, hv, hp, hb⟩, hF⟩, st⟩ | ⟨q, st₀, t, T', L, E, ce, h0, X', hL, e1, e2, ⟨u, hp, hb, hF⟩, hce, hcv, hcl, st⟩
  · cases hv
    obtain ⟨k1, k2, k3⟩ := vx_keep h0 e1 hS hA hf hL hF
    obtain ⟨t2, a1, b1⟩ := kk u t T'.heap (locs ++ L) e1.symm (by rw [← e2]; exact X'.warmed.alike) hp hb k1 k2 k3 T' rfl X'
    exact ⟨t2, st t2 a1, b1⟩
  · obtain ⟨k1, k2, k3⟩ := vx_keep h0 e1 hS hAX hf hL hF
    obtain ⟨t2, a1, b1⟩ := kx E ce q u t T'.heap (locs ++ L) e1.symm (by rw [← e2]; exact X'.warmed.alike) hp hb k1 k2 k3 (by rw [e1]; exact hce) hcv hcl T' rfl X'
    exact ⟨t2, st.trans a1, b1⟩
end Rows
section Ends
variable {p : Program} {l : Launch} {e : Env} {R : Room} {s : State} {m : MethodId} {args : Array Value} {below : List Frame} {meth : Method} {c : Code} {H : Heap} {locs : List Loc} {cells slots : Nat} {Q : State → Prop}
variable {mc ms : Nat} {free : Addr → Prop} {A0 A1 : Nat → Prop} {H0 : Heap} {a : Array Value} {ls : Array Slot} {st0 rest : List Value}
variable {Qc : Array Value → State → Outcome → State → Prop} {XC : String → State → State → Prop}
def vx_MQ (below : List Frame) (Qc : Array Value → State → Outcome → State → Prop) (XC : String → State → State → Prop) (a : Array Value) (s : State) (mc ms : Nat) (free : Addr → Prop) : State → Prop := fun t =>
  ∃ o, t.status = .running ∧ Ended t below o ∧ vx_Q Qc XC mc ms free a s o t
theorem vx_ret {g : JFrame} {mc ms : Nat} (k : W p l e R s m args below meth c H locs cells slots (MQ below Qc args s mc ms free) g) : W p l e R s m args below meth c H locs cells slots (vx_MQ below Qc XC args s mc ms free) g := by
  intro T hT X
  obtain ⟨t, a1, o, b1, b2, b3, b4⟩ := k T hT X
  exact ⟨t, a1, o, b1, b2, Or.inl ⟨b3, b4⟩⟩
theorem vx_widen {g : JFrame} {q : Addr} {k n : Nat} (h1 : cells ≤ k) (h2 : slots ≤ n) (kk : vx_W p l e R s m args below meth c H locs k n Q g q) : vx_W p l e R s m args below meth c H locs cells slots Q g q := fun T hT X => kk T hT (stand_widen X h1 h2)
theorem vx_out {pc : Nat} {E : String} {ce : Cell} {q : Addr} {mc ms : Nat} (hout : ∀ x ∈ c.exceptionTable.toList, covers x pc = false) (hlocks : meth.locks = false) (hcell : H[q]? = some ce) (hv : ce.vm = .none) (hcl : s.vm.findClass E = some ce.cls)
    (hx : ∀ t : State, t.heap = H → s.vm.Alike t.vm → XC E s t) (hf : ∀ z ∈ locs, free z.base) (hc : cells ≤ mc) (hs : slots ≤ ms) :
    vx_W p l e R s m args below meth c H locs cells slots (vx_MQ below Qc XC args s mc ms free) (F0 m pc ls rest) q := by
  intro T hT X
  obtain ⟨st1, hrun, hend, hW, hsm⟩ := X.leaveThrown q (g := F0 m pc ls rest) rfl rfl rfl hout hlocks
  have hcell9 : (T.setFrames (.throwing q :: below)).heap[q]? = some ce := by
    show T.heap[q]? = some ce
    rw [hT]; exact hcell
  exact ⟨_, st1, .threw q, hrun, hend, Or.inr ⟨q, rfl, E, ce, locs, hx _ hT hW.alike, hcell9, hv, hcl, hW, hsm.mono hc hs, hf⟩⟩
theorem vx_frame {U : State} {k n : Nat} (h : s.sameButNew ({ U with vm := s.vm } : State) locs k n) : s.heap.size ≤ U.heap.size ∧ ∀ q : Nat, q < s.heap.size → (∀ z ∈ locs, z.base ≠ q) → U.heap[q]? = s.heap[q]? := by
  obtain ⟨-, h2, -, -, -, h6⟩ := h
  refine ⟨h2, fun q hq hz => ?_⟩
  obtain ⟨c9, e1, e2, e3, e4⟩ := h6 q _ (Array.getElem?_eq_getElem hq)
  have hs : c9.slots = (s.heap[q]).slots := Array.ext_getElem? fun i => e4 i fun hm => hz _ hm rfl
  have h9 : c9 = s.heap[q] := by
    rw [hs] at e2
    exact e2
  have e5 : U.heap[q]? = some c9 := e1
  rw [e5, h9, Array.getElem?_eq_getElem hq]
def vx_no (w : Cond) : Bool := decide (w ≠ .isRef (.static Bundle.tN "UNASSIGNED_STACK" Bundle.steD)) && decide (w ≠ .isRef (.static Bundle.tN "SUPPRESSED_SENTINEL" Bundle.listD)) && decide (w ≠ .laysStatic Bundle.tN "UNASSIGNED_STACK" Bundle.steD) && decide (w ≠ .laysStatic Bundle.tN "SUPPRESSED_SENTINEL" Bundle.listD)
def vx_at0 (own : String) (ic : Nat) (X : String) (names : List String) : List Cond := (Bundle.ownAtoms0 own ic X names).filter vx_no
def vx_atS (own : String) (ic : Nat) (X : String) (names : List String) : List Cond := (Bundle.ownAtoms own ic X names).filter vx_no
def vx_ot (w : Cond) : Bool := w.onTables || goodWord w
theorem vx_ot_at {args a' : Array Value} {s U : State} {w : Cond} (hW : s.WarmedH U.vm) (hvm : s.vm = U.vm) (hg : vx_ot w = true) (h : w.before args s = true) : w.before a' U = true := by
  simp only [vx_ot, Bool.or_eq_true] at hg
  rcases hg with hg | hg
  · exact va_tabs hg hvm h
  · exact word_at hW (good_of_word hg) h
theorem vx_hat {args : Array Value} {s : State} {L B : List Cond} (h1 : ∀ w ∈ L.filter goodWord, w.before args s = true) (h2 : ∀ w ∈ L.filter (fun w => !goodWord w), w ∈ B) (h3 : ∀ w ∈ B, w.before args s = true) : ∀ w ∈ L, w.before args s = true := by
  intro w hw
  by_cases g : goodWord w = true
  · exact h1 w (List.mem_filter.mpr ⟨hw, g⟩)
  · refine h3 w (h2 w (List.mem_filter.mpr ⟨hw, ?_⟩))
    show (!goodWord w) = true
    cases hgw : goodWord w
    · rfl
    · exact absurd hgw g
theorem vx_c {args : Array Value} {s : State} {w : Cond} {B : List Cond} (h : w.before args s = true) (t : ∀ w ∈ B, w.before args s = true) : ∀ w' ∈ w :: B, w'.before args s = true := fun w' h' => (List.mem_cons.mp h').elim (fun e => by rw [e]; exact h) (t w')
theorem vx_n {args : Array Value} {s : State} : ∀ w ∈ ([] : List Cond), w.before args s = true := fun _ h => nomatch h
theorem vx_own {args : Array Value} {s : State} {L : List Cond} (h1 : ∀ w ∈ L.filter vx_no, w.before args s = true)
    (hU : (Cond.isRef (.static Bundle.tN "UNASSIGNED_STACK" Bundle.steD)).before args s = true) (hN : (Cond.isRef (.static Bundle.tN "SUPPRESSED_SENTINEL" Bundle.listD)).before args s = true)
    (lU : (Cond.laysStatic Bundle.tN "UNASSIGNED_STACK" Bundle.steD).before args s = true) (lN : (Cond.laysStatic Bundle.tN "SUPPRESSED_SENTINEL" Bundle.listD).before args s = true) : ∀ w ∈ L, w.before args s = true := by
  intro w hw
  by_cases e1 : w = .isRef (.static Bundle.tN "UNASSIGNED_STACK" Bundle.steD)
  · rw [e1]; exact hU
  · by_cases e2 : w = .isRef (.static Bundle.tN "SUPPRESSED_SENTINEL" Bundle.listD)
    · rw [e2]; exact hN
    · by_cases e3 : w = .laysStatic Bundle.tN "UNASSIGNED_STACK" Bundle.steD
      · rw [e3]; exact lU
      · by_cases e4 : w = .laysStatic Bundle.tN "SUPPRESSED_SENTINEL" Bundle.listD
        · rw [e4]; exact lN
        · exact h1 w (List.mem_filter.mpr ⟨hw, by unfold vx_no; rw [decide_eq_true e1, decide_eq_true e2, decide_eq_true e3, decide_eq_true e4]; rfl⟩)
def vx_L (C n d : String) (A : Nat → Prop) (U : State) (H : Heap) : Prop := ∃ (c : ClassId) (k : Class) (i : Nat) (f : Field) (a : Nat) (cell : Cell), U.vm.findClass C = some c ∧ U.fieldFound? C n d = some (c, k, i, f) ∧ f.isStatic = true ∧ k.statics = some a ∧ H[a]? = some cell ∧ cell.vm.isStatics = true ∧ cell.cls = c ∧ f.slot < cell.slots.size ∧ k.staticTypes[f.slot]? = some f.type ∧ ¬ A a
theorem vx_L.moved {C n d : String} {A : Nat → Prop} {u U : State} {H : Heap} (hvm : u.vm.Alike U.vm) (h : vx_L C n d A u H) : vx_L C n d A U H := by
  obtain ⟨c, k, i, f, a, cell, h1, h2, h3, h4, h5, h6, h7, h8, h9, h10⟩ := h
  obtain ⟨k', hi', he⟩ := State.fieldFound?_setVm hvm h2
  exact ⟨c, k', i, f, a, cell, by rw [hvm.findClass]; exact h1, hi', h3, by rw [he]; exact h4, h5, h6, h7, h8, by rw [he]; exact h9, h10⟩
theorem vx_L.kept {C n d : String} {A : Nat → Prop} {U : State} {H H1 : Heap} (h : vx_L C n d A U H) (hq : ∀ a : Nat, a < H.size → ¬ A a → H1[a]? = H[a]?) : vx_L C n d A U H1 := by
  obtain ⟨c, k, i, f, a, cell, h1, h2, h3, h4, h5, h6, h7, h8, h9, h10⟩ := h
  exact ⟨c, k, i, f, a, cell, h1, h2, h3, h4, by rw [hq a (Array.getElem?_eq_some_iff.mp h5).1 h10]; exact h5, h6, h7, h8, h9, h10⟩
theorem vx_L.narrow {C n d : String} {A B : Nat → Prop} {U : State} {H : Heap} (h : vx_L C n d A U H) (hAB : ∀ q, B q → A q) : vx_L C n d B U H := by
  obtain ⟨c, k, i, f, a, cell, h1, h2, h3, h4, h5, h6, h7, h8, h9, h10⟩ := h
  exact ⟨c, k, i, f, a, cell, h1, h2, h3, h4, h5, h6, h7, h8, h9, fun z => h10 (hAB _ z)⟩
theorem vx_L.word {C n d : String} {A : Nat → Prop} {s : State} {args : Array Value} (h : vx_L C n d A s s.heap) : (Cond.laysStatic C n d).before args s = true := by
  obtain ⟨c, k, i, f, a, cell, h1, h2, h3, h4, h5, h6, h7, h8, h9, -⟩ := h
  show (Cond.laysStatic C n d).holds args s none s [] = true
  exact Cond.laysStatic_of h1 h2 h3 h4 h5 h6 h7 h8 h9
def vx_Zq (C n d : String) (A : Nat → Prop) (U : State) (H : Heap) : Prop := va_Zq C n d A U H ∧ vx_L C n d A U H
theorem vx_Zq.moved {C n d : String} {A : Nat → Prop} {u U : State} {H : Heap} (hvm : u.vm.Alike U.vm) (h : vx_Zq C n d A u H) : vx_Zq C n d A U H := ⟨va_Zq.moved hvm h.1, vx_L.moved hvm h.2⟩
theorem vx_Zq.kept {C n d : String} {A : Nat → Prop} {U : State} {H H1 : Heap} (h : vx_Zq C n d A U H) (hq : ∀ a : Nat, a < H.size → ¬ A a → H1[a]? = H[a]?) : vx_Zq C n d A U H1 := ⟨va_Zq.kept h.1 hq, vx_L.kept h.2 hq⟩
theorem vx_Zq.narrow {C n d : String} {A B : Nat → Prop} {U : State} {H : Heap} (h : vx_Zq C n d A U H) (hAB : ∀ q, B q → A q) : vx_Zq C n d B U H := ⟨va_Zq.narrow h.1 hAB, vx_L.narrow h.2 hAB⟩
theorem vx_Zqof {args : Array Value} {s : State} {C n d : String} {A : Nat → Prop} (hl : (Cond.laysStatic C n d).before args s = true) (hini : (Cond.initialized C).before args s = true) (h : (Cond.isRef (.static C n d)).before args s = true) (hA : ∀ a : Nat, a < s.heap.size → ¬ A a) : vx_Zq C n d A s s.heap := by
  refine ⟨va_Zqof hl hini h hA, ?_⟩
  obtain ⟨c, k, i, f, a, cell, h1, h2, h3, h4, h5, h6, h7, h8, h9⟩ := Cond.laysStatic_spec hl
  exact ⟨c, k, i, f, a, cell, h1, h2, h3, h4, h5, h6, h7, h8, h9, hA a (Array.getElem?_eq_some_iff.mp h5).1⟩
theorem vx_isRef {C n d : String} {v : Value} {A : Nat → Prop} {s : State} {args : Array Value} (h : va_Z C n d v A s s.heap) (hv : v.isRef = true) : (Cond.isRef (.static C n d)).before args s = true := by
  obtain ⟨cf, kf, fi, f, a, cell, h1, h2, h3, h4, h5, h6, h7, -⟩ := h
  have he : (Term.static C n d).eval args s none [] s = some v := by
    simp [Term.eval, State.fieldNamed?, h1, h2, h4, h5, h6, h7]
  simp only [Cond.before, Cond.holds, Cond.value, he]
  cases v <;> simp_all [Value.isRef]
theorem vx_isRefq {C n d : String} {A : Nat → Prop} {s : State} {args : Array Value} (h : va_Zq C n d A s s.heap) : (Cond.isRef (.static C n d)).before args s = true := by
  rcases h with h | ⟨t, h⟩
  · exact vx_isRef h rfl
  · exact vx_isRef h rfl
theorem vx_rebase {T : State} (X : Stand p l e R s m args below meth c T locs cells slots) {R' : Room} (hf : R'.frames ≤ R.frames) (hl : R'.locals ≤ R.locals) (hc : cells + R'.cells ≤ R.cells) (hs : slots + R'.slots ≤ R.slots) :
    Stand p l e R' ((T.setVm s.vm).setFrames (.invoking m args :: below)) m args below meth c T [] 0 0 := by
  have htop : (T.setVm s.vm).topJava?.isSome := X.here.top
  have hF : ((T.setVm s.vm).setFrames (.invoking m args :: below)).frames = .invoking m args :: below := State.frames_setFrames _ (State.cur_lt_of_top htop)
  obtain ⟨g₀, hg0⟩ := Option.isSome_iff_exists.mp htop
  obtain ⟨r, hr⟩ := State.topJava?_eq_some.mp hg0
  have hl9 : e.platform.stackLimits (T.setVm s.vm).me = e.platform.stackLimits s.me := X.limits
  have hb9 : (T.setVm s.vm).me.stackBytes = s.me.stackBytes := X.bytes
  refine ⟨X.admits, X.cas, X.clock, hF, ?_, X.hears, X.method, X.code, X.here, X.tail, X.warmed, ?_, ?_, ?_⟩
  · have h := X.room
    have hU : ((T.setVm s.vm).setFrames (.invoking m args :: below)).localsInUse = s.localsInUse := by
      rw [State.localsInUse_invoking hF (meth := meth) (c := c) X.method X.code, State.localsInUse_invoking X.frames X.method X.code]
    simp only [State.hasRoom, Bool.and_eq_true, decide_eq_true_eq] at h ⊢
    obtain ⟨⟨⟨⟨h1, h2, h3, h4, h5, h6⟩, h7⟩, h8⟩, h9⟩ := h
    rw [X.frames, List.length_cons] at h2 h3
    have q1 := X.heapSize
    have q2 := X.used
    simp only [hF, hU, List.length_cons, State.stackLimits_setFrames, State.stackBytes_setFrames, hl9, hb9]
    refine ⟨⟨⟨⟨by omega, by omega, by omega, by omega, by omega, h6⟩, ?_⟩, ?_⟩, X.book⟩
    · show T.heap.size + R'.cells ≤ e.platform.maxCells
      omega
    · show T.slotsUsed + R'.slots ≤ e.platform.maxSlots
      omega
  · rw [State.stackLimits_setFrames]; rfl
  · rw [State.stackBytes_setFrames]; rfl
  · refine ⟨?_, Nat.le_refl _, Nat.le_refl _, ?_, ?_, fun a c9 h9 => ⟨c9, h9, rfl, rfl, fun _ _ => rfl⟩⟩
    · obtain ⟨t, ht, -⟩ := State.frames_cons hr
      show T.setVm s.vm = { ((T.setVm s.vm).setFrames (.invoking m args :: below)).setFrames (T.setVm s.vm).frames with heap := T.heap, slotsUsed := T.slotsUsed }
      rw [State.setFrames_setFrames, State.setFrames_self ht]
      rfl
    · show T.slotsUsed = T.slotsUsed + ((T.heap.toList.drop T.heap.size).map (·.slots.size)).sum
      rw [List.drop_eq_nil_of_le (Nat.le_of_eq Array.length_toList)]
      rfl
    · show ((T.heap.toList.drop T.heap.size).map (·.slots.size)).sum ≤ 0
      rw [List.drop_eq_nil_of_le (Nat.le_of_eq Array.length_toList)]
      exact Nat.le_refl _
theorem vx_throw0 {cc : ByteArray} {pc : Nat} (hexec : p.tables.exec = Jvm.exec) (hb : c.code = cc) (hl : l.stackTraces = false) {own cls : String} {names : List String} {ik ic mc ms : Nat} {A : Nat → Prop}
    (hown : s.vm.findClass own = some m.cls) (hcls : Bundle.fit cls = true) (hnames : ∀ n ∈ names, Bundle.fit n = true)
    (hk : (Cond.classLink own ik cls).before args s = true) (hini : (Cond.initialized cls).before args s = true) (hat : ∀ w ∈ vx_at0 own ic cls names, w.before args s = true)
    (hgood : ∀ w ∈ Cond.classLink own ik cls :: Cond.initialized cls :: vx_at0 own ic cls names, vx_ot w = true)
    (hU : vx_Zq Bundle.tN "UNASSIGNED_STACK" Bundle.steD A s s.heap) (hN : vx_Zq Bundle.tN "SUPPRESSED_SENTINEL" Bundle.listD A s s.heap) (hS : va_S A s.heap H locs) (hsize : ls.size = c.maxLocals)
    (d0 : decode cc pc = .ok (.new ik, 3)) (d3 : decode cc (pc + 3) = .ok (.dup, 1)) (d4 : decode cc (pc + 4) = .ok (.invokespecial ic, 3)) (d7 : decode cc (pc + 7) = .ok (.athrow, 1))
    (hout : ∀ x ∈ c.exceptionTable.toList, covers x (pc + 7) = false)
    (hRframes : names.length + 3 < R.frames) (hRlocals : (rest.map fun v => v.category).sum + (13 * (names.length + 1) + 42) ≤ R.locals) (hRcells : cells + 1 ≤ R.cells) (hRslots : slots + 6 ≤ R.slots) (hlocks : meth.locks = false)
    (hx : ∀ t : State, s.vm.Alike t.vm → H.size ≤ t.heap.size → (∀ q : Nat, q < H.size → t.heap[q]? = H[q]?) → XC cls s t)
    (hf : ∀ z ∈ locs, free z.base) (hc : cells + 1 ≤ mc) (hs : slots + 6 ≤ ms) :
    W p l e R s m args below meth c H locs cells slots (vx_MQ below Qc XC args s mc ms free) (F0 m pc ls rest) := by
  intro T hT X
  have htr : e.platform.stackTraces = false := (show e.platform.stackTraces = l.stackTraces by rw [X.admits.platform]).trans hl
  have Y := vx_rebase X (R' := { frames := R.frames, locals := R.locals, cells := 1, slots := 6 }) (Nat.le_refl _) (Nat.le_refl _) hRcells hRslots
  obtain ⟨s', hA⟩ : ∃ z, z = (T.setVm s.vm).setFrames (.invoking m args :: below) := ⟨_, rfl⟩
  rw [← hA] at Y
  have hvm : s'.vm = s.vm := by rw [hA]; rfl
  have hhp : s'.heap = H := by rw [hA]; exact hT
  have hW0 : s.WarmedH s'.vm := by rw [hvm]; exact State.WarmedH.refl s
  have hat' : ∀ w ∈ vx_at0 own ic cls names, w.before args s' = true := fun w hw => vx_ot_at hW0 hvm.symm (hgood w (List.mem_cons_of_mem _ (List.mem_cons_of_mem _ hw))) (hat w hw)
  have hk' : (Cond.classLink own ik cls).before args s' = true := vx_ot_at hW0 hvm.symm (hgood _ List.mem_cons_self) hk
  have hini' : (Cond.initialized cls).before args s' = true := vx_ot_at hW0 hvm.symm (hgood _ (List.mem_cons_of_mem _ List.mem_cons_self)) hini
  have hU' : vx_Zq Bundle.tN "UNASSIGNED_STACK" Bundle.steD A s' s'.heap := by rw [hhp]; exact vx_Zq.moved hW0.alike (hU.kept hS.2.1)
  have hN' : vx_Zq Bundle.tN "SUPPRESSED_SENTINEL" Bundle.listD A s' s'.heap := by rw [hhp]; exact vx_Zq.moved hW0.alike (hN.kept hS.2.1)
  have h : ∀ w ∈ Bundle.ownAtoms0 own ic cls names, w.before args s' = true := vx_own hat' (vx_isRefq hU'.1) (vx_isRefq hN'.1) hU'.2.word hN'.2.word
  have hown' : s'.vm.findClass own = some m.cls := by rw [hvm]; exact hown
  have hins : (Cond.instantiable cls 6).before args s' = true := h _ (by simp [Bundle.ownAtoms0])
  obtain ⟨vm₁, cX, kX, hfX, hkX, -, -, X₁, st1⟩ := Y.newCold hexec (own := own) (C := cls) (index := ik) (n := 6) hown' hk' hins hini'
    (g := F0 m pc ls rest) rfl (by rw [hb]; exact d0) (Nat.le_refl _) (Nat.le_refl _)
  generalize hT1 : (T.setVm vm₁).pushCell { cls := cX, slots := kX.instanceTypes.map defaultValue, vm := .none } = T1 at X₁ st1
  have hcat : (Value.ref T.heap.size).category = 1 := rfl
  have hcellA : T1.heap[T.heap.size]? = some (freshCell cX kX) := by rw [← hT1]; exact State.heap_pushCell_size _ _
  have d3' : decode c.code (pc + 3) = .ok (.dup, 1) := by rw [hb]; exact d3
  obtain ⟨U, hsteps, hrun, hend, hW, hsame, ce, hce, hO⟩ := X₁.ctorThrow0 hexec htr (own := own) (cls := cls) (names := names) (ic := ic) hown' hcls hnames h (fun x hx => nomatch hx) hfX hkX hcellA (by rw [hhp, hT]; exact Nat.le_refl _)
    (g := { method := m, pc := pc + 4, locals := ls, stack := .ref T.heap.size :: .ref T.heap.size :: rest, locked := none }) rfl hsize rfl rfl (rest := rest) rfl
    (by rw [hb]; exact d4) (by rw [hb]; exact d7) hout hRframes (by simp only [List.map_cons, List.sum_cons, hcat]; omega) hlocks
  obtain ⟨f1, f2⟩ := vx_frame hsame
  rw [hhp] at f1 f2
  have hWs : s.WarmedH U.vm := State.WarmedH.trans hW0 hW
  have hcl : s.vm.findClass cls = some ce.cls := by
    have h9 := hO.cls
    rw [hvm] at h9
    exact h9
  have hall : s.sameButNew ({ U with vm := s.vm } : State) locs mc ms := by
    subst hA
    obtain ⟨e1, e2⟩ := hsame
    rw [State.setFrames_setFrames] at e1
    have h2 : (T.setVm s.vm).sameButNew ({ U with vm := s.vm } : State) [] (0 + 1) (0 + 6) := ⟨e1, e2⟩
    have h3 := X.same.trans h2
    rw [List.append_nil] at h3
    exact h3.mono hc hs
  refine ⟨U, ?_, .threw T.heap.size, hrun, hend, Or.inr ⟨T.heap.size, rfl, cls, ce, locs, hx U hWs.alike f1 (fun q hq => f2 q hq (fun z hz => nomatch hz)), hce, hO.vm, hcl, hWs, hall, hf⟩⟩
  refine st1 _ ?_
  show Steps p.tables e below (T1.setTop { method := m, pc := pc + 3, locals := ls, stack := .ref T.heap.size :: rest, locked := none }) _
  jvm_step X₁.here [X₁.here.top, hexec, d3', Value.category]
  exact hsteps
theorem vx_throwS {cc : ByteArray} {pc : Nat} (hexec : p.tables.exec = Jvm.exec) (hb : c.code = cc) (hl : l.stackTraces = false) {own cls text : String} {names : List String} {ik is ic mc ms sa : Nat} {A : Nat → Prop}
    (hown : s.vm.findClass own = some m.cls) (hcls : Bundle.fit cls = true) (hnames : ∀ n ∈ names, Bundle.fit n = true)
    (hk : (Cond.classLink own ik cls).before args s = true) (hini : (Cond.initialized cls).before args s = true) (hstr : vk_R own is text sa s) (hat : ∀ w ∈ vx_atS own ic cls names, w.before args s = true)
    (hgood : ∀ w ∈ Cond.classLink own ik cls :: Cond.initialized cls :: vx_atS own ic cls names, vx_ot w = true)
    (hU : vx_Zq Bundle.tN "UNASSIGNED_STACK" Bundle.steD A s s.heap) (hN : vx_Zq Bundle.tN "SUPPRESSED_SENTINEL" Bundle.listD A s s.heap) (hS : va_S A s.heap H locs) (hsize : ls.size = c.maxLocals)
    (d0 : decode cc pc = .ok (.new ik, 3)) (d3 : decode cc (pc + 3) = .ok (.dup, 1)) (d4 : decode cc (pc + 4) = .ok (.ldc is, 2)) (d6 : decode cc (pc + 6) = .ok (.invokespecial ic, 3)) (d9 : decode cc (pc + 9) = .ok (.athrow, 1))
    (hout : ∀ x ∈ c.exceptionTable.toList, covers x (pc + 9) = false)
    (hRframes : names.length + 3 < R.frames) (hRlocals : (rest.map fun v => v.category).sum + (13 * (names.length + 1) + 43) ≤ R.locals) (hRcells : cells + 1 ≤ R.cells) (hRslots : slots + 6 ≤ R.slots) (hlocks : meth.locks = false)
    (hx : ∀ t : State, s.vm.Alike t.vm → H.size ≤ t.heap.size → (∀ q : Nat, q < H.size → t.heap[q]? = H[q]?) → XC cls s t)
    (hf : ∀ z ∈ locs, free z.base) (hc : cells + 1 ≤ mc) (hs : slots + 6 ≤ ms) :
    W p l e R s m args below meth c H locs cells slots (vx_MQ below Qc XC args s mc ms free) (F0 m pc ls rest) := by
  intro T hT X
  have htr : e.platform.stackTraces = false := (show e.platform.stackTraces = l.stackTraces by rw [X.admits.platform]).trans hl
  have Y := vx_rebase X (R' := { frames := R.frames, locals := R.locals, cells := 1, slots := 6 }) (Nat.le_refl _) (Nat.le_refl _) hRcells hRslots
  obtain ⟨s', hA⟩ : ∃ z, z = (T.setVm s.vm).setFrames (.invoking m args :: below) := ⟨_, rfl⟩
  rw [← hA] at Y
  have hvm : s'.vm = s.vm := by rw [hA]; rfl
  have hhp : s'.heap = H := by rw [hA]; exact hT
  have hW0 : s.WarmedH s'.vm := by rw [hvm]; exact State.WarmedH.refl s
  have hat' : ∀ w ∈ vx_atS own ic cls names, w.before args s' = true := fun w hw => vx_ot_at hW0 hvm.symm (hgood w (List.mem_cons_of_mem _ (List.mem_cons_of_mem _ hw))) (hat w hw)
  have hk' : (Cond.classLink own ik cls).before args s' = true := vx_ot_at hW0 hvm.symm (hgood _ List.mem_cons_self) hk
  have hini' : (Cond.initialized cls).before args s' = true := vx_ot_at hW0 hvm.symm (hgood _ (List.mem_cons_of_mem _ List.mem_cons_self)) hini
  have hU' : vx_Zq Bundle.tN "UNASSIGNED_STACK" Bundle.steD A s' s'.heap := by rw [hhp]; exact vx_Zq.moved hW0.alike (hU.kept hS.2.1)
  have hN' : vx_Zq Bundle.tN "SUPPRESSED_SENTINEL" Bundle.listD A s' s'.heap := by rw [hhp]; exact vx_Zq.moved hW0.alike (hN.kept hS.2.1)
  have h : ∀ w ∈ Bundle.ownAtoms own ic cls names, w.before args s' = true := vx_own hat' (vx_isRefq hU'.1) (vx_isRefq hN'.1) hU'.2.word hN'.2.word
  have hown' : s'.vm.findClass own = some m.cls := by rw [hvm]; exact hown
  have hins : (Cond.instantiable cls 6).before args s' = true := h _ (by simp [Bundle.ownAtoms])
  obtain ⟨vm₁, cX, kX, hfX, hkX, -, -, X₁, st1⟩ := Y.newCold hexec (own := own) (C := cls) (index := ik) (n := 6) hown' hk' hins hini'
    (g := F0 m pc ls rest) rfl (by rw [hb]; exact d0) (Nat.le_refl _) (Nat.le_refl _)
  generalize hT1 : (T.setVm vm₁).pushCell { cls := cX, slots := kX.instanceTypes.map defaultValue, vm := .none } = T1 at X₁ st1
  have hcat : (Value.ref T.heap.size).category = 1 := rfl
  have hcellA : T1.heap[T.heap.size]? = some (freshCell cX kX) := by rw [← hT1]; exact State.heap_pushCell_size _ _
  have d3' : decode c.code (pc + 3) = .ok (.dup, 1) := by rw [hb]; exact d3
  have d4' : decode c.code (pc + 4) = .ok (.ldc is, 2) := by rw [hb]; exact d4
  have hstr' : vk_R own is text sa s' := vk_R.warm hW0 hstr
  obtain ⟨U, hsteps, hrun, hend, hW, hsame, ce, hce, hO⟩ := X₁.ctorThrowS hexec htr (own := own) (cls := cls) (names := names) (ic := ic) hown' hcls hnames h (fun x hx => nomatch hx) hfX hkX hcellA (by rw [hhp, hT]; exact Nat.le_refl _) (msg := .ref sa) rfl
    (g := { method := m, pc := pc + 6, locals := ls, stack := .ref sa :: .ref T.heap.size :: .ref T.heap.size :: rest, locked := none }) rfl hsize rfl rfl (rest := rest) rfl
    (by rw [hb]; exact d6) (by rw [hb]; exact d9) hout hRframes (by simp only [List.map_cons, List.sum_cons, hcat]; omega) hlocks
  obtain ⟨f1, f2⟩ := vx_frame hsame
  rw [hhp] at f1 f2
  have hWs : s.WarmedH U.vm := State.WarmedH.trans hW0 hW
  have hcl : s.vm.findClass cls = some ce.cls := by
    have h9 := hO.cls
    rw [hvm] at h9
    exact h9
  have hall : s.sameButNew ({ U with vm := s.vm } : State) locs mc ms := by
    subst hA
    obtain ⟨e1, e2⟩ := hsame
    rw [State.setFrames_setFrames] at e1
    have h2 : (T.setVm s.vm).sameButNew ({ U with vm := s.vm } : State) [] (0 + 1) (0 + 6) := ⟨e1, e2⟩
    have h3 := X.same.trans h2
    rw [List.append_nil] at h3
    exact h3.mono hc hs
  refine ⟨U, ?_, .threw T.heap.size, hrun, hend, Or.inr ⟨T.heap.size, rfl, cls, ce, locs, hx U hWs.alike f1 (fun q hq => f2 q hq (fun z hz => nomatch hz)), hce, hO.vm, hcl, hWs, hall, hf⟩⟩
  refine st1 _ ?_
  show Steps p.tables e below (T1.setTop { method := m, pc := pc + 3, locals := ls, stack := .ref T.heap.size :: rest, locked := none }) _
  jvm_step X₁.here [X₁.here.top, hexec, d3', Value.category]
  exact X₁.ldcString hexec (own := own) (text := text) (index := is) (a := sa) hown' hstr'.1 hstr'.2
    (g := { method := m, pc := pc + 4, locals := ls, stack := .ref T.heap.size :: .ref T.heap.size :: rest, locked := none }) rfl d4' _ hsteps
theorem vx_throwSW {cc : ByteArray} {pc : Nat} (hexec : p.tables.exec = Jvm.exec) (hb : c.code = cc) (hl : l.stackTraces = false) {own cls text : String} {names : List String} {ik is ic mc ms sa : Nat} {A : Nat → Prop}
    (hown : s.vm.findClass own = some m.cls) (hcls : Bundle.fit cls = true) (hnames : ∀ n ∈ names, Bundle.fit n = true)
    (hk : (Cond.classLink own ik cls).before args s = true) (hini : (Cond.initialized cls).before args s = true) (hstr : vk_R own is text sa s) (hat : ∀ w ∈ vx_atS own ic cls names, w.before args s = true)
    (hgood : ∀ w ∈ Cond.classLink own ik cls :: Cond.initialized cls :: vx_atS own ic cls names, vx_ot w = true)
    (hU : vx_Zq Bundle.tN "UNASSIGNED_STACK" Bundle.steD A s s.heap) (hN : vx_Zq Bundle.tN "SUPPRESSED_SENTINEL" Bundle.listD A s s.heap) (hS : va_S A s.heap H locs) (hsize : ls.size = c.maxLocals)
    (d0 : decode cc pc = .ok (.new ik, 3)) (d3 : decode cc (pc + 3) = .ok (.dup, 1)) (d4 : decode cc (pc + 4) = .ok (.ldc_w is, 3)) (d7 : decode cc (pc + 7) = .ok (.invokespecial ic, 3)) (d10 : decode cc (pc + 10) = .ok (.athrow, 1))
    (hout : ∀ x ∈ c.exceptionTable.toList, covers x (pc + 10) = false)
    (hRframes : names.length + 3 < R.frames) (hRlocals : (rest.map fun v => v.category).sum + (13 * (names.length + 1) + 43) ≤ R.locals) (hRcells : cells + 1 ≤ R.cells) (hRslots : slots + 6 ≤ R.slots) (hlocks : meth.locks = false)
    (hx : ∀ t : State, s.vm.Alike t.vm → H.size ≤ t.heap.size → (∀ q : Nat, q < H.size → t.heap[q]? = H[q]?) → XC cls s t)
    (hf : ∀ z ∈ locs, free z.base) (hc : cells + 1 ≤ mc) (hs : slots + 6 ≤ ms) :
    W p l e R s m args below meth c H locs cells slots (vx_MQ below Qc XC args s mc ms free) (F0 m pc ls rest) := by
  intro T hT X
  have htr : e.platform.stackTraces = false := (show e.platform.stackTraces = l.stackTraces by rw [X.admits.platform]).trans hl
  have Y := vx_rebase X (R' := { frames := R.frames, locals := R.locals, cells := 1, slots := 6 }) (Nat.le_refl _) (Nat.le_refl _) hRcells hRslots
  obtain ⟨s', hA⟩ : ∃ z, z = (T.setVm s.vm).setFrames (.invoking m args :: below) := ⟨_, rfl⟩
  rw [← hA] at Y
  have hvm : s'.vm = s.vm := by rw [hA]; rfl
  have hhp : s'.heap = H := by rw [hA]; exact hT
  have hW0 : s.WarmedH s'.vm := by rw [hvm]; exact State.WarmedH.refl s
  have hat' : ∀ w ∈ vx_atS own ic cls names, w.before args s' = true := fun w hw => vx_ot_at hW0 hvm.symm (hgood w (List.mem_cons_of_mem _ (List.mem_cons_of_mem _ hw))) (hat w hw)
  have hk' : (Cond.classLink own ik cls).before args s' = true := vx_ot_at hW0 hvm.symm (hgood _ List.mem_cons_self) hk
  have hini' : (Cond.initialized cls).before args s' = true := vx_ot_at hW0 hvm.symm (hgood _ (List.mem_cons_of_mem _ List.mem_cons_self)) hini
  have hU' : vx_Zq Bundle.tN "UNASSIGNED_STACK" Bundle.steD A s' s'.heap := by rw [hhp]; exact vx_Zq.moved hW0.alike (hU.kept hS.2.1)
  have hN' : vx_Zq Bundle.tN "SUPPRESSED_SENTINEL" Bundle.listD A s' s'.heap := by rw [hhp]; exact vx_Zq.moved hW0.alike (hN.kept hS.2.1)
  have h : ∀ w ∈ Bundle.ownAtoms own ic cls names, w.before args s' = true := vx_own hat' (vx_isRefq hU'.1) (vx_isRefq hN'.1) hU'.2.word hN'.2.word
  have hown' : s'.vm.findClass own = some m.cls := by rw [hvm]; exact hown
  have hins : (Cond.instantiable cls 6).before args s' = true := h _ (by simp [Bundle.ownAtoms])
  obtain ⟨vm₁, cX, kX, hfX, hkX, -, -, X₁, st1⟩ := Y.newCold hexec (own := own) (C := cls) (index := ik) (n := 6) hown' hk' hins hini'
    (g := F0 m pc ls rest) rfl (by rw [hb]; exact d0) (Nat.le_refl _) (Nat.le_refl _)
  generalize hT1 : (T.setVm vm₁).pushCell { cls := cX, slots := kX.instanceTypes.map defaultValue, vm := .none } = T1 at X₁ st1
  have hcat : (Value.ref T.heap.size).category = 1 := rfl
  have hcellA : T1.heap[T.heap.size]? = some (freshCell cX kX) := by rw [← hT1]; exact State.heap_pushCell_size _ _
  have d3' : decode c.code (pc + 3) = .ok (.dup, 1) := by rw [hb]; exact d3
  have d4' : decode c.code (pc + 4) = .ok (.ldc_w is, 3) := by rw [hb]; exact d4
  have hstr' : vk_R own is text sa s' := vk_R.warm hW0 hstr
  obtain ⟨U, hsteps, hrun, hend, hW, hsame, ce, hce, hO⟩ := X₁.ctorThrowS hexec htr (own := own) (cls := cls) (names := names) (ic := ic) hown' hcls hnames h (fun x hx => nomatch hx) hfX hkX hcellA (by rw [hhp, hT]; exact Nat.le_refl _) (msg := .ref sa) rfl
    (g := { method := m, pc := pc + 7, locals := ls, stack := .ref sa :: .ref T.heap.size :: .ref T.heap.size :: rest, locked := none }) rfl hsize rfl rfl (rest := rest) rfl
    (by rw [hb]; exact d7) (by rw [hb]; exact d10) hout hRframes (by simp only [List.map_cons, List.sum_cons, hcat]; omega) hlocks
  obtain ⟨f1, f2⟩ := vx_frame hsame
  rw [hhp] at f1 f2
  have hWs : s.WarmedH U.vm := State.WarmedH.trans hW0 hW
  have hcl : s.vm.findClass cls = some ce.cls := by
    have h9 := hO.cls
    rw [hvm] at h9
    exact h9
  have hall : s.sameButNew ({ U with vm := s.vm } : State) locs mc ms := by
    subst hA
    obtain ⟨e1, e2⟩ := hsame
    rw [State.setFrames_setFrames] at e1
    have h2 : (T.setVm s.vm).sameButNew ({ U with vm := s.vm } : State) [] (0 + 1) (0 + 6) := ⟨e1, e2⟩
    have h3 := X.same.trans h2
    rw [List.append_nil] at h3
    exact h3.mono hc hs
  refine ⟨U, ?_, .threw T.heap.size, hrun, hend, Or.inr ⟨T.heap.size, rfl, cls, ce, locs, hx U hWs.alike f1 (fun q hq => f2 q hq (fun z hz => nomatch hz)), hce, hO.vm, hcl, hWs, hall, hf⟩⟩
  refine st1 _ ?_
  show Steps p.tables e below (T1.setTop { method := m, pc := pc + 3, locals := ls, stack := .ref T.heap.size :: rest, locked := none }) _
  jvm_step X₁.here [X₁.here.top, hexec, d3', Value.category]
  exact X₁.ldcStringW hexec (own := own) (text := text) (index := is) (a := sa) hown' hstr'.1 hstr'.2
    (g := { method := m, pc := pc + 4, locals := ls, stack := .ref T.heap.size :: .ref T.heap.size :: rest, locked := none }) rfl d4' _ hsteps
end Ends
section Bodies
variable {l : Launch}
theorem vx_ofW {y : MethodName} {ws ws' : List Cond} {rm : Room} {Pc : Array Value → State → Prop} {Qc : Array Value → State → Outcome → State → Prop} {XC : String → State → State → Prop} {mc ms : Nat} {free : Addr → Prop} {cc : ByteArray} {maxL : Nat} {ret : Option FieldType}
    (hy : plainName y.cls = true) (hw : ws = Cond.code y cc maxL ret :: ws')
    (body : ∀ p e s m args below meth c s₁, BodyLoose p l y (headSpec ws rm) cc maxL ret e s m args below meth c s₁ → c.maxLocals = maxL → (∀ x ∈ c.exceptionTable.toList, False) → Pc args s →
      W p l e (headSpec ws rm).room s m args below meth c s.heap [] 0 0 (vx_MQ below Qc XC args s mc ms free) (entryFrame m args maxL)) : vx_Met l y ws rm Pc Qc XC mc ms free := by
  refine MetFree.of_bodyS (code := cc) (maxLocals := maxL) (ret := ret) hy ?_ ?_
  · intro args s m h hn
    obtain ⟨meth, c, h1, h2, h3, h4, h5, h6, -, -⟩ := Cond.code_spec hn (atoms_spec (ws := ws) h _ (by rw [hw]; exact List.mem_cons_self))
    exact ⟨meth, c, h1, h2, h3, h4, h5, h6⟩
  · intro p e s m args below meth c s₁ B hml hP _
    have hh0 : s₁.heap = s.heap := by rw [B.state]; rfl
    have ht : ∀ x ∈ c.exceptionTable.toList, False := by
      obtain ⟨meth9, c9, h1, h2, -, -, -, -, h7, -⟩ := Cond.code_spec B.named (atoms_spec (ws := ws) B.pre _ (by rw [hw]; exact List.mem_cons_self))
      cases Option.some.inj (h1.symm.trans B.method)
      cases Option.some.inj (h2.symm.trans (Stand.of_body B).code)
      intro x hx
      rw [Array.isEmpty_iff.mp h7] at hx
      cases hx
    obtain ⟨t, a1, o, b1, b2, b3⟩ := body p e s m args below meth c s₁ B hml ht hP s₁ hh0 (Stand.of_body B)
    exact ⟨t, o, a1, b1, b2, b3⟩
theorem vx_table {p : Program} {x y : MethodName} {S : Spec} {cc bytes : ByteArray} {maxL maxL' : Nat} {ret ret' : Option FieldType} {e : Env} {s s₁ : State} {m : MethodId} {args : Array Value} {below : List Frame} {meth : Method} {c : Code} {hh : List (Nat × Nat × Nat × Nat)}
    (B : BodyLoose p l y S cc maxL ret e s m args below meth c s₁) (h : (Cond.codeWith y bytes maxL' ret' hh).before args s = true) : c.exceptionTable.toList = tableOf hh := by
  obtain ⟨m9, meth9, c9, hn9, h1, h2, -, -, h6, -⟩ := Cond.codeWith_spec h
  cases Option.some.inj (hn9.symm.trans B.named)
  cases Option.some.inj (h1.symm.trans B.method)
  cases Option.some.inj (h2.symm.trans (Stand.of_body B).code)
  rw [← h6, table_eq]
end Bodies
end VXA
section VXS
variable {p : Program} {l : Launch} {e : Env} {R : Room} {s : State} {m : MethodId} {args : Array Value} {below : List Frame} {meth : Method} {c : Code} {T : State} {H : Heap} {locs : List Loc} {cells slots : Nat}
abbrev vx_CSW (R : Room) (s : State) (args : Array Value) (own : String) (index : Nat) (y : MethodName) (bytes : ByteArray) (maxL : Nat) (ret : Option FieldType) (hh : List (Nat × Nat × Nat × Nat)) (ws : List Cond) (rm : Room) (mc ms n : Nat) : Prop :=
  (rm.cells = mc ∧ rm.slots = ms ∧ rm.frames + 1 ≤ R.frames ∧ 8 + (maxL + 11) + rm.locals ≤ R.locals ∧ (∀ w ∈ ws, ∀ (a' : Array Value) (U : State), s.WarmedH U.vm → w.before a' U = true) ∧ Cond.codeWith y bytes maxL ret hh ∈ ws) ∧
  (Cond.codeWith y bytes maxL ret hh).before args s = true ∧ (Cond.initialized y.cls).before args s = true ∧ (y.cls ≠ "java/lang/invoke/MethodHandle" ∧ y.cls ≠ "java/lang/invoke/VarHandle") ∧
  (∀ sig, parseMethodDescriptor y.desc = some sig → n = sig.parameters.length) ∧ (Cond.methodLink own index y).before args s = true ∧ (Cond.static y).before args s = true
theorem vx_cwSW {own : String} {index maxL mc ms : Nat} {y : MethodName} {bytes : ByteArray} {ret : Option FieldType} {hh : List (Nat × Nat × Nat × Nat)} {Ts ws ws' : List Cond} {rm : Room} (n : Nat) (ht : ∀ w ∈ Ts, w.before args s = true) (hT : GoodIn Ts (va_wsS own index y ws)) (hw : ws = Cond.codeWith y bytes maxL ret hh :: ws') (hrc : rm.cells = mc) (hrs : rm.slots = ms)
    (hd : y.cls ≠ "java/lang/invoke/MethodHandle" ∧ y.cls ≠ "java/lang/invoke/VarHandle" ∧ (parseMethodDescriptor y.desc).map (fun d => d.parameters.length) = some n) (hR : rm.frames + 1 ≤ R.frames ∧ 8 + (maxL + 11) + rm.locals ≤ R.locals) :
    vx_CSW R s args own index y bytes maxL ret hh ws rm mc ms n := by
  have ok : ∀ w ∈ va_wsS own index y ws, w.before args s = true := fun w h => ht w (hT w h).1
  have hG : GoodIn Ts ws := fun w h => hT w (by unfold va_wsS; exact List.mem_append_right _ h)
  have hc : Cond.codeWith y bytes maxL ret hh ∈ ws := by rw [hw]; exact List.mem_cons_self
  refine ⟨⟨hrc, hrs, hR.1, hR.2, pay_in ht hG, hc⟩, ht _ (hG _ hc).1, ok _ (by simp [va_wsS]), ⟨hd.1, hd.2.1⟩, fun sig h => ?_, ok _ (by simp [va_wsS]), ok _ (by simp [va_wsS])⟩
  have h2 := hd.2.2
  rw [h] at h2
  exact (Option.some.inj h2).symm
theorem vx_callSW (X : Stand p l e R s m args below meth c T locs cells slots) (hexec : p.tables.exec = Jvm.exec) {own : String} {index : Nat} {y : MethodName} {bytes : ByteArray} {maxL : Nat} {ret : Option FieldType} {hh : List (Nat × Nat × Nat × Nat)}
    (hown : s.vm.findClass own = some m.cls) (hlink : (Cond.methodLink own index y).before args s = true) (hstat : (Cond.static y).before args s = true) (hinit : (Cond.initialized y.cls).before args s = true)
    (hcode : (Cond.codeWith y bytes maxL ret hh).before args s = true) (hy : y.cls ≠ "java/lang/invoke/MethodHandle" ∧ y.cls ≠ "java/lang/invoke/VarHandle")
    {W9 : Nat} {Pre : Pt → Array Value → Prop} {Post : Pt → Array Value → Option Value → Pt → Prop} (hK : Back l R p e below s args y 3 W9 Pre Post)
    {g : JFrame} (hg : g.method = m) (hsize : g.locals.size = c.maxLocals) {argsL rest : List Value} (hlen : ∀ sig, parseMethodDescriptor y.desc = some sig → argsL.length = sig.parameters.length)
    (hstack : g.stack = argsL.reverse ++ rest) (hW : 2 * g.monitorRoom + (rest.map fun v => v.category).sum ≤ W9) (hdg : decode c.code g.pc = .ok (.invokestatic index, 3))
    (hpre : ∀ vm₁, s.WarmedH vm₁ → Pre ⟨T.setVm vm₁, locs, cells, slots⟩ argsL.toArray) :
    ∃ (v : Option Value) (vm₁ : Vm) (B : Pt), s.WarmedH vm₁ ∧ Stand p l e R s m args below meth c B.U B.locs B.cells B.slots ∧ Post ⟨T.setVm vm₁, locs, cells, slots⟩ argsL.toArray v B ∧
      ∀ target, Steps p.tables e below (B.U.setTop { g with pc := g.pc + 3, stack := v.toList ++ rest }) target → Steps p.tables e below (T.setTop g) target := by
  obtain ⟨mk, methM, cM, hnamed, hmethM, -, -, -, -, -, -, hsigM⟩ := Cond.codeWith_spec hcode
  have hstatic : methM.isStatic = true := Cond.static_spec hnamed hmethM hstat
  obtain ⟨kP, hkP, -⟩ := className_of_methodNamed hnamed
  have hinitP : kP.init = .initialized := Cond.initialized_spec (findClass_of_methodNamed hnamed) hkP hinit
  obtain ⟨vm₁, X₁, hstep₁⟩ := X.invokestatic hexec hown hlink hnamed hmethM hstatic hkP hinitP hy (g := g) hg (argsL := argsL) (rest := rest) (hlen _ hsigM) hstack hdg
  obtain ⟨v, B, X', hpost, hsteps⟩ := hK m meth c ⟨T.setVm vm₁, locs, cells, slots⟩ { g with stack := rest } (.invokestatic index) mk argsL.toArray X₁ hg hsize hdg hW (X₁.named hnamed) (hpre vm₁ X₁.warmed)
  exact ⟨v, vm₁, B, X₁.warmed, X', hpost, fun target h => hstep₁ _ fun acts => by rw [doInvoke_state]; exact hsteps.trans h⟩
theorem vx_runSW {y : MethodName} {bytes cc : ByteArray} {maxL nL mc ms n index : Nat} {ret : Option FieldType} {hh : List (Nat × Nat × Nat × Nat)} {ws : List Cond} {rm : Room} {Pc : Array Value → State → Prop} {Qc : Array Value → State → Outcome → State → Prop} {free : Addr → Prop} {Ts : List Cond} {own : String} {As rest : List Value} {g : JFrame}
    (S : CallFix p m c cc nL s args Ts own) (hM : Met l y ws rm Pc Qc mc ms free) (cw : vx_CSW R s args own index y bytes maxL ret hh ws rm mc ms n) (hp : PreS s H Pc As)
    (hg : g.method = m) (hn : As.length = n) (hsize : g.locals.size = nL) (hstack : g.stack = As.reverse ++ rest) (hW : 2 * g.monitorRoom + (rest.map fun v => v.category).sum ≤ 8) (hdg : decode cc g.pc = .ok (.invokestatic index, 3)) (hf : cells + mc ≤ R.cells ∧ slots + ms ≤ R.slots) :
    va_Run p l e R s m args below meth c H locs cells slots mc ms g rest (Qc As.toArray) (free) := by
  obtain ⟨⟨hrc, hrs, hfr, hlo, hws, hcw⟩, hcode, hini, hy, hlen, hl, hstt⟩ := cw
  have hK : Back l R p e below s args y 3 8 (PreOf R mc ms Pc) (PostOf Qc mc ms free) := va_backW (hh := hh) (bytes := bytes) (maxL := maxL) (ret := ret) hM hp.1 hrc hrs hfr hlo hws hcw (fun a' U hW => word_at hW (Or.inl (by first | rfl | simp [Cond.onTables, Cond.keeps, Cond.steady])) hini)
  obtain ⟨hx, hb, hml, ho, -⟩ := S
  intro T hT X
  obtain ⟨v, vm₁, ⟨U', l2, c2, s2⟩, hW₁, X', ⟨g', mk, t, L, e1, e2, hq, h1, hL, h2, h3⟩, st⟩ := vx_callSW X hx (hh := hh) (bytes := bytes) (maxL := maxL) (ret := ret) ho hl hstt hini hcode hy hK hg (hsize.trans hml.symm) (argsL := As) (rest := rest) (fun sig h => hn.trans (hlen sig h)) hstack hW (by rw [hb]; exact hdg)
    (fun vm₁ hW₁ => ⟨hf.1, hf.2, hp.2 (T.setVm vm₁) hT hW₁⟩)
  dsimp only [Pt.U, Pt.locs, Pt.cells, Pt.slots] at X' e1 e2 h1 h2 h3 st
  subst h1; subst h2; subst h3
  exact ⟨v, (T.setVm vm₁).calling g' mk As.toArray, t, U', L, hT, X', hL, e1, e2, hq, st⟩
theorem vx_lt {D : va_G} {cl : List vw_C} {ws : va_W} {H1 : Heap} (h : va_P D cl ws H1) {k : Nat} {q : Nat × va_E} (hk : ws[k]? = some q) : q.1 < H1.size := (h k q hk).lt
end VXS
section VXH
section
variable {l : Launch} {R : Room} {p : Program} {e : Env} {below : List Frame} {s : State} {sargs : Array Value} {y : MethodName} {len W9 : Nat}
theorem vx_backW {ws : List Cond} {rm : Room} {Pc : Array Value → State → Prop} {Qc : Array Value → State → Outcome → State → Prop} {XC : String → State → State → Prop} {mc ms : Nat} {free : Addr → Prop} {bytes : ByteArray} {maxL : Nat} {ret : Option FieldType} {hh : List (Nat × Nat × Nat × Nat)}
    (hM : vx_Met l y ws rm Pc Qc XC mc ms free) (hblind : FrameBlind Pc) (hrc : rm.cells = mc) (hrs : rm.slots = ms)
    (hframes : rm.frames + 1 ≤ R.frames) (hlocals : W9 + (maxL + 11) + rm.locals ≤ R.locals)
    (hws : ∀ w ∈ ws, ∀ a' U, s.WarmedH U.vm → w.before a' U = true) (hcode : Cond.codeWith y bytes maxL ret hh ∈ ws) (hinit : ∀ a' U, s.WarmedH U.vm → (Cond.initialized y.cls).before a' U = true) :
    vx_Back l R p e below s sargs y len W9 (PreOf R mc ms Pc) (PostOf Qc mc ms free) (vx_Post XC mc ms free) := by
  intro m meth c A g ig mk a X hg hsize hdg hW hn hp
  have h1 : (headSpec ws rm).pre.before a A.U = true := atoms_intro fun w hw => hws w hw _ _ X.warmed
  have h2 : (Cond.codeWith y bytes maxL ret hh).before a A.U = true := hws _ hcode _ _ X.warmed
  have h3 : (Cond.initialized y.cls).before a A.U = true := hinit _ _ X.warmed
  have h4 : A.cells + (headSpec ws rm).room.cells ≤ R.cells := by rw [show (headSpec ws rm).room.cells = mc from hrc]; exact hp.1
  have h5 : A.slots + (headSpec ws rm).room.slots ≤ R.slots := by rw [show (headSpec ws rm).room.slots = ms from hrs]; exact hp.2.1
  have hPc : Pc a (A.U.calling g mk a) := hblind _ _ _ _ hp.2.2
  obtain ⟨U, Ls, c0, s0⟩ := A
  dsimp only [Pt.U, Pt.locs, Pt.cells, Pt.slots] at h1 h2 h3 h4 h5 X hn hPc ⊢
  obtain ⟨m9, methY, cY, hn9, hmY, hcY, -, hlY, -⟩ := Cond.codeWith_spec h2
  cases Option.some.inj (hn9.symm.trans hn)
  obtain ⟨kY, hkY, -⟩ := className_of_methodNamed hn
  have hinitY : kY.init = .initialized := Cond.initialized_spec (findClass_of_methodNamed hn) hkY h3
  have h : At U g.method c below := by rw [hg]; exact X.here
  have hlocals9 : W9 + (maxL + 11) + (headSpec ws rm).room.locals ≤ R.locals := hlocals
  have happ : (headSpec ws rm).appliesLoose y e.platform (U.calling g mk a) = true :=
    Spec.appliesLoose_calling (g := g) h hdg hn hkY hinitY
      (X.room_calling (g := g) (R' := (headSpec ws rm).room) hsize hmY hcY hframes (by rw [hlY]; omega) h4 h5) h1
  obtain ⟨mid, hmid⟩ := h.above
  have hfr : (U.setTop g).frames = (.java g :: mid) ++ below := by rw [State.frames_setTop' g h.top, hmid]; rfl
  obtain ⟨o, s₂, hsteps, -, hend, hq⟩ := Steps.callFree hM p X.admits X.cas X.clock (acts := []) hfr happ hPc trivial
  have hq' : vx_Q Qc XC mc ms free a (U.calling g mk a) o s₂ := hq
  rw [State.frames_setTop' g h.top] at hend
  obtain ⟨g₀, hg0⟩ := Option.isSome_iff_exists.mp h.top
  obtain ⟨r, hr⟩ := State.topJava?_eq_some.mp hg0
  have hr' : (({ U with heap := s₂.heap, slotsUsed := s₂.slotsUsed } : State).setVm s₂.vm).frames = .java g₀ :: r := hr
  rcases hq' with ⟨hqc, L, hfe, hL⟩ | ⟨q, rfl, E, ce, L, hx, hce, hcv, hcl, hW₂, hsm, hL⟩
  · obtain ⟨⟨v, rfl⟩, hW₂, e2, q2, q3, q4, q5, q6⟩ := id hfe
    have e3 : s₂ = ({ (U.calling g mk a).setFrames s₂.frames with heap := s₂.heap, slotsUsed := s₂.slotsUsed } : State).setVm s₂.vm := by
      have : s₂ = ({ s₂ with vm := (U.calling g mk a).vm } : State).setVm s₂.vm := rfl
      rw [e2] at this
      exact this
    obtain ⟨c₂, i₂, len₂, hc₂, hd₂, hf₂⟩ := hend
    have hW' : U.WarmedH s₂.vm := hW₂
    have hcc : c₂ = c := by
      have h1 : s₂.code? g.method = U.code? g.method := by
        rw [State.code?_eq, State.code?_eq, hW'.alike.method?]
      exact Option.some.inj (hc₂.symm.trans (h1.trans h.code))
    subst hcc
    have hlen : len₂ = len := by rw [hdg] at hd₂; cases hd₂; rfl
    subst hlen
    have hs₂ : s₂ = (({ U with heap := s₂.heap, slotsUsed := s₂.slotsUsed } : State).setVm s₂.vm).setTop { g with pc := g.pc + len₂, stack := v.toList ++ g.stack } := by
      refine e3.trans ?_
      rw [hf₂, State.calling_eq h.top, State.setFrames_setFrames, State.setTop_of_frames _ hr', hr]
      rfl
    have hsame : U.sameButNew ({ U with heap := s₂.heap, slotsUsed := s₂.slotsUsed } : State) L mc ms := by
      refine ⟨?_, q2, q3, q4, q5, q6⟩
      obtain ⟨t, ht, -⟩ := State.frames_cons hr
      show ({ U with heap := s₂.heap, slotsUsed := s₂.slotsUsed } : State) = { U.setFrames U.frames with heap := s₂.heap, slotsUsed := s₂.slotsUsed }
      rw [State.setFrames_self ht]
    subst hg
    refine Or.inl ⟨v, ⟨(({ U with heap := s₂.heap, slotsUsed := s₂.slotsUsed } : State).setVm s₂.vm), Ls ++ L, c0 + mc, s0 + ms⟩,
      ⟨X.admits, X.cas, X.clock, X.frames, X.room, X.hears, X.method, X.code, (X.here.setHeapUsed s₂.heap s₂.slotsUsed).setVm hW'.alike, X.tail, State.WarmedH.trans X.warmed hW', X.limits, X.bytes, X.same.trans (hsame.setVm s.vm)⟩,
      ⟨g, mk, s₂, L, rfl, rfl, hqc, rfl, hL, rfl, rfl⟩, ?_⟩
    show Steps p.tables e below _ ((({ U with heap := s₂.heap, slotsUsed := s₂.slotsUsed } : State).setVm s₂.vm).setTop { g with pc := g.pc + len₂, stack := v.toList ++ g.stack })
    rw [← hs₂]
    exact hsteps
  · obtain ⟨e2, q2, q3, q4, q5, q6⟩ := id hsm
    have e3 : s₂ = ({ (U.calling g mk a).setFrames s₂.frames with heap := s₂.heap, slotsUsed := s₂.slotsUsed } : State).setVm s₂.vm := by
      have : s₂ = ({ s₂ with vm := (U.calling g mk a).vm } : State).setVm s₂.vm := rfl
      rw [e2] at this
      exact this
    have hf₂ : s₂.frames = .throwing q :: .java g :: U.frames.tail := hend
    have hW' : U.WarmedH s₂.vm := hW₂
    have hs₂ : s₂ = ((({ U with heap := s₂.heap, slotsUsed := s₂.slotsUsed } : State).setVm s₂.vm).setTop g).pushFrame (.throwing q) := by
      refine e3.trans ?_
      rw [hf₂, State.calling_eq h.top, State.setFrames_setFrames, State.pushFrame, State.frames_setTop _ hr', State.setTop_of_frames _ hr', State.setFrames_setFrames, hr]
      rfl
    have hsame : U.sameButNew ({ U with heap := s₂.heap, slotsUsed := s₂.slotsUsed } : State) L mc ms := by
      refine ⟨?_, q2, q3, q4, q5, q6⟩
      obtain ⟨t, ht, -⟩ := State.frames_cons hr
      show ({ U with heap := s₂.heap, slotsUsed := s₂.slotsUsed } : State) = { U.setFrames U.frames with heap := s₂.heap, slotsUsed := s₂.slotsUsed }
      rw [State.setFrames_self ht]
    subst hg
    refine Or.inr ⟨q, ⟨(({ U with heap := s₂.heap, slotsUsed := s₂.slotsUsed } : State).setVm s₂.vm), Ls ++ L, c0 + mc, s0 + ms⟩,
      ⟨X.admits, X.cas, X.clock, X.frames, X.room, X.hears, X.method, X.code, (X.here.setHeapUsed s₂.heap s₂.slotsUsed).setVm hW'.alike, X.tail, State.WarmedH.trans X.warmed hW', X.limits, X.bytes, X.same.trans (hsame.setVm s.vm)⟩,
      ⟨g, mk, s₂, L, E, ce, rfl, rfl, hx, hce, hcv, hcl, rfl, hL, rfl, rfl⟩, ?_⟩
    show Steps p.tables e below _ (((({ U with heap := s₂.heap, slotsUsed := s₂.slotsUsed } : State).setVm s₂.vm).setTop g).pushFrame (.throwing q))
    rw [← hs₂]
    exact hsteps
end
variable {p : Program} {l : Launch} {e : Env} {R : Room} {s : State} {m : MethodId} {args : Array Value} {below : List Frame} {meth : Method} {c : Code} {T : State} {H : Heap} {locs : List Loc} {cells slots : Nat}
theorem vx_callVX (X : Stand p l e R s m args below meth c T locs cells slots) (hexec : p.tables.exec = Jvm.exec) {own C : String} {index : Nat} {y : MethodName} {bytes : ByteArray} {maxL : Nat} {ret : Option FieldType} {hh : List (Nat × Nat × Nat × Nat)}
    (hown : s.vm.findClass own = some m.cls) (hlink : (Cond.methodLink own index y).before args s = true) (hinst : (Cond.instanceMethod y).before args s = true) (hsel : (Cond.selects C y y).before args s = true)
    (hcode : (Cond.codeWith y bytes maxL ret hh).before args s = true) (hy : y.cls ≠ "java/lang/invoke/MethodHandle" ∧ y.cls ≠ "java/lang/invoke/VarHandle")
    {W9 : Nat} {Pre : Pt → Array Value → Prop} {Post : Pt → Array Value → Option Value → Pt → Prop} {PostX : Pt → Array Value → Addr → Pt → Prop} (hK : vx_Back l R p e below s args y 3 W9 Pre Post PostX)
    {b : Addr} {cellB : Cell} (hcell : T.heap[b]? = some cellB) (hobj : cellB.vm.isStatics = false) (hcls : s.vm.findClass C = some cellB.cls)
    {g : JFrame} (hg : g.method = m) (hsize : g.locals.size = c.maxLocals) {argsL rest : List Value} (hlen : ∀ sig, parseMethodDescriptor y.desc = some sig → argsL.length = sig.parameters.length)
    (hstack : g.stack = argsL.reverse ++ .ref b :: rest) (hW : 2 * g.monitorRoom + (rest.map fun v => v.category).sum ≤ W9) (hdg : decode c.code g.pc = .ok (.invokevirtual index, 3))
    (hpre : ∀ vm₁, s.WarmedH vm₁ → Pre ⟨T.setVm vm₁, locs, cells, slots⟩ (Value.ref b :: argsL).toArray) :
    (∃ (v : Option Value) (vm₁ : Vm) (B : Pt), s.WarmedH vm₁ ∧ Stand p l e R s m args below meth c B.U B.locs B.cells B.slots ∧ Post ⟨T.setVm vm₁, locs, cells, slots⟩ (Value.ref b :: argsL).toArray v B ∧
      ∀ target, Steps p.tables e below (B.U.setTop { g with pc := g.pc + 3, stack := v.toList ++ rest }) target → Steps p.tables e below (T.setTop g) target) ∨
    (∃ (q : Addr) (vm₁ : Vm) (B : Pt), s.WarmedH vm₁ ∧ Stand p l e R s m args below meth c B.U B.locs B.cells B.slots ∧ PostX ⟨T.setVm vm₁, locs, cells, slots⟩ (Value.ref b :: argsL).toArray q B ∧
      Steps p.tables e below (T.setTop g) ((B.U.setTop { g with stack := rest }).pushFrame (.throwing q))) := by
  obtain ⟨mk, methM, hnamed, hmethM, hstM, habM⟩ := Cond.instanceMethod_spec hinst
  obtain ⟨m8, methM', cM, hn8, hmethM', -, -, -, -, -, -, hsigM⟩ := Cond.codeWith_spec hcode
  cases Option.some.inj (hn8.symm.trans hnamed)
  cases hmethM.symm.trans hmethM'
  obtain ⟨c2, r2, m2, q1, q2, q3, q4, kP, hkP, hkPi⟩ := Cond.selects_spec hsel
  cases hcls.symm.trans q1
  cases (State.methodFound?_of_named hnamed hy).symm.trans q2
  cases hnamed.symm.trans q3
  have hselP : selectMethod e.platform s.vm cellB.cls mk = .method mk := by rw [Launch.admits_selectMethod X.admits]; exact q4
  obtain ⟨vm₁, X₁, hstep₁⟩ := X.invokevirtual hexec hown hlink hnamed hmethM hstM hkP hkPi hy (a := b) (cell := cellB) hcell
    (fun z h => by rw [h] at hobj; cases hobj) hselP hmethM habM hkP hkPi (g := g) hg (argsL := argsL) (rest := rest) (hlen _ hsigM) hstack hdg
  rcases hK m meth c ⟨T.setVm vm₁, locs, cells, slots⟩ { g with stack := rest } (.invokevirtual index) mk (Value.ref b :: argsL).toArray X₁ hg hsize hdg hW (X₁.named hnamed) (hpre vm₁ X₁.warmed) with ⟨v, B, X', hpost, hsteps⟩ | ⟨q, B, X', hpost, hsteps⟩
  · exact Or.inl ⟨v, vm₁, B, X₁.warmed, X', hpost, fun target h => hstep₁ _ fun acts => by rw [doInvoke_state]; exact hsteps.trans h⟩
  · exact Or.inr ⟨q, vm₁, B, X₁.warmed, X', hpost, hstep₁ _ fun acts => by rw [doInvoke_state]; exact hsteps⟩
theorem vx_callSX (X : Stand p l e R s m args below meth c T locs cells slots) (hexec : p.tables.exec = Jvm.exec) {own : String} {index : Nat} {y : MethodName} {bytes : ByteArray} {maxL : Nat} {ret : Option FieldType} {hh : List (Nat × Nat × Nat × Nat)}
    (hown : s.vm.findClass own = some m.cls) (hlink : (Cond.methodLink own index y).before args s = true) (hstat : (Cond.static y).before args s = true) (hinit : (Cond.initialized y.cls).before args s = true)
    (hcode : (Cond.codeWith y bytes maxL ret hh).before args s = true) (hy : y.cls ≠ "java/lang/invoke/MethodHandle" ∧ y.cls ≠ "java/lang/invoke/VarHandle")
    {W9 : Nat} {Pre : Pt → Array Value → Prop} {Post : Pt → Array Value → Option Value → Pt → Prop} {PostX : Pt → Array Value → Addr → Pt → Prop} (hK : vx_Back l R p e below s args y 3 W9 Pre Post PostX)
    {g : JFrame} (hg : g.method = m) (hsize : g.locals.size = c.maxLocals) {argsL rest : List Value} (hlen : ∀ sig, parseMethodDescriptor y.desc = some sig → argsL.length = sig.parameters.length)
    (hstack : g.stack = argsL.reverse ++ rest) (hW : 2 * g.monitorRoom + (rest.map fun v => v.category).sum ≤ W9) (hdg : decode c.code g.pc = .ok (.invokestatic index, 3))
    (hpre : ∀ vm₁, s.WarmedH vm₁ → Pre ⟨T.setVm vm₁, locs, cells, slots⟩ argsL.toArray) :
    (∃ (v : Option Value) (vm₁ : Vm) (B : Pt), s.WarmedH vm₁ ∧ Stand p l e R s m args below meth c B.U B.locs B.cells B.slots ∧ Post ⟨T.setVm vm₁, locs, cells, slots⟩ argsL.toArray v B ∧
      ∀ target, Steps p.tables e below (B.U.setTop { g with pc := g.pc + 3, stack := v.toList ++ rest }) target → Steps p.tables e below (T.setTop g) target) ∨
    (∃ (q : Addr) (vm₁ : Vm) (B : Pt), s.WarmedH vm₁ ∧ Stand p l e R s m args below meth c B.U B.locs B.cells B.slots ∧ PostX ⟨T.setVm vm₁, locs, cells, slots⟩ argsL.toArray q B ∧
      Steps p.tables e below (T.setTop g) ((B.U.setTop { g with stack := rest }).pushFrame (.throwing q))) := by
  obtain ⟨mk, methM, cM, hnamed, hmethM, -, -, -, -, -, -, hsigM⟩ := Cond.codeWith_spec hcode
  have hstatic : methM.isStatic = true := Cond.static_spec hnamed hmethM hstat
  obtain ⟨kP, hkP, -⟩ := className_of_methodNamed hnamed
  have hinitP : kP.init = .initialized := Cond.initialized_spec (findClass_of_methodNamed hnamed) hkP hinit
  obtain ⟨vm₁, X₁, hstep₁⟩ := X.invokestatic hexec hown hlink hnamed hmethM hstatic hkP hinitP hy (g := g) hg (argsL := argsL) (rest := rest) (hlen _ hsigM) hstack hdg
  rcases hK m meth c ⟨T.setVm vm₁, locs, cells, slots⟩ { g with stack := rest } (.invokestatic index) mk argsL.toArray X₁ hg hsize hdg hW (X₁.named hnamed) (hpre vm₁ X₁.warmed) with ⟨v, B, X', hpost, hsteps⟩ | ⟨q, B, X', hpost, hsteps⟩
  · exact Or.inl ⟨v, vm₁, B, X₁.warmed, X', hpost, fun target h => hstep₁ _ fun acts => by rw [doInvoke_state]; exact hsteps.trans h⟩
  · exact Or.inr ⟨q, vm₁, B, X₁.warmed, X', hpost, hstep₁ _ fun acts => by rw [doInvoke_state]; exact hsteps⟩
theorem vx_callVW (X : Stand p l e R s m args below meth c T locs cells slots) (hexec : p.tables.exec = Jvm.exec) {own C : String} {index : Nat} {y : MethodName} {bytes : ByteArray} {maxL : Nat} {ret : Option FieldType} {hh : List (Nat × Nat × Nat × Nat)}
    (hown : s.vm.findClass own = some m.cls) (hlink : (Cond.methodLink own index y).before args s = true) (hinst : (Cond.instanceMethod y).before args s = true) (hsel : (Cond.selects C y y).before args s = true)
    (hcode : (Cond.codeWith y bytes maxL ret hh).before args s = true) (hy : y.cls ≠ "java/lang/invoke/MethodHandle" ∧ y.cls ≠ "java/lang/invoke/VarHandle")
    {W9 : Nat} {Pre : Pt → Array Value → Prop} {Post : Pt → Array Value → Option Value → Pt → Prop} (hK : Back l R p e below s args y 3 W9 Pre Post)
    {b : Addr} {cellB : Cell} (hcell : T.heap[b]? = some cellB) (hobj : cellB.vm.isStatics = false) (hcls : s.vm.findClass C = some cellB.cls)
    {g : JFrame} (hg : g.method = m) (hsize : g.locals.size = c.maxLocals) {argsL rest : List Value} (hlen : ∀ sig, parseMethodDescriptor y.desc = some sig → argsL.length = sig.parameters.length)
    (hstack : g.stack = argsL.reverse ++ .ref b :: rest) (hW : 2 * g.monitorRoom + (rest.map fun v => v.category).sum ≤ W9) (hdg : decode c.code g.pc = .ok (.invokevirtual index, 3))
    (hpre : ∀ vm₁, s.WarmedH vm₁ → Pre ⟨T.setVm vm₁, locs, cells, slots⟩ (Value.ref b :: argsL).toArray) :
    ∃ (v : Option Value) (vm₁ : Vm) (B : Pt), s.WarmedH vm₁ ∧ Stand p l e R s m args below meth c B.U B.locs B.cells B.slots ∧ Post ⟨T.setVm vm₁, locs, cells, slots⟩ (Value.ref b :: argsL).toArray v B ∧
      ∀ target, Steps p.tables e below (B.U.setTop { g with pc := g.pc + 3, stack := v.toList ++ rest }) target → Steps p.tables e below (T.setTop g) target := by
  obtain ⟨mk, methM, hnamed, hmethM, hstM, habM⟩ := Cond.instanceMethod_spec hinst
  obtain ⟨m8, methM', cM, hn8, hmethM', -, -, -, -, -, -, hsigM⟩ := Cond.codeWith_spec hcode
  cases Option.some.inj (hn8.symm.trans hnamed)
  cases hmethM.symm.trans hmethM'
  obtain ⟨c2, r2, m2, q1, q2, q3, q4, kP, hkP, hkPi⟩ := Cond.selects_spec hsel
  cases hcls.symm.trans q1
  cases (State.methodFound?_of_named hnamed hy).symm.trans q2
  cases hnamed.symm.trans q3
  have hselP : selectMethod e.platform s.vm cellB.cls mk = .method mk := by rw [Launch.admits_selectMethod X.admits]; exact q4
  obtain ⟨vm₁, X₁, hstep₁⟩ := X.invokevirtual hexec hown hlink hnamed hmethM hstM hkP hkPi hy (a := b) (cell := cellB) hcell
    (fun z h => by rw [h] at hobj; cases hobj) hselP hmethM habM hkP hkPi (g := g) hg (argsL := argsL) (rest := rest) (hlen _ hsigM) hstack hdg
  obtain ⟨v, B, X', hpost, hsteps⟩ := hK m meth c ⟨T.setVm vm₁, locs, cells, slots⟩ { g with stack := rest } (.invokevirtual index) mk (Value.ref b :: argsL).toArray X₁ hg hsize hdg hW (X₁.named hnamed) (hpre vm₁ X₁.warmed)
  exact ⟨v, vm₁, B, X₁.warmed, X', hpost, fun target h => hstep₁ _ fun acts => by rw [doInvoke_state]; exact hsteps.trans h⟩
abbrev vx_CVW (R : Room) (s : State) (args : Array Value) (own C : String) (index : Nat) (y : MethodName) (bytes : ByteArray) (maxL : Nat) (ret : Option FieldType) (hh : List (Nat × Nat × Nat × Nat)) (ws : List Cond) (rm : Room) (mc ms n : Nat) : Prop :=
  (rm.cells = mc ∧ rm.slots = ms ∧ rm.frames + 1 ≤ R.frames ∧ 8 + (maxL + 11) + rm.locals ≤ R.locals ∧ (∀ w ∈ ws, ∀ (a' : Array Value) (U : State), s.WarmedH U.vm → w.before a' U = true) ∧ Cond.codeWith y bytes maxL ret hh ∈ ws) ∧
  (Cond.codeWith y bytes maxL ret hh).before args s = true ∧ (Cond.initialized y.cls).before args s = true ∧ (y.cls ≠ "java/lang/invoke/MethodHandle" ∧ y.cls ≠ "java/lang/invoke/VarHandle") ∧
  (∀ sig, parseMethodDescriptor y.desc = some sig → n = sig.parameters.length) ∧ (Cond.methodLink own index y).before args s = true ∧ (Cond.instanceMethod y).before args s = true ∧ (Cond.selects C y y).before args s = true
theorem vx_cwVW {own C : String} {index maxL mc ms : Nat} {y : MethodName} {bytes : ByteArray} {ret : Option FieldType} {hh : List (Nat × Nat × Nat × Nat)} {Ts ws ws' : List Cond} {rm : Room} (n : Nat) (ht : ∀ w ∈ Ts, w.before args s = true) (hT : GoodIn Ts (wsV own index C y ws)) (hw : ws = Cond.codeWith y bytes maxL ret hh :: ws') (hrc : rm.cells = mc) (hrs : rm.slots = ms)
    (hd : y.cls = C ∧ y.cls ≠ "java/lang/invoke/MethodHandle" ∧ y.cls ≠ "java/lang/invoke/VarHandle" ∧ (parseMethodDescriptor y.desc).map (fun d => d.parameters.length) = some n) (hR : rm.frames + 1 ≤ R.frames ∧ 8 + (maxL + 11) + rm.locals ≤ R.locals) :
    vx_CVW R s args own C index y bytes maxL ret hh ws rm mc ms n := by
  obtain ⟨hC, hd⟩ := hd
  subst hC
  have ok : ∀ w ∈ wsV own index y.cls y ws, w.before args s = true := fun w h => ht w (hT w h).1
  have hG : GoodIn Ts ws := fun w h => hT w (by unfold wsV; exact List.mem_append_right _ h)
  have hc : Cond.codeWith y bytes maxL ret hh ∈ ws := by rw [hw]; exact List.mem_cons_self
  refine ⟨⟨hrc, hrs, hR.1, hR.2, pay_in ht hG, hc⟩, ht _ (hG _ hc).1, ok _ (by simp [wsV]), ⟨hd.1, hd.2.1⟩, fun sig h => ?_, ok _ (by simp [wsV]), ok _ (by simp [wsV]), ok _ (by simp [wsV])⟩
  have h2 := hd.2.2
  rw [h] at h2
  exact (Option.some.inj h2).symm
theorem vx_runVW {y : MethodName} {bytes cc : ByteArray} {maxL nL mc ms n index : Nat} {ret : Option FieldType} {hh : List (Nat × Nat × Nat × Nat)} {ws : List Cond} {rm : Room} {Pc : Array Value → State → Prop} {Qc : Array Value → State → Outcome → State → Prop} {free : Addr → Prop} {Ts : List Cond} {own C : String} {b : Addr} {As rest : List Value} {g : JFrame}
    (S : CallFix p m c cc nL s args Ts own) (hM : Met l y ws rm Pc Qc mc ms free) (cw : vx_CVW R s args own C index y bytes maxL ret hh ws rm mc ms n) (hp : PreV s H C b Pc As)
    (hg : g.method = m) (hn : As.length = n) (hsize : g.locals.size = nL) (hstack : g.stack = As.reverse ++ .ref b :: rest) (hW : 2 * g.monitorRoom + (rest.map fun v => v.category).sum ≤ 8) (hdg : decode cc g.pc = .ok (.invokevirtual index, 3)) (hf : cells + mc ≤ R.cells ∧ slots + ms ≤ R.slots) :
    va_Run p l e R s m args below meth c H locs cells slots mc ms g rest (Qc (Value.ref b :: As).toArray) free := by
  obtain ⟨⟨hrc, hrs, hfr, hlo, hws, hcw⟩, hcode, hini, hy, hlen, hl, hin, hse⟩ := cw
  have hK : Back l R p e below s args y 3 8 (PreOf R mc ms Pc) (PostOf Qc mc ms free) := va_backW (hh := hh) (bytes := bytes) (maxL := maxL) (ret := ret) hM hp.1 hrc hrs hfr hlo hws hcw (fun a' U hW => word_at hW (Or.inl (by first | rfl | simp [Cond.onTables, Cond.keeps, Cond.steady])) hini)
  obtain ⟨hx, hb, hml, ho, -⟩ := S
  obtain ⟨-, ⟨cellB, hcB, hoB, hclB⟩, hPc⟩ := hp
  intro T hT X
  obtain ⟨v, vm₁, ⟨U', l2, c2, s2⟩, hW₁, X', ⟨g', mk, t, L, e1, e2, hq, h1, hL, h2, h3⟩, st⟩ := vx_callVW X hx (C := C) (hh := hh) (bytes := bytes) (maxL := maxL) (ret := ret) ho hl hin hse hcode hy hK (by rw [hT]; exact hcB) hoB hclB hg (hsize.trans hml.symm) (argsL := As) (rest := rest) (fun sig h => hn.trans (hlen sig h)) hstack hW (by rw [hb]; exact hdg)
    (fun vm₁ hW₁ => ⟨hf.1, hf.2, hPc (T.setVm vm₁) hT hW₁⟩)
  dsimp only [Pt.U, Pt.locs, Pt.cells, Pt.slots] at X' e1 e2 h1 h2 h3 st
  subst h1; subst h2; subst h3
  exact ⟨v, (T.setVm vm₁).calling g' mk (Value.ref b :: As).toArray, t, U', L, hT, X', hL, e1, e2, hq, st⟩
section
variable {y : MethodName} {bytes cc : ByteArray} {maxL nL mc ms n index : Nat} {ret : Option FieldType} {ws : List Cond} {rm : Room} {Pc : Array Value → State → Prop} {Qc : Array Value → State → Outcome → State → Prop} {XC : String → State → State → Prop} {free : Addr → Prop} {Ts : List Cond} {own C : String} {b : Addr} {As rest : List Value} {g : JFrame}
theorem vx_runVX {hh : List (Nat × Nat × Nat × Nat)} (S : CallFix p m c cc nL s args Ts own) (hM : vx_Met l y ws rm Pc Qc XC mc ms free) (cw : vx_CVW R s args own C index y bytes maxL ret hh ws rm mc ms n) (hp : PreV s H C b Pc As)
    (hg : g.method = m) (hn : As.length = n) (hsize : g.locals.size = nL) (hstack : g.stack = As.reverse ++ .ref b :: rest) (hW : 2 * g.monitorRoom + (rest.map fun v => v.category).sum ≤ 8) (hdg : decode cc g.pc = .ok (.invokevirtual index, 3)) (hf : cells + mc ≤ R.cells ∧ slots + ms ≤ R.slots) :
    vx_Run p l e R s m args below meth c H locs cells slots mc ms g rest (Qc (Value.ref b :: As).toArray) XC free := by
  obtain ⟨⟨hrc, hrs, hfr, hlo, hws, hcw⟩, hcode, hini, hy, hlen, hl, hin, hse⟩ := cw
  have hK : vx_Back l R p e below s args y 3 8 (PreOf R mc ms Pc) (PostOf Qc mc ms free) (vx_Post XC mc ms free) := vx_backW (hh := hh) (bytes := bytes) (maxL := maxL) (ret := ret) hM hp.1 hrc hrs hfr hlo hws hcw (fun a' U hW => word_at hW (Or.inl (by first | rfl | simp [Cond.onTables, Cond.keeps, Cond.steady])) hini)
  obtain ⟨hx, hb, hml, ho, -⟩ := S
  obtain ⟨-, ⟨cellB, hcB, hoB, hclB⟩, hPc⟩ := hp
  intro T hT X
  rcases vx_callVX X hx (C := C) (hh := hh) (bytes := bytes) (maxL := maxL) (ret := ret) ho hl hin hse hcode hy hK (by rw [hT]; exact hcB) hoB hclB hg (hsize.trans hml.symm) (argsL := As) (rest := rest) (fun sig h => hn.trans (hlen sig h)) hstack hW (by rw [hb]; exact hdg)
    (fun vm₁ hW₁ => ⟨hf.1, hf.2, hPc (T.setVm vm₁) hT hW₁⟩) with ⟨v, vm₁, ⟨U', l2, c2, s2⟩, hW₁, X', ⟨g', mk, t, L, e1, e2, hq, h1, hL, h2, h3⟩, st⟩ | ⟨q, vm₁, ⟨U', l2, c2, s2⟩, hW₁, X', ⟨g', mk, t, L, E, ce, e1, e2, hq, hce, hcv, hcl, h1, hL, h2, h3⟩, st⟩
  · dsimp only [Pt.U, Pt.locs, Pt.cells, Pt.slots] at X' e1 e2 h1 h2 h3 st
    subst h1; subst h2; subst h3
    exact Or.inl ⟨v, (T.setVm vm₁).calling g' mk (Value.ref b :: As).toArray, t, U', L, hT, X', hL, e1, e2, hq, st⟩
  · dsimp only [Pt.U, Pt.locs, Pt.cells, Pt.slots] at X' e1 e2 h1 h2 h3 st hcl
    subst h1; subst h2; subst h3
    exact Or.inr ⟨q, (T.setVm vm₁).calling g' mk (Value.ref b :: As).toArray, t, U', L, E, ce, hT, X', hL, e1, e2, hq, hce, hcv, vx_cls hW₁ hcl, st⟩
theorem vx_runSX {hh : List (Nat × Nat × Nat × Nat)} (S : CallFix p m c cc nL s args Ts own) (hM : vx_Met l y ws rm Pc Qc XC mc ms free) (cw : vx_CSW R s args own index y bytes maxL ret hh ws rm mc ms n) (hp : PreS s H Pc As)
    (hg : g.method = m) (hn : As.length = n) (hsize : g.locals.size = nL) (hstack : g.stack = As.reverse ++ rest) (hW : 2 * g.monitorRoom + (rest.map fun v => v.category).sum ≤ 8) (hdg : decode cc g.pc = .ok (.invokestatic index, 3)) (hf : cells + mc ≤ R.cells ∧ slots + ms ≤ R.slots) :
    vx_Run p l e R s m args below meth c H locs cells slots mc ms g rest (Qc As.toArray) XC free := by
  obtain ⟨⟨hrc, hrs, hfr, hlo, hws, hcw⟩, hcode, hini, hy, hlen, hl, hstt⟩ := cw
  have hK : vx_Back l R p e below s args y 3 8 (PreOf R mc ms Pc) (PostOf Qc mc ms free) (vx_Post XC mc ms free) := vx_backW (hh := hh) (bytes := bytes) (maxL := maxL) (ret := ret) hM hp.1 hrc hrs hfr hlo hws hcw (fun a' U hW => word_at hW (Or.inl (by first | rfl | simp [Cond.onTables, Cond.keeps, Cond.steady])) hini)
  obtain ⟨hx, hb, hml, ho, -⟩ := S
  intro T hT X
  rcases vx_callSX X hx (hh := hh) (bytes := bytes) (maxL := maxL) (ret := ret) ho hl hstt hini hcode hy hK hg (hsize.trans hml.symm) (argsL := As) (rest := rest) (fun sig h => hn.trans (hlen sig h)) hstack hW (by rw [hb]; exact hdg)
    (fun vm₁ hW₁ => ⟨hf.1, hf.2, hp.2 (T.setVm vm₁) hT hW₁⟩) with ⟨v, vm₁, ⟨U', l2, c2, s2⟩, hW₁, X', ⟨g', mk, t, L, e1, e2, hq, h1, hL, h2, h3⟩, st⟩ | ⟨q, vm₁, ⟨U', l2, c2, s2⟩, hW₁, X', ⟨g', mk, t, L, E, ce, e1, e2, hq, hce, hcv, hcl, h1, hL, h2, h3⟩, st⟩
  · dsimp only [Pt.U, Pt.locs, Pt.cells, Pt.slots] at X' e1 e2 h1 h2 h3 st
    subst h1; subst h2; subst h3
    exact Or.inl ⟨v, (T.setVm vm₁).calling g' mk As.toArray, t, U', L, hT, X', hL, e1, e2, hq, st⟩
  · dsimp only [Pt.U, Pt.locs, Pt.cells, Pt.slots] at X' e1 e2 h1 h2 h3 st hcl
    subst h1; subst h2; subst h3
    exact Or.inr ⟨q, (T.setVm vm₁).calling g' mk As.toArray, t, U', L, E, ce, hT, X', hL, e1, e2, hq, hce, hcv, vx_cls hW₁ hcl, st⟩
end
end VXH
theorem vx_ofWH {l : Launch} {y : MethodName} {ws ws' : List Cond} {rm : Room} {Pc : Array Value → State → Prop} {Qc : Array Value → State → Outcome → State → Prop} {XC : String → State → State → Prop} {mc ms : Nat} {free : Addr → Prop} {cc : ByteArray} {maxL : Nat} {ret : Option FieldType} {hh : List (Nat × Nat × Nat × Nat)}
    (hy : plainName y.cls = true) (hw : ws = Cond.codeWith y cc maxL ret hh :: ws')
    (body : ∀ p e s m args below meth c s₁, BodyLoose p l y (headSpec ws rm) cc maxL ret e s m args below meth c s₁ → c.maxLocals = maxL → Pc args s →
      W p l e (headSpec ws rm).room s m args below meth c s.heap [] 0 0 (vx_MQ below Qc XC args s mc ms free) (entryFrame m args maxL)) : vx_Met l y ws rm Pc Qc XC mc ms free := by
  refine MetFree.of_bodyS (code := cc) (maxLocals := maxL) (ret := ret) hy ?_ ?_
  · intro args s m h hn
    obtain ⟨m9, meth, c, hn9, h1, h2, h3, h4, -, h5, h6, -⟩ := Cond.codeWith_spec (atoms_spec (ws := ws) h _ (by rw [hw]; exact List.mem_cons_self))
    cases hn.symm.trans hn9
    exact ⟨meth, c, h1, h2, h3, h4, h5, h6⟩
  · intro p e s m args below meth c s₁ B hml hP _
    have hh0 : s₁.heap = s.heap := by rw [B.state]; rfl
    obtain ⟨t, a1, o, b1, b2, b3⟩ := body p e s m args below meth c s₁ B hml hP s₁ hh0 (Stand.of_body B)
    exact ⟨t, o, a1, b1, b2, b3⟩

