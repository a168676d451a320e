-- ===== PART A: goes FIRST, ahead of the names: the tables' words, and 'selects' of the private methods out of them =====
/-- a private method of a class that the tables say can be made, by its rows of tables_1 -/
def lw_okq (q : MethodName × Nat) : Prop := (q.1.cls ≠ "java/lang/invoke/MethodHandle" ∧ q.1.cls ≠ "java/lang/invoke/VarHandle") ∧ Cond.instantiable q.1.cls q.2 ∈ tables_1 ∧ Cond.privateMethod q.1 ∈ tables_1 ∧ Cond.instanceMethod q.1 ∈ tables_1
theorem lw_p0 : lw_okq (⟨"WhoCommands", "isBodyInMinute", "(II)Z"⟩, 11) := ⟨⟨by decide +kernel, by decide +kernel⟩, List.mem_of_getElem? (i := 20) (by decide +kernel), List.mem_of_getElem? (i := 325) (by decide +kernel), List.mem_of_getElem? (i := 326) (by decide +kernel)⟩
theorem lw_p1 : lw_okq (⟨"WhoCommands$Facts", "gatherOne", "(LWhoCommands$World;III)V"⟩, 6) := ⟨⟨by decide +kernel, by decide +kernel⟩, List.mem_of_getElem? (i := 165) (by decide +kernel), List.mem_of_getElem? (i := 344) (by decide +kernel), List.mem_of_getElem? (i := 345) (by decide +kernel)⟩
theorem lw_p2 : lw_okq (⟨"WhoCommands$Facts", "gatherList", "(LWhoCommands$World;I)V"⟩, 6) := ⟨⟨by decide +kernel, by decide +kernel⟩, List.mem_of_getElem? (i := 165) (by decide +kernel), List.mem_of_getElem? (i := 370) (by decide +kernel), List.mem_of_getElem? (i := 371) (by decide +kernel)⟩
theorem lw_p3 : lw_okq (⟨"WhoCommands$Facts", "gatherPapers", "(LWhoCommands$World;II)V"⟩, 6) := ⟨⟨by decide +kernel, by decide +kernel⟩, List.mem_of_getElem? (i := 165) (by decide +kernel), List.mem_of_getElem? (i := 374) (by decide +kernel), List.mem_of_getElem? (i := 375) (by decide +kernel)⟩
theorem lw_p4 : lw_okq (⟨"WhoCommands", "putOnTape", "(I)V"⟩, 11) := ⟨⟨by decide +kernel, by decide +kernel⟩, List.mem_of_getElem? (i := 20) (by decide +kernel), List.mem_of_getElem? (i := 411) (by decide +kernel), List.mem_of_getElem? (i := 412) (by decide +kernel)⟩
theorem lw_p5 : lw_okq (⟨"WhoCommands$LawReader", "cutAll", "([II)V"⟩, 14) := ⟨⟨by decide +kernel, by decide +kernel⟩, List.mem_of_getElem? (i := 109) (by decide +kernel), List.mem_of_getElem? (i := 430) (by decide +kernel), List.mem_of_getElem? (i := 431) (by decide +kernel)⟩
theorem lw_p6 : lw_okq (⟨"WhoCommands$LawReader", "cut", "([III)I"⟩, 14) := ⟨⟨by decide +kernel, by decide +kernel⟩, List.mem_of_getElem? (i := 109) (by decide +kernel), List.mem_of_getElem? (i := 434) (by decide +kernel), List.mem_of_getElem? (i := 435) (by decide +kernel)⟩
theorem lw_p7 : lw_okq (⟨"WhoCommands$LawReader", "addToken", "(III)V"⟩, 14) := ⟨⟨by decide +kernel, by decide +kernel⟩, List.mem_of_getElem? (i := 109) (by decide +kernel), List.mem_of_getElem? (i := 493) (by decide +kernel), List.mem_of_getElem? (i := 494) (by decide +kernel)⟩
theorem lw_p8 : lw_okq (⟨"WhoCommands$LawReader", "readClause", "()V"⟩, 14) := ⟨⟨by decide +kernel, by decide +kernel⟩, List.mem_of_getElem? (i := 109) (by decide +kernel), List.mem_of_getElem? (i := 507) (by decide +kernel), List.mem_of_getElem? (i := 508) (by decide +kernel)⟩
theorem lw_p9 : lw_okq (⟨"WhoCommands$LawReader", "kind", "()I"⟩, 14) := ⟨⟨by decide +kernel, by decide +kernel⟩, List.mem_of_getElem? (i := 109) (by decide +kernel), List.mem_of_getElem? (i := 511) (by decide +kernel), List.mem_of_getElem? (i := 512) (by decide +kernel)⟩
theorem lw_p10 : lw_okq (⟨"WhoCommands$LawReader", "fail", "(I)V"⟩, 14) := ⟨⟨by decide +kernel, by decide +kernel⟩, List.mem_of_getElem? (i := 109) (by decide +kernel), List.mem_of_getElem? (i := 515) (by decide +kernel), List.mem_of_getElem? (i := 516) (by decide +kernel)⟩
theorem lw_p11 : lw_okq (⟨"WhoCommands$LawReader", "takeKeyAndIf", "()Z"⟩, 14) := ⟨⟨by decide +kernel, by decide +kernel⟩, List.mem_of_getElem? (i := 109) (by decide +kernel), List.mem_of_getElem? (i := 519) (by decide +kernel), List.mem_of_getElem? (i := 520) (by decide +kernel)⟩
theorem lw_p12 : lw_okq (⟨"WhoCommands$LawReader", "readTest", "(I)V"⟩, 14) := ⟨⟨by decide +kernel, by decide +kernel⟩, List.mem_of_getElem? (i := 109) (by decide +kernel), List.mem_of_getElem? (i := 526) (by decide +kernel), List.mem_of_getElem? (i := 527) (by decide +kernel)⟩
theorem lw_p13 : lw_okq (⟨"WhoCommands$LawReader", "readFact", "(I)V"⟩, 14) := ⟨⟨by decide +kernel, by decide +kernel⟩, List.mem_of_getElem? (i := 109) (by decide +kernel), List.mem_of_getElem? (i := 530) (by decide +kernel), List.mem_of_getElem? (i := 531) (by decide +kernel)⟩
theorem lw_p14 : lw_okq (⟨"WhoCommands$LawReader", "readSum", "()V"⟩, 14) := ⟨⟨by decide +kernel, by decide +kernel⟩, List.mem_of_getElem? (i := 109) (by decide +kernel), List.mem_of_getElem? (i := 534) (by decide +kernel), List.mem_of_getElem? (i := 535) (by decide +kernel)⟩
theorem lw_p15 : lw_okq (⟨"WhoCommands$LawReader", "readValue", "()V"⟩, 14) := ⟨⟨by decide +kernel, by decide +kernel⟩, List.mem_of_getElem? (i := 109) (by decide +kernel), List.mem_of_getElem? (i := 538) (by decide +kernel), List.mem_of_getElem? (i := 539) (by decide +kernel)⟩
def lw_privs_1 : List (MethodName × Nat) := [(⟨"WhoCommands", "isBodyInMinute", "(II)Z"⟩, 11), (⟨"WhoCommands$Facts", "gatherOne", "(LWhoCommands$World;III)V"⟩, 6), (⟨"WhoCommands$Facts", "gatherList", "(LWhoCommands$World;I)V"⟩, 6), (⟨"WhoCommands$Facts", "gatherPapers", "(LWhoCommands$World;II)V"⟩, 6), (⟨"WhoCommands", "putOnTape", "(I)V"⟩, 11), (⟨"WhoCommands$LawReader", "cutAll", "([II)V"⟩, 14), (⟨"WhoCommands$LawReader", "cut", "([III)I"⟩, 14), (⟨"WhoCommands$LawReader", "addToken", "(III)V"⟩, 14), (⟨"WhoCommands$LawReader", "readClause", "()V"⟩, 14), (⟨"WhoCommands$LawReader", "kind", "()I"⟩, 14), (⟨"WhoCommands$LawReader", "fail", "(I)V"⟩, 14), (⟨"WhoCommands$LawReader", "takeKeyAndIf", "()Z"⟩, 14), (⟨"WhoCommands$LawReader", "readTest", "(I)V"⟩, 14), (⟨"WhoCommands$LawReader", "readFact", "(I)V"⟩, 14), (⟨"WhoCommands$LawReader", "readSum", "()V"⟩, 14), (⟨"WhoCommands$LawReader", "readValue", "()V"⟩, 14)]
theorem lw_r1 : ∀ q ∈ lw_privs_1, lw_okq q := List.forall_mem_cons.mpr ⟨lw_p0, List.forall_mem_cons.mpr ⟨lw_p1, List.forall_mem_cons.mpr ⟨lw_p2, List.forall_mem_cons.mpr ⟨lw_p3, List.forall_mem_cons.mpr ⟨lw_p4, List.forall_mem_cons.mpr ⟨lw_p5, List.forall_mem_cons.mpr ⟨lw_p6, List.forall_mem_cons.mpr ⟨lw_p7, List.forall_mem_cons.mpr ⟨lw_p8, List.forall_mem_cons.mpr ⟨lw_p9, List.forall_mem_cons.mpr ⟨lw_p10, List.forall_mem_cons.mpr ⟨lw_p11, List.forall_mem_cons.mpr ⟨lw_p12, List.forall_mem_cons.mpr ⟨lw_p13, List.forall_mem_cons.mpr ⟨lw_p14, List.forall_mem_cons.mpr ⟨lw_p15, fun _ h => absurd h List.not_mem_nil⟩⟩⟩⟩⟩⟩⟩⟩⟩⟩⟩⟩⟩⟩⟩⟩
theorem lw_p16 : lw_okq (⟨"WhoCommands$LawReader", "emit", "(I)V"⟩, 14) := ⟨⟨by decide +kernel, by decide +kernel⟩, List.mem_of_getElem? (i := 109) (by decide +kernel), List.mem_of_getElem? (i := 542) (by decide +kernel), List.mem_of_getElem? (i := 543) (by decide +kernel)⟩
theorem lw_p17 : lw_okq (⟨"WhoCommands$LawReader", "takeSign", "()I"⟩, 14) := ⟨⟨by decide +kernel, by decide +kernel⟩, List.mem_of_getElem? (i := 109) (by decide +kernel), List.mem_of_getElem? (i := 546) (by decide +kernel), List.mem_of_getElem? (i := 547) (by decide +kernel)⟩
theorem lw_p18 : lw_okq (⟨"WhoCommands", "survey", "(II)I"⟩, 11) := ⟨⟨by decide +kernel, by decide +kernel⟩, List.mem_of_getElem? (i := 20) (by decide +kernel), List.mem_of_getElem? (i := 600) (by decide +kernel), List.mem_of_getElem? (i := 601) (by decide +kernel)⟩
theorem lw_p19 : lw_okq (⟨"WhoCommands", "lawOf", "(I)LWhoCommands$Law;"⟩, 11) := ⟨⟨by decide +kernel, by decide +kernel⟩, List.mem_of_getElem? (i := 20) (by decide +kernel), List.mem_of_getElem? (i := 604) (by decide +kernel), List.mem_of_getElem? (i := 605) (by decide +kernel)⟩
theorem lw_p20 : lw_okq (⟨"WhoCommands$Ranking", "insert", "(I)V"⟩, 4) := ⟨⟨by decide +kernel, by decide +kernel⟩, List.mem_of_getElem? (i := 211) (by decide +kernel), List.mem_of_getElem? (i := 639) (by decide +kernel), List.mem_of_getElem? (i := 640) (by decide +kernel)⟩
theorem lw_p21 : lw_okq (⟨"WhoCommands$Knowledge", "witness", "(LWhoCommands$World;I)V"⟩, 5) := ⟨⟨by decide +kernel, by decide +kernel⟩, List.mem_of_getElem? (i := 230) (by decide +kernel), List.mem_of_getElem? (i := 697) (by decide +kernel), List.mem_of_getElem? (i := 698) (by decide +kernel)⟩
theorem lw_p22 : lw_okq (⟨"WhoCommands$Knowledge", "hear", "(LWhoCommands$World;II)V"⟩, 5) := ⟨⟨by decide +kernel, by decide +kernel⟩, List.mem_of_getElem? (i := 230) (by decide +kernel), List.mem_of_getElem? (i := 710) (by decide +kernel), List.mem_of_getElem? (i := 711) (by decide +kernel)⟩
theorem lw_p23 : lw_okq (⟨"WhoCommands", "surveyMinds", "(III)V"⟩, 11) := ⟨⟨by decide +kernel, by decide +kernel⟩, List.mem_of_getElem? (i := 20) (by decide +kernel), List.mem_of_getElem? (i := 727) (by decide +kernel), List.mem_of_getElem? (i := 728) (by decide +kernel)⟩
theorem lw_p24 : lw_okq (⟨"WhoCommands", "wrongAfter", "(I)I"⟩, 11) := ⟨⟨by decide +kernel, by decide +kernel⟩, List.mem_of_getElem? (i := 20) (by decide +kernel), List.mem_of_getElem? (i := 752) (by decide +kernel), List.mem_of_getElem? (i := 753) (by decide +kernel)⟩
theorem lw_p25 : lw_okq (⟨"WhoCommands", "seatOf", "(I)I"⟩, 11) := ⟨⟨by decide +kernel, by decide +kernel⟩, List.mem_of_getElem? (i := 20) (by decide +kernel), List.mem_of_getElem? (i := 765) (by decide +kernel), List.mem_of_getElem? (i := 766) (by decide +kernel)⟩
theorem lw_p26 : lw_okq (⟨"WhoCommands", "isRunning", "(II)Z"⟩, 11) := ⟨⟨by decide +kernel, by decide +kernel⟩, List.mem_of_getElem? (i := 20) (by decide +kernel), List.mem_of_getElem? (i := 773) (by decide +kernel), List.mem_of_getElem? (i := 774) (by decide +kernel)⟩
theorem lw_p27 : lw_okq (⟨"WhoCommands", "bindingOrder", "(II)I"⟩, 11) := ⟨⟨by decide +kernel, by decide +kernel⟩, List.mem_of_getElem? (i := 20) (by decide +kernel), List.mem_of_getElem? (i := 783) (by decide +kernel), List.mem_of_getElem? (i := 784) (by decide +kernel)⟩
theorem lw_p28 : lw_okq (⟨"WhoCommands", "worstFall", "()I"⟩, 11) := ⟨⟨by decide +kernel, by decide +kernel⟩, List.mem_of_getElem? (i := 20) (by decide +kernel), List.mem_of_getElem? (i := 809) (by decide +kernel), List.mem_of_getElem? (i := 810) (by decide +kernel)⟩
theorem lw_p29 : lw_okq (⟨"WhoCommands", "wrongAfterFallOf", "(I)I"⟩, 11) := ⟨⟨by decide +kernel, by decide +kernel⟩, List.mem_of_getElem? (i := 20) (by decide +kernel), List.mem_of_getElem? (i := 813) (by decide +kernel), List.mem_of_getElem? (i := 814) (by decide +kernel)⟩
theorem lw_p30 : lw_okq (⟨"WhoCommandsModel", "isBody", "(I)Z"⟩, 71) := ⟨⟨by decide +kernel, by decide +kernel⟩, List.mem_of_getElem? (i := 877) (by decide +kernel), List.mem_of_getElem? (i := 1102) (by decide +kernel), List.mem_of_getElem? (i := 1103) (by decide +kernel)⟩
theorem lw_p31 : lw_okq (⟨"WhoCommandsModel", "isPerson", "(I)Z"⟩, 71) := ⟨⟨by decide +kernel, by decide +kernel⟩, List.mem_of_getElem? (i := 877) (by decide +kernel), List.mem_of_getElem? (i := 1121) (by decide +kernel), List.mem_of_getElem? (i := 1122) (by decide +kernel)⟩
def lw_privs_2 : List (MethodName × Nat) := [(⟨"WhoCommands$LawReader", "emit", "(I)V"⟩, 14), (⟨"WhoCommands$LawReader", "takeSign", "()I"⟩, 14), (⟨"WhoCommands", "survey", "(II)I"⟩, 11), (⟨"WhoCommands", "lawOf", "(I)LWhoCommands$Law;"⟩, 11), (⟨"WhoCommands$Ranking", "insert", "(I)V"⟩, 4), (⟨"WhoCommands$Knowledge", "witness", "(LWhoCommands$World;I)V"⟩, 5), (⟨"WhoCommands$Knowledge", "hear", "(LWhoCommands$World;II)V"⟩, 5), (⟨"WhoCommands", "surveyMinds", "(III)V"⟩, 11), (⟨"WhoCommands", "wrongAfter", "(I)I"⟩, 11), (⟨"WhoCommands", "seatOf", "(I)I"⟩, 11), (⟨"WhoCommands", "isRunning", "(II)Z"⟩, 11), (⟨"WhoCommands", "bindingOrder", "(II)I"⟩, 11), (⟨"WhoCommands", "worstFall", "()I"⟩, 11), (⟨"WhoCommands", "wrongAfterFallOf", "(I)I"⟩, 11), (⟨"WhoCommandsModel", "isBody", "(I)Z"⟩, 71), (⟨"WhoCommandsModel", "isPerson", "(I)Z"⟩, 71)]
theorem lw_r2 : ∀ q ∈ lw_privs_2, lw_okq q := List.forall_mem_cons.mpr ⟨lw_p16, List.forall_mem_cons.mpr ⟨lw_p17, List.forall_mem_cons.mpr ⟨lw_p18, List.forall_mem_cons.mpr ⟨lw_p19, List.forall_mem_cons.mpr ⟨lw_p20, List.forall_mem_cons.mpr ⟨lw_p21, List.forall_mem_cons.mpr ⟨lw_p22, List.forall_mem_cons.mpr ⟨lw_p23, List.forall_mem_cons.mpr ⟨lw_p24, List.forall_mem_cons.mpr ⟨lw_p25, List.forall_mem_cons.mpr ⟨lw_p26, List.forall_mem_cons.mpr ⟨lw_p27, List.forall_mem_cons.mpr ⟨lw_p28, List.forall_mem_cons.mpr ⟨lw_p29, List.forall_mem_cons.mpr ⟨lw_p30, List.forall_mem_cons.mpr ⟨lw_p31, fun _ h => absurd h List.not_mem_nil⟩⟩⟩⟩⟩⟩⟩⟩⟩⟩⟩⟩⟩⟩⟩⟩
theorem lw_p32 : lw_okq (⟨"WhoCommandsModel", "nearTo", "(III)I"⟩, 71) := ⟨⟨by decide +kernel, by decide +kernel⟩, List.mem_of_getElem? (i := 877) (by decide +kernel), List.mem_of_getElem? (i := 1133) (by decide +kernel), List.mem_of_getElem? (i := 1134) (by decide +kernel)⟩
theorem lw_p33 : lw_okq (⟨"WhoCommandsModel", "placeX", "(II)I"⟩, 71) := ⟨⟨by decide +kernel, by decide +kernel⟩, List.mem_of_getElem? (i := 877) (by decide +kernel), List.mem_of_getElem? (i := 1137) (by decide +kernel), List.mem_of_getElem? (i := 1138) (by decide +kernel)⟩
theorem lw_p34 : lw_okq (⟨"WhoCommandsModel", "stepAt", "(II)I"⟩, 71) := ⟨⟨by decide +kernel, by decide +kernel⟩, List.mem_of_getElem? (i := 877) (by decide +kernel), List.mem_of_getElem? (i := 1141) (by decide +kernel), List.mem_of_getElem? (i := 1142) (by decide +kernel)⟩
theorem lw_p35 : lw_okq (⟨"WhoCommandsModel", "placeY", "(II)I"⟩, 71) := ⟨⟨by decide +kernel, by decide +kernel⟩, List.mem_of_getElem? (i := 877) (by decide +kernel), List.mem_of_getElem? (i := 1148) (by decide +kernel), List.mem_of_getElem? (i := 1149) (by decide +kernel)⟩
theorem lw_p36 : lw_okq (⟨"WhoCommandsModel", "placeIn", "(II)I"⟩, 71) := ⟨⟨by decide +kernel, by decide +kernel⟩, List.mem_of_getElem? (i := 877) (by decide +kernel), List.mem_of_getElem? (i := 1160) (by decide +kernel), List.mem_of_getElem? (i := 1161) (by decide +kernel)⟩
theorem lw_p37 : lw_okq (⟨"WhoCommandsModel", "put", "(I)V"⟩, 71) := ⟨⟨by decide +kernel, by decide +kernel⟩, List.mem_of_getElem? (i := 877) (by decide +kernel), List.mem_of_getElem? (i := 1172) (by decide +kernel), List.mem_of_getElem? (i := 1173) (by decide +kernel)⟩
theorem lw_p38 : lw_okq (⟨"WhoCommandsModel", "clause", "(I)V"⟩, 71) := ⟨⟨by decide +kernel, by decide +kernel⟩, List.mem_of_getElem? (i := 877) (by decide +kernel), List.mem_of_getElem? (i := 1184) (by decide +kernel), List.mem_of_getElem? (i := 1185) (by decide +kernel)⟩
theorem lw_p39 : lw_okq (⟨"WhoCommandsModel", "blanks", "()V"⟩, 71) := ⟨⟨by decide +kernel, by decide +kernel⟩, List.mem_of_getElem? (i := 877) (by decide +kernel), List.mem_of_getElem? (i := 1188) (by decide +kernel), List.mem_of_getElem? (i := 1189) (by decide +kernel)⟩
theorem lw_p40 : lw_okq (⟨"WhoCommandsModel", "sign", "()I"⟩, 71) := ⟨⟨by decide +kernel, by decide +kernel⟩, List.mem_of_getElem? (i := 877) (by decide +kernel), List.mem_of_getElem? (i := 1192) (by decide +kernel), List.mem_of_getElem? (i := 1193) (by decide +kernel)⟩
theorem lw_p41 : lw_okq (⟨"WhoCommandsModel", "stands", "(Ljava/lang/String;)Z"⟩, 71) := ⟨⟨by decide +kernel, by decide +kernel⟩, List.mem_of_getElem? (i := 877) (by decide +kernel), List.mem_of_getElem? (i := 1202) (by decide +kernel), List.mem_of_getElem? (i := 1203) (by decide +kernel)⟩
theorem lw_p42 : lw_okq (⟨"WhoCommandsModel", "fails", "(II)V"⟩, 71) := ⟨⟨by decide +kernel, by decide +kernel⟩, List.mem_of_getElem? (i := 877) (by decide +kernel), List.mem_of_getElem? (i := 1208) (by decide +kernel), List.mem_of_getElem? (i := 1209) (by decide +kernel)⟩
theorem lw_p43 : lw_okq (⟨"WhoCommandsModel", "takes", "(Ljava/lang/String;)Z"⟩, 71) := ⟨⟨by decide +kernel, by decide +kernel⟩, List.mem_of_getElem? (i := 877) (by decide +kernel), List.mem_of_getElem? (i := 1223) (by decide +kernel), List.mem_of_getElem? (i := 1224) (by decide +kernel)⟩
theorem lw_p44 : lw_okq (⟨"WhoCommandsModel", "test", "()V"⟩, 71) := ⟨⟨by decide +kernel, by decide +kernel⟩, List.mem_of_getElem? (i := 877) (by decide +kernel), List.mem_of_getElem? (i := 1227) (by decide +kernel), List.mem_of_getElem? (i := 1228) (by decide +kernel)⟩
theorem lw_p45 : lw_okq (⟨"WhoCommandsModel", "fact", "()Z"⟩, 71) := ⟨⟨by decide +kernel, by decide +kernel⟩, List.mem_of_getElem? (i := 877) (by decide +kernel), List.mem_of_getElem? (i := 1231) (by decide +kernel), List.mem_of_getElem? (i := 1232) (by decide +kernel)⟩
theorem lw_p46 : lw_okq (⟨"WhoCommandsModel", "opens", "(I)V"⟩, 71) := ⟨⟨by decide +kernel, by decide +kernel⟩, List.mem_of_getElem? (i := 877) (by decide +kernel), List.mem_of_getElem? (i := 1236) (by decide +kernel), List.mem_of_getElem? (i := 1237) (by decide +kernel)⟩
theorem lw_p47 : lw_okq (⟨"WhoCommandsModel", "compared", "()V"⟩, 71) := ⟨⟨by decide +kernel, by decide +kernel⟩, List.mem_of_getElem? (i := 877) (by decide +kernel), List.mem_of_getElem? (i := 1240) (by decide +kernel), List.mem_of_getElem? (i := 1241) (by decide +kernel)⟩
def lw_privs_3 : List (MethodName × Nat) := [(⟨"WhoCommandsModel", "nearTo", "(III)I"⟩, 71), (⟨"WhoCommandsModel", "placeX", "(II)I"⟩, 71), (⟨"WhoCommandsModel", "stepAt", "(II)I"⟩, 71), (⟨"WhoCommandsModel", "placeY", "(II)I"⟩, 71), (⟨"WhoCommandsModel", "placeIn", "(II)I"⟩, 71), (⟨"WhoCommandsModel", "put", "(I)V"⟩, 71), (⟨"WhoCommandsModel", "clause", "(I)V"⟩, 71), (⟨"WhoCommandsModel", "blanks", "()V"⟩, 71), (⟨"WhoCommandsModel", "sign", "()I"⟩, 71), (⟨"WhoCommandsModel", "stands", "(Ljava/lang/String;)Z"⟩, 71), (⟨"WhoCommandsModel", "fails", "(II)V"⟩, 71), (⟨"WhoCommandsModel", "takes", "(Ljava/lang/String;)Z"⟩, 71), (⟨"WhoCommandsModel", "test", "()V"⟩, 71), (⟨"WhoCommandsModel", "fact", "()Z"⟩, 71), (⟨"WhoCommandsModel", "opens", "(I)V"⟩, 71), (⟨"WhoCommandsModel", "compared", "()V"⟩, 71)]
theorem lw_r3 : ∀ q ∈ lw_privs_3, lw_okq q := List.forall_mem_cons.mpr ⟨lw_p32, List.forall_mem_cons.mpr ⟨lw_p33, List.forall_mem_cons.mpr ⟨lw_p34, List.forall_mem_cons.mpr ⟨lw_p35, List.forall_mem_cons.mpr ⟨lw_p36, List.forall_mem_cons.mpr ⟨lw_p37, List.forall_mem_cons.mpr ⟨lw_p38, List.forall_mem_cons.mpr ⟨lw_p39, List.forall_mem_cons.mpr ⟨lw_p40, List.forall_mem_cons.mpr ⟨lw_p41, List.forall_mem_cons.mpr ⟨lw_p42, List.forall_mem_cons.mpr ⟨lw_p43, List.forall_mem_cons.mpr ⟨lw_p44, List.forall_mem_cons.mpr ⟨lw_p45, List.forall_mem_cons.mpr ⟨lw_p46, List.forall_mem_cons.mpr ⟨lw_p47, fun _ h => absurd h List.not_mem_nil⟩⟩⟩⟩⟩⟩⟩⟩⟩⟩⟩⟩⟩⟩⟩⟩
theorem lw_p48 : lw_okq (⟨"WhoCommandsModel", "sum", "()V"⟩, 71) := ⟨⟨by decide +kernel, by decide +kernel⟩, List.mem_of_getElem? (i := 877) (by decide +kernel), List.mem_of_getElem? (i := 1244) (by decide +kernel), List.mem_of_getElem? (i := 1245) (by decide +kernel)⟩
theorem lw_p49 : lw_okq (⟨"WhoCommandsModel", "value", "()V"⟩, 71) := ⟨⟨by decide +kernel, by decide +kernel⟩, List.mem_of_getElem? (i := 877) (by decide +kernel), List.mem_of_getElem? (i := 1248) (by decide +kernel), List.mem_of_getElem? (i := 1249) (by decide +kernel)⟩
theorem lw_p50 : lw_okq (⟨"WhoCommandsModel", "isDigit", "()Z"⟩, 71) := ⟨⟨by decide +kernel, by decide +kernel⟩, List.mem_of_getElem? (i := 877) (by decide +kernel), List.mem_of_getElem? (i := 1252) (by decide +kernel), List.mem_of_getElem? (i := 1253) (by decide +kernel)⟩
theorem lw_p51 : lw_okq (⟨"WhoCommandsModel", "digits", "(I)I"⟩, 71) := ⟨⟨by decide +kernel, by decide +kernel⟩, List.mem_of_getElem? (i := 877) (by decide +kernel), List.mem_of_getElem? (i := 1259) (by decide +kernel), List.mem_of_getElem? (i := 1260) (by decide +kernel)⟩
theorem lw_p52 : lw_okq (⟨"WhoCommandsModel", "isCounted", "(I)V"⟩, 71) := ⟨⟨by decide +kernel, by decide +kernel⟩, List.mem_of_getElem? (i := 877) (by decide +kernel), List.mem_of_getElem? (i := 1263) (by decide +kernel), List.mem_of_getElem? (i := 1264) (by decide +kernel)⟩
theorem lw_p53 : lw_okq (⟨"WhoCommandsModel", "entry", "(II)V"⟩, 71) := ⟨⟨by decide +kernel, by decide +kernel⟩, List.mem_of_getElem? (i := 877) (by decide +kernel), List.mem_of_getElem? (i := 1267) (by decide +kernel), List.mem_of_getElem? (i := 1268) (by decide +kernel)⟩
theorem lw_p54 : lw_okq (⟨"WhoCommandsModel", "answers", "(I)V"⟩, 71) := ⟨⟨by decide +kernel, by decide +kernel⟩, List.mem_of_getElem? (i := 877) (by decide +kernel), List.mem_of_getElem? (i := 1281) (by decide +kernel), List.mem_of_getElem? (i := 1282) (by decide +kernel)⟩
theorem lw_p55 : lw_okq (⟨"WhoCommandsModel", "top", "()I"⟩, 71) := ⟨⟨by decide +kernel, by decide +kernel⟩, List.mem_of_getElem? (i := 877) (by decide +kernel), List.mem_of_getElem? (i := 1285) (by decide +kernel), List.mem_of_getElem? (i := 1286) (by decide +kernel)⟩
theorem lw_p56 : lw_okq (⟨"WhoCommandsModel", "asItIs", "(I)V"⟩, 71) := ⟨⟨by decide +kernel, by decide +kernel⟩, List.mem_of_getElem? (i := 877) (by decide +kernel), List.mem_of_getElem? (i := 1300) (by decide +kernel), List.mem_of_getElem? (i := 1301) (by decide +kernel)⟩
theorem lw_p57 : lw_okq (⟨"WhoCommandsModel", "mayOf", "(II)I"⟩, 71) := ⟨⟨by decide +kernel, by decide +kernel⟩, List.mem_of_getElem? (i := 877) (by decide +kernel), List.mem_of_getElem? (i := 1304) (by decide +kernel), List.mem_of_getElem? (i := 1305) (by decide +kernel)⟩
theorem lw_p58 : lw_okq (⟨"WhoCommandsModel", "below", "(II)I"⟩, 71) := ⟨⟨by decide +kernel, by decide +kernel⟩, List.mem_of_getElem? (i := 877) (by decide +kernel), List.mem_of_getElem? (i := 1308) (by decide +kernel), List.mem_of_getElem? (i := 1309) (by decide +kernel)⟩
theorem lw_p59 : lw_okq (⟨"WhoCommandsModel", "works", "(IIII)Z"⟩, 71) := ⟨⟨by decide +kernel, by decide +kernel⟩, List.mem_of_getElem? (i := 877) (by decide +kernel), List.mem_of_getElem? (i := 1312) (by decide +kernel), List.mem_of_getElem? (i := 1313) (by decide +kernel)⟩
theorem lw_p60 : lw_okq (⟨"WhoCommandsModel", "looks", "(III)V"⟩, 71) := ⟨⟨by decide +kernel, by decide +kernel⟩, List.mem_of_getElem? (i := 877) (by decide +kernel), List.mem_of_getElem? (i := 1316) (by decide +kernel), List.mem_of_getElem? (i := 1317) (by decide +kernel)⟩
theorem lw_p61 : lw_okq (⟨"WhoCommandsModel", "hasPaper", "(III)Z"⟩, 71) := ⟨⟨by decide +kernel, by decide +kernel⟩, List.mem_of_getElem? (i := 877) (by decide +kernel), List.mem_of_getElem? (i := 1320) (by decide +kernel), List.mem_of_getElem? (i := 1321) (by decide +kernel)⟩
theorem lw_p62 : lw_okq (⟨"WhoCommandsModel", "answer", "(III)J"⟩, 71) := ⟨⟨by decide +kernel, by decide +kernel⟩, List.mem_of_getElem? (i := 877) (by decide +kernel), List.mem_of_getElem? (i := 1324) (by decide +kernel), List.mem_of_getElem? (i := 1325) (by decide +kernel)⟩
theorem lw_p63 : lw_okq (⟨"WhoCommandsModel", "commanding", "(II)I"⟩, 71) := ⟨⟨by decide +kernel, by decide +kernel⟩, List.mem_of_getElem? (i := 877) (by decide +kernel), List.mem_of_getElem? (i := 1342) (by decide +kernel), List.mem_of_getElem? (i := 1343) (by decide +kernel)⟩
def lw_privs_4 : List (MethodName × Nat) := [(⟨"WhoCommandsModel", "sum", "()V"⟩, 71), (⟨"WhoCommandsModel", "value", "()V"⟩, 71), (⟨"WhoCommandsModel", "isDigit", "()Z"⟩, 71), (⟨"WhoCommandsModel", "digits", "(I)I"⟩, 71), (⟨"WhoCommandsModel", "isCounted", "(I)V"⟩, 71), (⟨"WhoCommandsModel", "entry", "(II)V"⟩, 71), (⟨"WhoCommandsModel", "answers", "(I)V"⟩, 71), (⟨"WhoCommandsModel", "top", "()I"⟩, 71), (⟨"WhoCommandsModel", "asItIs", "(I)V"⟩, 71), (⟨"WhoCommandsModel", "mayOf", "(II)I"⟩, 71), (⟨"WhoCommandsModel", "below", "(II)I"⟩, 71), (⟨"WhoCommandsModel", "works", "(IIII)Z"⟩, 71), (⟨"WhoCommandsModel", "looks", "(III)V"⟩, 71), (⟨"WhoCommandsModel", "hasPaper", "(III)Z"⟩, 71), (⟨"WhoCommandsModel", "answer", "(III)J"⟩, 71), (⟨"WhoCommandsModel", "commanding", "(II)I"⟩, 71)]
theorem lw_r4 : ∀ q ∈ lw_privs_4, lw_okq q := List.forall_mem_cons.mpr ⟨lw_p48, List.forall_mem_cons.mpr ⟨lw_p49, List.forall_mem_cons.mpr ⟨lw_p50, List.forall_mem_cons.mpr ⟨lw_p51, List.forall_mem_cons.mpr ⟨lw_p52, List.forall_mem_cons.mpr ⟨lw_p53, List.forall_mem_cons.mpr ⟨lw_p54, List.forall_mem_cons.mpr ⟨lw_p55, List.forall_mem_cons.mpr ⟨lw_p56, List.forall_mem_cons.mpr ⟨lw_p57, List.forall_mem_cons.mpr ⟨lw_p58, List.forall_mem_cons.mpr ⟨lw_p59, List.forall_mem_cons.mpr ⟨lw_p60, List.forall_mem_cons.mpr ⟨lw_p61, List.forall_mem_cons.mpr ⟨lw_p62, List.forall_mem_cons.mpr ⟨lw_p63, fun _ h => absurd h List.not_mem_nil⟩⟩⟩⟩⟩⟩⟩⟩⟩⟩⟩⟩⟩⟩⟩⟩
theorem lw_p64 : lw_okq (⟨"WhoCommandsModel", "chosen", "(II)I"⟩, 71) := ⟨⟨by decide +kernel, by decide +kernel⟩, List.mem_of_getElem? (i := 877) (by decide +kernel), List.mem_of_getElem? (i := 1346) (by decide +kernel), List.mem_of_getElem? (i := 1347) (by decide +kernel)⟩
theorem lw_p65 : lw_okq (⟨"WhoCommandsModel", "firstOf", "(II)I"⟩, 71) := ⟨⟨by decide +kernel, by decide +kernel⟩, List.mem_of_getElem? (i := 877) (by decide +kernel), List.mem_of_getElem? (i := 1350) (by decide +kernel), List.mem_of_getElem? (i := 1351) (by decide +kernel)⟩
theorem lw_p66 : lw_okq (⟨"WhoCommandsModel", "isAhead", "(III)Z"⟩, 71) := ⟨⟨by decide +kernel, by decide +kernel⟩, List.mem_of_getElem? (i := 877) (by decide +kernel), List.mem_of_getElem? (i := 1354) (by decide +kernel), List.mem_of_getElem? (i := 1355) (by decide +kernel)⟩
theorem lw_p67 : lw_okq (⟨"WhoCommandsModel", "parts", "(III)I"⟩, 71) := ⟨⟨by decide +kernel, by decide +kernel⟩, List.mem_of_getElem? (i := 877) (by decide +kernel), List.mem_of_getElem? (i := 1358) (by decide +kernel), List.mem_of_getElem? (i := 1359) (by decide +kernel)⟩
theorem lw_p68 : lw_okq (⟨"WhoCommandsModel", "hasFallen", "(II)Z"⟩, 71) := ⟨⟨by decide +kernel, by decide +kernel⟩, List.mem_of_getElem? (i := 877) (by decide +kernel), List.mem_of_getElem? (i := 1378) (by decide +kernel), List.mem_of_getElem? (i := 1379) (by decide +kernel)⟩
theorem lw_p69 : lw_okq (⟨"WhoCommandsModel", "hasHeard", "(IZII)Z"⟩, 71) := ⟨⟨by decide +kernel, by decide +kernel⟩, List.mem_of_getElem? (i := 877) (by decide +kernel), List.mem_of_getElem? (i := 1382) (by decide +kernel), List.mem_of_getElem? (i := 1383) (by decide +kernel)⟩
theorem lw_p70 : lw_okq (⟨"WhoCommandsModel", "knowsFall", "(III)Z"⟩, 71) := ⟨⟨by decide +kernel, by decide +kernel⟩, List.mem_of_getElem? (i := 877) (by decide +kernel), List.mem_of_getElem? (i := 1386) (by decide +kernel), List.mem_of_getElem? (i := 1387) (by decide +kernel)⟩
theorem lw_p71 : lw_okq (⟨"WhoCommandsModel", "saw", "(III)Z"⟩, 71) := ⟨⟨by decide +kernel, by decide +kernel⟩, List.mem_of_getElem? (i := 877) (by decide +kernel), List.mem_of_getElem? (i := 1390) (by decide +kernel), List.mem_of_getElem? (i := 1391) (by decide +kernel)⟩
theorem lw_p72 : lw_okq (⟨"WhoCommandsModel", "nobodyBesides", "()V"⟩, 71) := ⟨⟨by decide +kernel, by decide +kernel⟩, List.mem_of_getElem? (i := 877) (by decide +kernel), List.mem_of_getElem? (i := 1398) (by decide +kernel), List.mem_of_getElem? (i := 1399) (by decide +kernel)⟩
theorem lw_p73 : lw_okq (⟨"WhoCommandsModel", "asTaken", "(II)V"⟩, 71) := ⟨⟨by decide +kernel, by decide +kernel⟩, List.mem_of_getElem? (i := 877) (by decide +kernel), List.mem_of_getElem? (i := 1402) (by decide +kernel), List.mem_of_getElem? (i := 1403) (by decide +kernel)⟩
theorem lw_p74 : lw_okq (⟨"WhoCommandsModel", "wrongs", "(II)I"⟩, 71) := ⟨⟨by decide +kernel, by decide +kernel⟩, List.mem_of_getElem? (i := 877) (by decide +kernel), List.mem_of_getElem? (i := 1410) (by decide +kernel), List.mem_of_getElem? (i := 1411) (by decide +kernel)⟩
theorem lw_p75 : lw_okq (⟨"WhoCommandsModel", "commandingBesides", "(II)I"⟩, 71) := ⟨⟨by decide +kernel, by decide +kernel⟩, List.mem_of_getElem? (i := 877) (by decide +kernel), List.mem_of_getElem? (i := 1414) (by decide +kernel), List.mem_of_getElem? (i := 1415) (by decide +kernel)⟩
theorem lw_p76 : lw_okq (⟨"WhoCommandsModel", "isOrder", "(I)Z"⟩, 71) := ⟨⟨by decide +kernel, by decide +kernel⟩, List.mem_of_getElem? (i := 877) (by decide +kernel), List.mem_of_getElem? (i := 1426) (by decide +kernel), List.mem_of_getElem? (i := 1427) (by decide +kernel)⟩
theorem lw_p77 : lw_okq (⟨"WhoCommandsModel", "seatOf", "(I)I"⟩, 71) := ⟨⟨by decide +kernel, by decide +kernel⟩, List.mem_of_getElem? (i := 877) (by decide +kernel), List.mem_of_getElem? (i := 1430) (by decide +kernel), List.mem_of_getElem? (i := 1431) (by decide +kernel)⟩
theorem lw_p78 : lw_okq (⟨"WhoCommandsModel", "isInForce", "(II)Z"⟩, 71) := ⟨⟨by decide +kernel, by decide +kernel⟩, List.mem_of_getElem? (i := 877) (by decide +kernel), List.mem_of_getElem? (i := 1438) (by decide +kernel), List.mem_of_getElem? (i := 1439) (by decide +kernel)⟩
theorem lw_p79 : lw_okq (⟨"WhoCommandsModel", "isLapsed", "(II)Z"⟩, 71) := ⟨⟨by decide +kernel, by decide +kernel⟩, List.mem_of_getElem? (i := 877) (by decide +kernel), List.mem_of_getElem? (i := 1442) (by decide +kernel), List.mem_of_getElem? (i := 1443) (by decide +kernel)⟩
def lw_privs_5 : List (MethodName × Nat) := [(⟨"WhoCommandsModel", "chosen", "(II)I"⟩, 71), (⟨"WhoCommandsModel", "firstOf", "(II)I"⟩, 71), (⟨"WhoCommandsModel", "isAhead", "(III)Z"⟩, 71), (⟨"WhoCommandsModel", "parts", "(III)I"⟩, 71), (⟨"WhoCommandsModel", "hasFallen", "(II)Z"⟩, 71), (⟨"WhoCommandsModel", "hasHeard", "(IZII)Z"⟩, 71), (⟨"WhoCommandsModel", "knowsFall", "(III)Z"⟩, 71), (⟨"WhoCommandsModel", "saw", "(III)Z"⟩, 71), (⟨"WhoCommandsModel", "nobodyBesides", "()V"⟩, 71), (⟨"WhoCommandsModel", "asTaken", "(II)V"⟩, 71), (⟨"WhoCommandsModel", "wrongs", "(II)I"⟩, 71), (⟨"WhoCommandsModel", "commandingBesides", "(II)I"⟩, 71), (⟨"WhoCommandsModel", "isOrder", "(I)Z"⟩, 71), (⟨"WhoCommandsModel", "seatOf", "(I)I"⟩, 71), (⟨"WhoCommandsModel", "isInForce", "(II)Z"⟩, 71), (⟨"WhoCommandsModel", "isLapsed", "(II)Z"⟩, 71)]
theorem lw_r5 : ∀ q ∈ lw_privs_5, lw_okq q := List.forall_mem_cons.mpr ⟨lw_p64, List.forall_mem_cons.mpr ⟨lw_p65, List.forall_mem_cons.mpr ⟨lw_p66, List.forall_mem_cons.mpr ⟨lw_p67, List.forall_mem_cons.mpr ⟨lw_p68, List.forall_mem_cons.mpr ⟨lw_p69, List.forall_mem_cons.mpr ⟨lw_p70, List.forall_mem_cons.mpr ⟨lw_p71, List.forall_mem_cons.mpr ⟨lw_p72, List.forall_mem_cons.mpr ⟨lw_p73, List.forall_mem_cons.mpr ⟨lw_p74, List.forall_mem_cons.mpr ⟨lw_p75, List.forall_mem_cons.mpr ⟨lw_p76, List.forall_mem_cons.mpr ⟨lw_p77, List.forall_mem_cons.mpr ⟨lw_p78, List.forall_mem_cons.mpr ⟨lw_p79, fun _ h => absurd h List.not_mem_nil⟩⟩⟩⟩⟩⟩⟩⟩⟩⟩⟩⟩⟩⟩⟩⟩
theorem lw_p80 : lw_okq (⟨"WhoCommandsModel", "binding", "(II)I"⟩, 71) := ⟨⟨by decide +kernel, by decide +kernel⟩, List.mem_of_getElem? (i := 877) (by decide +kernel), List.mem_of_getElem? (i := 1450) (by decide +kernel), List.mem_of_getElem? (i := 1451) (by decide +kernel)⟩
theorem lw_p81 : lw_okq (⟨"WhoCommandsModel", "level", "(I)I"⟩, 71) := ⟨⟨by decide +kernel, by decide +kernel⟩, List.mem_of_getElem? (i := 877) (by decide +kernel), List.mem_of_getElem? (i := 1454) (by decide +kernel), List.mem_of_getElem? (i := 1455) (by decide +kernel)⟩
theorem lw_p82 : lw_okq (⟨"WhoCommandsModel", "doubted", "(II)I"⟩, 71) := ⟨⟨by decide +kernel, by decide +kernel⟩, List.mem_of_getElem? (i := 877) (by decide +kernel), List.mem_of_getElem? (i := 1474) (by decide +kernel), List.mem_of_getElem? (i := 1475) (by decide +kernel)⟩
theorem lw_p83 : lw_okq (⟨"WhoCommandsModel", "carries", "(I)V"⟩, 71) := ⟨⟨by decide +kernel, by decide +kernel⟩, List.mem_of_getElem? (i := 877) (by decide +kernel), List.mem_of_getElem? (i := 1516) (by decide +kernel), List.mem_of_getElem? (i := 1517) (by decide +kernel)⟩
theorem lw_p84 : lw_okq (⟨"WhoCommandsModel", "carry", "([I)V"⟩, 71) := ⟨⟨by decide +kernel, by decide +kernel⟩, List.mem_of_getElem? (i := 877) (by decide +kernel), List.mem_of_getElem? (i := 1520) (by decide +kernel), List.mem_of_getElem? (i := 1521) (by decide +kernel)⟩
def lw_privs_6 : List (MethodName × Nat) := [(⟨"WhoCommandsModel", "binding", "(II)I"⟩, 71), (⟨"WhoCommandsModel", "level", "(I)I"⟩, 71), (⟨"WhoCommandsModel", "doubted", "(II)I"⟩, 71), (⟨"WhoCommandsModel", "carries", "(I)V"⟩, 71), (⟨"WhoCommandsModel", "carry", "([I)V"⟩, 71)]
theorem lw_r6 : ∀ q ∈ lw_privs_6, lw_okq q := List.forall_mem_cons.mpr ⟨lw_p80, List.forall_mem_cons.mpr ⟨lw_p81, List.forall_mem_cons.mpr ⟨lw_p82, List.forall_mem_cons.mpr ⟨lw_p83, List.forall_mem_cons.mpr ⟨lw_p84, fun _ h => absurd h List.not_mem_nil⟩⟩⟩⟩⟩
def lw_privs : List (MethodName × Nat) := lw_privs_1 ++ (lw_privs_2 ++ (lw_privs_3 ++ (lw_privs_4 ++ (lw_privs_5 ++ (lw_privs_6)))))
def lw_tbl : List Cond := k2_sels lw_privs ++ tables_1
theorem lw_privs_ok : ∀ q ∈ lw_privs, lw_okq q := by
  show ∀ q ∈ lw_privs_1 ++ (lw_privs_2 ++ (lw_privs_3 ++ (lw_privs_4 ++ (lw_privs_5 ++ (lw_privs_6))))), lw_okq q
  exact List.forall_mem_append.mpr ⟨lw_r1, List.forall_mem_append.mpr ⟨lw_r2, List.forall_mem_append.mpr ⟨lw_r3, List.forall_mem_append.mpr ⟨lw_r4, List.forall_mem_append.mpr ⟨lw_r5, lw_r6⟩⟩⟩⟩⟩

/-! ===== BEGIN words of one list among another's, by their places ===== -/
theorem goodIn_r {big : List Cond} (ws : List Cond) (ps : List Nat) (hp : ws = ps.filterMap (fun i => big[i]?)) (h : ws.all goodWord = true) : GoodIn big ws := by
  intro w hw
  have h1 := List.all_eq_true.mp h w hw
  rw [hp] at hw
  obtain ⟨i, -, hi⟩ := List.mem_filterMap.mp hw
  have hm : w ∈ big := by first | exact List.mem_of_getElem? hi | exact List.getElem?_mem hi
  exact ⟨hm, good_of_word h1⟩
theorem goodIn_app {big a b : List Cond} (ha : GoodIn big a) (hb : GoodIn big b) : GoodIn big (a ++ b) := fun w h => (List.mem_append.mp h).elim (ha w) (hb w)
theorem goodIn_ca {big a b : List Cond} {c : Cond} (ha : GoodIn big (c :: a)) (hb : GoodIn big b) : GoodIn big (c :: (a ++ b)) := fun w h => (List.mem_cons.mp h).elim (fun e => ha w (List.mem_cons.mpr (Or.inl e))) (fun h => (List.mem_append.mp h).elim (fun h => ha w (List.mem_cons.mpr (Or.inr h))) (hb w))
theorem goodIn_sub {big ws : List Cond} (hm : ∀ w ∈ ws, w ∈ big) (h : ws.all goodWord = true) : GoodIn big ws := fun w hw => ⟨hm w hw, good_of_word (List.all_eq_true.mp h w hw)⟩
/-! ===== END ===== -/

/-! ===== BEGIN printed: names, fields, word lists, decode rows ===== -/
def RX0 : String := "WhoCommands$Facts"
def TX0 : u_T := fun k => match k with
  | 0 => ("WhoCommands$Facts", "places", "LWhoCommands$Places;", true)
  | 1 => ("WhoCommands$Facts", "cells", "[I", true)
  | 2 => ("WhoCommands$Facts", "stack", "[I", true)
  | 3 => ("WhoCommands$Facts", "members", "I", false)
  | 4 => ("WhoCommands$Facts", "holders", "I", false)
  | _ => ("WhoCommands$Facts", "gone", "I", false)
def tyX0 : Nat → FieldType := fun k => match k with
  | 0 => .object "WhoCommands$Places"
  | 1 => .array .int
  | 2 => .array .int
  | 3 => .int
  | 4 => .int
  | _ => .int
abbrev wsX00 : List Cond := u_ws RX0 TX0 6
theorem nmX0 : ∀ a, a < 6 → ∀ b, b < 6 → a ≠ b → (TX0 a).2.1 ≠ (TX0 b).2.1 := by decide +kernel
theorem tyX0_ok : ∀ k, k < 6 → parseFieldDescriptor (TX0 k).2.2.1 = some (tyX0 k) := by decide +kernel
abbrev cX0_init : ByteArray := prog_2_method_1_code
def yX0_init : MethodName := ⟨RX0, "<init>", "()V"⟩
abbrev cX0_gather : ByteArray := prog_2_method_2_code
def yX0_gather : MethodName := ⟨RX0, "gather", "(LWhoCommands$World;II)V"⟩
abbrev cX0_gatherOne : ByteArray := prog_2_method_3_code
def yX0_gatherOne : MethodName := ⟨RX0, "gatherOne", "(LWhoCommands$World;III)V"⟩
abbrev cX0_gatherList : ByteArray := prog_2_method_4_code
def yX0_gatherList : MethodName := ⟨RX0, "gatherList", "(LWhoCommands$World;I)V"⟩
abbrev cX0_gatherPapers : ByteArray := prog_2_method_5_code
def yX0_gatherPapers : MethodName := ⟨RX0, "gatherPapers", "(LWhoCommands$World;II)V"⟩
abbrev cX0_get : ByteArray := prog_2_method_6_code
def yX0_get : MethodName := ⟨RX0, "get", "(II)I"⟩
abbrev cX0_set : ByteArray := prog_2_method_7_code
def yX0_set : MethodName := ⟨RX0, "set", "(III)V"⟩
abbrev cX0_trueForm : ByteArray := prog_2_method_8_code
def yX0_trueForm : MethodName := ⟨RX0, "trueForm", "(I)I"⟩
abbrev cX0_anyHolds : ByteArray := prog_2_method_9_code
def yX0_anyHolds : MethodName := ⟨RX0, "anyHolds", "(LWhoCommands$Law;II)Z"⟩
abbrev cX0_holds : ByteArray := prog_2_method_10_code
def yX0_holds : MethodName := ⟨RX0, "holds", "(LWhoCommands$Law;II)Z"⟩
abbrev cX0_joined : ByteArray := prog_2_method_11_code
def yX0_joined : MethodName := ⟨RX0, "joined", "(III)I"⟩
abbrev cX0_keyValue : ByteArray := prog_2_method_12_code
def yX0_keyValue : MethodName := ⟨RX0, "keyValue", "(II)I"⟩
def RX1 : String := "WhoCommands$Knowledge"
def TX1 : u_T := fun k => match k with
  | 0 => ("WhoCommands$Knowledge", "places", "LWhoCommands$Places;", true)
  | 1 => ("WhoCommands$Knowledge", "falls", "[I", true)
  | 2 => ("WhoCommands$Knowledge", "papers", "[I", true)
  | 3 => ("WhoCommands$Knowledge", "holders", "[I", true)
  | _ => ("WhoCommands$Knowledge", "seen", "[I", true)
def tyX1 : Nat → FieldType := fun k => match k with
  | 0 => .object "WhoCommands$Places"
  | 1 => .array .int
  | 2 => .array .int
  | 3 => .array .int
  | _ => .array .int
abbrev wsX10 : List Cond := u_ws RX1 TX1 5
theorem nmX1 : ∀ a, a < 5 → ∀ b, b < 5 → a ≠ b → (TX1 a).2.1 ≠ (TX1 b).2.1 := by decide +kernel
theorem tyX1_ok : ∀ k, k < 5 → parseFieldDescriptor (TX1 k).2.2.1 = some (tyX1 k) := by decide +kernel
abbrev cX1_init : ByteArray := prog_3_method_1_code
def yX1_init : MethodName := ⟨RX1, "<init>", "()V"⟩
abbrev cX1_learn : ByteArray := prog_3_method_2_code
def yX1_learn : MethodName := ⟨RX1, "learn", "(LWhoCommands$World;II)V"⟩
abbrev cX1_witness : ByteArray := prog_3_method_3_code
def yX1_witness : MethodName := ⟨RX1, "witness", "(LWhoCommands$World;I)V"⟩
abbrev cX1_hear : ByteArray := prog_3_method_4_code
def yX1_hear : MethodName := ⟨RX1, "hear", "(LWhoCommands$World;II)V"⟩
abbrev cX1_note : ByteArray := prog_3_method_5_code
def yX1_note : MethodName := ⟨RX1, "note", "([III)V"⟩
abbrev cX1_learnHolders : ByteArray := prog_3_method_6_code
def yX1_learnHolders : MethodName := ⟨RX1, "learnHolders", "(LWhoCommands$World;II)V"⟩
abbrev cX1_watch : ByteArray := prog_3_method_7_code
def yX1_watch : MethodName := ⟨RX1, "watch", "(LWhoCommands$World;I)V"⟩
abbrev cX1_isFallKnown : ByteArray := prog_3_method_8_code
def yX1_isFallKnown : MethodName := ⟨RX1, "isFallKnown", "(II)Z"⟩
abbrev cX1_isPaperKnown : ByteArray := prog_3_method_9_code
def yX1_isPaperKnown : MethodName := ⟨RX1, "isPaperKnown", "(II)Z"⟩
abbrev cX1_fallenFor : ByteArray := prog_3_method_10_code
def yX1_fallenFor : MethodName := ⟨RX1, "fallenFor", "(II)I"⟩
abbrev cX1_holdersFor : ByteArray := prog_3_method_11_code
def yX1_holdersFor : MethodName := ⟨RX1, "holdersFor", "(I)I"⟩
def RX2 : String := "WhoCommands$Law"
def TX2 : u_T := fun k => match k with
  | 0 => ("WhoCommands$Law", "kinds", "[I", true)
  | 1 => ("WhoCommands$Law", "keys", "[I", true)
  | 2 => ("WhoCommands$Law", "starts", "[I", true)
  | 3 => ("WhoCommands$Law", "ends", "[I", true)
  | _ => ("WhoCommands$Law", "code", "[I", true)
def tyX2 : Nat → FieldType := fun k => match k with
  | 0 => .array .int
  | 1 => .array .int
  | 2 => .array .int
  | 3 => .array .int
  | _ => .array .int
abbrev wsX20 : List Cond := u_ws RX2 TX2 5
theorem nmX2 : ∀ a, a < 5 → ∀ b, b < 5 → a ≠ b → (TX2 a).2.1 ≠ (TX2 b).2.1 := by decide +kernel
theorem tyX2_ok : ∀ k, k < 5 → parseFieldDescriptor (TX2 k).2.2.1 = some (tyX2 k) := by decide +kernel
abbrev cX2_init : ByteArray := prog_4_method_1_code
def yX2_init : MethodName := ⟨RX2, "<init>", "(LWhoCommands$LawReader;)V"⟩
def RX3 : String := "WhoCommands$LawReader"
def TX3 : u_T := fun k => match k with
  | 0 => ("WhoCommands$LawReader", "tokenKinds", "[I", true)
  | 1 => ("WhoCommands$LawReader", "tokenPlaces", "[I", true)
  | 2 => ("WhoCommands$LawReader", "tokenNumbers", "[I", true)
  | 3 => ("WhoCommands$LawReader", "tokens", "I", false)
  | 4 => ("WhoCommands$LawReader", "at", "I", false)
  | 5 => ("WhoCommands$LawReader", "values", "I", false)
  | 6 => ("WhoCommands$LawReader", "fault", "I", false)
  | 7 => ("WhoCommands$LawReader", "clauseKinds", "[I", true)
  | 8 => ("WhoCommands$LawReader", "clauseKeys", "[I", true)
  | 9 => ("WhoCommands$LawReader", "clauseStarts", "[I", true)
  | 10 => ("WhoCommands$LawReader", "clauseEnds", "[I", true)
  | 11 => ("WhoCommands$LawReader", "clauses", "I", false)
  | 12 => ("WhoCommands$LawReader", "code", "[I", true)
  | _ => ("WhoCommands$LawReader", "codeSize", "I", false)
def tyX3 : Nat → FieldType := fun k => match k with
  | 0 => .array .int
  | 1 => .array .int
  | 2 => .array .int
  | 3 => .int
  | 4 => .int
  | 5 => .int
  | 6 => .int
  | 7 => .array .int
  | 8 => .array .int
  | 9 => .array .int
  | 10 => .array .int
  | 11 => .int
  | 12 => .array .int
  | _ => .int
abbrev wsX30 : List Cond := u_ws RX3 TX3 14
theorem nmX3 : ∀ a, a < 14 → ∀ b, b < 14 → a ≠ b → (TX3 a).2.1 ≠ (TX3 b).2.1 := by decide +kernel
theorem tyX3_ok : ∀ k, k < 14 → parseFieldDescriptor (TX3 k).2.2.1 = some (tyX3 k) := by decide +kernel
abbrev cX3_init : ByteArray := prog_5_method_1_code
def yX3_init : MethodName := ⟨RX3, "<init>", "()V"⟩
abbrev cX3_read : ByteArray := prog_5_method_2_code
def yX3_read : MethodName := ⟨RX3, "read", "([II)I"⟩
abbrev cX3_cutAll : ByteArray := prog_5_method_3_code
def yX3_cutAll : MethodName := ⟨RX3, "cutAll", "([II)V"⟩
abbrev cX3_cut : ByteArray := prog_5_method_4_code
def yX3_cut : MethodName := ⟨RX3, "cut", "([III)I"⟩
abbrev cX3_addToken : ByteArray := prog_5_method_5_code
def yX3_addToken : MethodName := ⟨RX3, "addToken", "(III)V"⟩
abbrev cX3_isLetter : ByteArray := prog_5_method_6_code
def yX3_isLetter : MethodName := ⟨RX3, "isLetter", "(I)Z"⟩
abbrev cX3_isDigit : ByteArray := prog_5_method_7_code
def yX3_isDigit : MethodName := ⟨RX3, "isDigit", "(I)Z"⟩
abbrev cX3_wideSignKind : ByteArray := prog_5_method_8_code
def yX3_wideSignKind : MethodName := ⟨RX3, "wideSignKind", "(I)I"⟩
abbrev cX3_signKind : ByteArray := prog_5_method_9_code
def yX3_signKind : MethodName := ⟨RX3, "signKind", "(I)I"⟩
abbrev cX3_wordKind : ByteArray := prog_5_method_10_code
def yX3_wordKind : MethodName := ⟨RX3, "wordKind", "([III)I"⟩
abbrev cX3_kind : ByteArray := prog_5_method_11_code
def yX3_kind : MethodName := ⟨RX3, "kind", "()I"⟩
abbrev cX3_fail : ByteArray := prog_5_method_12_code
def yX3_fail : MethodName := ⟨RX3, "fail", "(I)V"⟩
abbrev cX3_emit : ByteArray := prog_5_method_13_code
def yX3_emit : MethodName := ⟨RX3, "emit", "(I)V"⟩
abbrev cX3_readClause : ByteArray := prog_5_method_14_code
def yX3_readClause : MethodName := ⟨RX3, "readClause", "()V"⟩
abbrev cX3_takeKeyAndIf : ByteArray := prog_5_method_15_code
def yX3_takeKeyAndIf : MethodName := ⟨RX3, "takeKeyAndIf", "()Z"⟩
abbrev cX3_isKey : ByteArray := prog_5_method_16_code
def yX3_isKey : MethodName := ⟨RX3, "isKey", "(I)Z"⟩
abbrev cX3_readTest : ByteArray := prog_5_method_17_code
def yX3_readTest : MethodName := ⟨RX3, "readTest", "(I)V"⟩
abbrev cX3_readFact : ByteArray := prog_5_method_18_code
def yX3_readFact : MethodName := ⟨RX3, "readFact", "(I)V"⟩
abbrev cX3_takeSign : ByteArray := prog_5_method_19_code
def yX3_takeSign : MethodName := ⟨RX3, "takeSign", "()I"⟩
abbrev cX3_readSum : ByteArray := prog_5_method_20_code
def yX3_readSum : MethodName := ⟨RX3, "readSum", "()V"⟩
abbrev cX3_readValue : ByteArray := prog_5_method_21_code
def yX3_readValue : MethodName := ⟨RX3, "readValue", "()V"⟩
def RX4 : String := "WhoCommands$Places"
def TX4 : u_T := fun k => match k with
  | 0 => ("WhoCommands$Places", "x", "[I", true)
  | 1 => ("WhoCommands$Places", "y", "[I", true)
  | _ => ("WhoCommands$Places", "since", "[I", true)
def tyX4 : Nat → FieldType := fun k => match k with
  | 0 => .array .int
  | 1 => .array .int
  | _ => .array .int
abbrev wsX40 : List Cond := u_ws RX4 TX4 3
theorem nmX4 : ∀ a, a < 3 → ∀ b, b < 3 → a ≠ b → (TX4 a).2.1 ≠ (TX4 b).2.1 := by decide +kernel
theorem tyX4_ok : ∀ k, k < 3 → parseFieldDescriptor (TX4 k).2.2.1 = some (tyX4 k) := by decide +kernel
abbrev cX4_init : ByteArray := prog_6_method_1_code
def yX4_init : MethodName := ⟨RX4, "<init>", "()V"⟩
abbrev cX4_find : ByteArray := prog_6_method_2_code
def yX4_find : MethodName := ⟨RX4, "find", "(LWhoCommands$World;I)V"⟩
abbrev cX4_toSpot : ByteArray := prog_6_method_3_code
def yX4_toSpot : MethodName := ⟨RX4, "toSpot", "(III)I"⟩
abbrev cX4_areWithin : ByteArray := prog_6_method_4_code
def yX4_areWithin : MethodName := ⟨RX4, "areWithin", "(III)Z"⟩
def RX5 : String := "WhoCommands$Ranking"
def TX5 : u_T := fun k => match k with
  | 0 => ("WhoCommands$Ranking", "forms", "[I", true)
  | 1 => ("WhoCommands$Ranking", "keys", "[I", true)
  | 2 => ("WhoCommands$Ranking", "size", "I", false)
  | _ => ("WhoCommands$Ranking", "clauses", "I", false)
def tyX5 : Nat → FieldType := fun k => match k with
  | 0 => .array .int
  | 1 => .array .int
  | 2 => .int
  | _ => .int
abbrev wsX50 : List Cond := u_ws RX5 TX5 4
theorem nmX5 : ∀ a, a < 4 → ∀ b, b < 4 → a ≠ b → (TX5 a).2.1 ≠ (TX5 b).2.1 := by decide +kernel
theorem tyX5_ok : ∀ k, k < 4 → parseFieldDescriptor (TX5 k).2.2.1 = some (tyX5 k) := by decide +kernel
abbrev cX5_init : ByteArray := prog_7_method_1_code
def yX5_init : MethodName := ⟨RX5, "<init>", "()V"⟩
abbrev cX5_build : ByteArray := prog_7_method_2_code
def yX5_build : MethodName := ⟨RX5, "build", "(LWhoCommands$Facts;LWhoCommands$Law;)V"⟩
abbrev cX5_weigh : ByteArray := prog_7_method_3_code
def yX5_weigh : MethodName := ⟨RX5, "weigh", "(LWhoCommands$Facts;LWhoCommands$Law;I)V"⟩
abbrev cX5_insert : ByteArray := prog_7_method_4_code
def yX5_insert : MethodName := ⟨RX5, "insert", "(I)V"⟩
abbrev cX5_decidingClause : ByteArray := prog_7_method_5_code
def yX5_decidingClause : MethodName := ⟨RX5, "decidingClause", "(II)I"⟩
abbrev cX5_isBefore : ByteArray := prog_7_method_6_code
def yX5_isBefore : MethodName := ⟨RX5, "isBefore", "(II)Z"⟩
abbrev cX5_inPlace : ByteArray := prog_7_method_7_code
def yX5_inPlace : MethodName := ⟨RX5, "inPlace", "(III)I"⟩
abbrev cX5_everybody : ByteArray := prog_7_method_8_code
def yX5_everybody : MethodName := ⟨RX5, "everybody", "(II)I"⟩
abbrev cX5_fits : ByteArray := prog_7_method_9_code
def yX5_fits : MethodName := ⟨RX5, "fits", "(III)Z"⟩
def RX6 : String := "WhoCommands$Rows"
def TX6 : u_T := fun k => match k with
  | 0 => ("WhoCommands$Rows", "width", "I", true)
  | 1 => ("WhoCommands$Rows", "most", "I", true)
  | 2 => ("WhoCommands$Rows", "cells", "[I", true)
  | _ => ("WhoCommands$Rows", "size", "I", false)
def tyX6 : Nat → FieldType := fun k => match k with
  | 0 => .int
  | 1 => .int
  | 2 => .array .int
  | _ => .int
abbrev wsX60 : List Cond := u_ws RX6 TX6 4
theorem nmX6 : ∀ a, a < 4 → ∀ b, b < 4 → a ≠ b → (TX6 a).2.1 ≠ (TX6 b).2.1 := by decide +kernel
theorem tyX6_ok : ∀ k, k < 4 → parseFieldDescriptor (TX6 k).2.2.1 = some (tyX6 k) := by decide +kernel
abbrev cX6_init : ByteArray := prog_8_method_1_code
def yX6_init : MethodName := ⟨RX6, "<init>", "(II)V"⟩
abbrev cX6_has : ByteArray := prog_8_method_2_code
def yX6_has : MethodName := ⟨RX6, "has", "(I)Z"⟩
abbrev cX6_get : ByteArray := prog_8_method_3_code
def yX6_get : MethodName := ⟨RX6, "get", "(II)I"⟩
abbrev cX6_set : ByteArray := prog_8_method_4_code
def yX6_set : MethodName := ⟨RX6, "set", "(III)V"⟩
abbrev cX6_open : ByteArray := prog_8_method_5_code
def yX6_open : MethodName := ⟨RX6, "open", "()I"⟩
abbrev cX6_become : ByteArray := prog_8_method_6_code
def yX6_become : MethodName := ⟨RX6, "become", "(LWhoCommands$Rows;)V"⟩
def RX7 : String := "WhoCommands$World"
def TX7 : u_T := fun k => match k with
  | 0 => ("WhoCommands$World", "bodies", "LWhoCommands$Rows;", true)
  | 1 => ("WhoCommands$World", "people", "LWhoCommands$Rows;", true)
  | 2 => ("WhoCommands$World", "steps", "LWhoCommands$Rows;", true)
  | 3 => ("WhoCommands$World", "papers", "LWhoCommands$Rows;", true)
  | 4 => ("WhoCommands$World", "lists", "LWhoCommands$Rows;", true)
  | 5 => ("WhoCommands$World", "messages", "LWhoCommands$Rows;", true)
  | 6 => ("WhoCommands$World", "orders", "LWhoCommands$Rows;", true)
  | _ => ("WhoCommands$World", "sight", "I", false)
def tyX7 : Nat → FieldType := fun k => match k with
  | 0 => .object "WhoCommands$Rows"
  | 1 => .object "WhoCommands$Rows"
  | 2 => .object "WhoCommands$Rows"
  | 3 => .object "WhoCommands$Rows"
  | 4 => .object "WhoCommands$Rows"
  | 5 => .object "WhoCommands$Rows"
  | 6 => .object "WhoCommands$Rows"
  | _ => .int
abbrev wsX70 : List Cond := u_ws RX7 TX7 8
theorem nmX7 : ∀ a, a < 8 → ∀ b, b < 8 → a ≠ b → (TX7 a).2.1 ≠ (TX7 b).2.1 := by decide +kernel
theorem tyX7_ok : ∀ k, k < 8 → parseFieldDescriptor (TX7 k).2.2.1 = some (tyX7 k) := by decide +kernel
abbrev cX7_init : ByteArray := prog_9_method_1_code
def yX7_init : MethodName := ⟨RX7, "<init>", "()V"⟩
abbrev cX7_become : ByteArray := prog_9_method_2_code
def yX7_become : MethodName := ⟨RX7, "become", "(LWhoCommands$World;)V"⟩
abbrev cX7_isFallen : ByteArray := prog_9_method_3_code
def yX7_isFallen : MethodName := ⟨RX7, "isFallen", "(II)Z"⟩
abbrev cX7_fallsTold : ByteArray := prog_9_method_4_code
def yX7_fallsTold : MethodName := ⟨RX7, "fallsTold", "()I"⟩
abbrev cX7_paperHolds : ByteArray := prog_9_method_5_code
def yX7_paperHolds : MethodName := ⟨RX7, "paperHolds", "(III)Z"⟩
abbrev cX7_placesOnList : ByteArray := prog_9_method_6_code
def yX7_placesOnList : MethodName := ⟨RX7, "placesOnList", "(I)I"⟩
abbrev cX7_isOnList : ByteArray := prog_9_method_7_code
def yX7_isOnList : MethodName := ⟨RX7, "isOnList", "(II)Z"⟩
abbrev cX7_depthBelow : ByteArray := prog_9_method_8_code
def yX7_depthBelow : MethodName := ⟨RX7, "depthBelow", "(II)I"⟩
def RX8 : String := "WhoCommands"
def TX8 : u_T := fun k => match k with
  | 0 => ("WhoCommands", "world", "LWhoCommands$World;", true)
  | 1 => ("WhoCommands", "marks", "[LWhoCommands$World;", true)
  | 2 => ("WhoCommands", "laws", "[LWhoCommands$Law;", true)
  | 3 => ("WhoCommands", "lawCount", "I", false)
  | 4 => ("WhoCommands", "tape", "[I", true)
  | 5 => ("WhoCommands", "tapeSize", "I", false)
  | 6 => ("WhoCommands", "reader", "LWhoCommands$LawReader;", true)
  | 7 => ("WhoCommands", "facts", "LWhoCommands$Facts;", true)
  | 8 => ("WhoCommands", "ranking", "LWhoCommands$Ranking;", true)
  | 9 => ("WhoCommands", "knowledge", "LWhoCommands$Knowledge;", true)
  | _ => ("WhoCommands", "ordersByThing", "[I", true)
def tyX8 : Nat → FieldType := fun k => match k with
  | 0 => .object "WhoCommands$World"
  | 1 => .array (.object "WhoCommands$World")
  | 2 => .array (.object "WhoCommands$Law")
  | 3 => .int
  | 4 => .array .int
  | 5 => .int
  | 6 => .object "WhoCommands$LawReader"
  | 7 => .object "WhoCommands$Facts"
  | 8 => .object "WhoCommands$Ranking"
  | 9 => .object "WhoCommands$Knowledge"
  | _ => .array .int
abbrev wsX80 : List Cond := u_ws RX8 TX8 11
theorem nmX8 : ∀ a, a < 11 → ∀ b, b < 11 → a ≠ b → (TX8 a).2.1 ≠ (TX8 b).2.1 := by decide +kernel
theorem tyX8_ok : ∀ k, k < 11 → parseFieldDescriptor (TX8 k).2.2.1 = some (tyX8 k) := by decide +kernel
abbrev cX8_init : ByteArray := prog_1_method_1_code
def yX8_init : MethodName := ⟨RX8, "<init>", "()V"⟩
abbrev cX8_body : ByteArray := prog_1_method_2_code
def yX8_body : MethodName := ⟨RX8, "body", "(IIII)I"⟩
abbrev cX8_person : ByteArray := prog_1_method_3_code
def yX8_person : MethodName := ⟨RX8, "person", "(IIIII)I"⟩
abbrev cX8_step : ByteArray := prog_1_method_4_code
def yX8_step : MethodName := ⟨RX8, "step", "(IIII)I"⟩
abbrev cX8_near : ByteArray := prog_1_method_5_code
def yX8_near : MethodName := ⟨RX8, "near", "(III)I"⟩
abbrev cX8_paper : ByteArray := prog_1_method_6_code
def yX8_paper : MethodName := ⟨RX8, "paper", "(IIII)I"⟩
abbrev cX8_list : ByteArray := prog_1_method_7_code
def yX8_list : MethodName := ⟨RX8, "list", "(II)I"⟩
abbrev cX8_falls : ByteArray := prog_1_method_8_code
def yX8_falls : MethodName := ⟨RX8, "falls", "(II)Z"⟩
abbrev cX8_feed : ByteArray := prog_1_method_9_code
def yX8_feed : MethodName := ⟨RX8, "feed", "(IIIII)I"⟩
abbrev cX8_end : ByteArray := prog_1_method_10_code
def yX8_end : MethodName := ⟨RX8, "end", "(I)I"⟩
abbrev cX8_law : ByteArray := prog_1_method_11_code
def yX8_law : MethodName := ⟨RX8, "law", "()I"⟩
abbrev cX8_rules : ByteArray := prog_1_method_12_code
def yX8_rules : MethodName := ⟨RX8, "rules", "(II)Z"⟩
abbrev cX8_may : ByteArray := prog_1_method_13_code
def yX8_may : MethodName := ⟨RX8, "may", "(II)I"⟩
abbrev cX8_commands : ByteArray := prog_1_method_14_code
def yX8_commands : MethodName := ⟨RX8, "commands", "(II)I"⟩
abbrev cX8_ahead : ByteArray := prog_1_method_15_code
def yX8_ahead : MethodName := ⟨RX8, "ahead", "(IIIII)I"⟩
abbrev cX8_message : ByteArray := prog_1_method_16_code
def yX8_message : MethodName := ⟨RX8, "message", "(ZIII)I"⟩
abbrev cX8_sight : ByteArray := prog_1_method_17_code
def yX8_sight : MethodName := ⟨RX8, "sight", "(I)I"⟩
abbrev cX8_knows : ByteArray := prog_1_method_18_code
def yX8_knows : MethodName := ⟨RX8, "knows", "(IZII)I"⟩
abbrev cX8_thinks : ByteArray := prog_1_method_19_code
def yX8_thinks : MethodName := ⟨RX8, "thinks", "(III)I"⟩
abbrev cX8_wrong : ByteArray := prog_1_method_20_code
def yX8_wrong : MethodName := ⟨RX8, "wrong", "(II)I"⟩
abbrev cX8_order : ByteArray := prog_1_method_21_code
def yX8_order : MethodName := ⟨RX8, "order", "(IIIIII)I"⟩
abbrev cX8_seat : ByteArray := prog_1_method_22_code
def yX8_seat : MethodName := ⟨RX8, "seat", "(I)I"⟩
abbrev cX8_force : ByteArray := prog_1_method_23_code
def yX8_force : MethodName := ⟨RX8, "force", "(II)I"⟩
abbrev cX8_bound : ByteArray := prog_1_method_24_code
def yX8_bound : MethodName := ⟨RX8, "bound", "(II)I"⟩
abbrev cX8_cross : ByteArray := prog_1_method_25_code
def yX8_cross : MethodName := ⟨RX8, "cross", "(II)I"⟩
abbrev cX8_answers : ByteArray := prog_1_method_26_code
def yX8_answers : MethodName := ⟨RX8, "answers", "(III)I"⟩
abbrev cX8_gaps : ByteArray := prog_1_method_27_code
def yX8_gaps : MethodName := ⟨RX8, "gaps", "(IIII)I"⟩
abbrev cX8_doubt : ByteArray := prog_1_method_28_code
def yX8_doubt : MethodName := ⟨RX8, "doubt", "(III)I"⟩
abbrev cX8_brief : ByteArray := prog_1_method_29_code
def yX8_brief : MethodName := ⟨RX8, "brief", "(IIII)I"⟩
abbrev cX8_fights : ByteArray := prog_1_method_30_code
def yX8_fights : MethodName := ⟨RX8, "fights", "(IIIIII)I"⟩
abbrev cX8_allied : ByteArray := prog_1_method_31_code
def yX8_allied : MethodName := ⟨RX8, "allied", "(IIII)I"⟩
abbrev cX8_mended : ByteArray := prog_1_method_32_code
def yX8_mended : MethodName := ⟨RX8, "mended", "(III)I"⟩
abbrev cX8_judge : ByteArray := prog_1_method_33_code
def yX8_judge : MethodName := ⟨RX8, "judge", "(IIII)I"⟩
abbrev cX8_hangs : ByteArray := prog_1_method_34_code
def yX8_hangs : MethodName := ⟨RX8, "hangs", "(III)I"⟩
abbrev cX8_mark : ByteArray := prog_1_method_35_code
def yX8_mark : MethodName := ⟨RX8, "mark", "(I)I"⟩
abbrev cX8_back : ByteArray := prog_1_method_36_code
def yX8_back : MethodName := ⟨RX8, "back", "(I)I"⟩
abbrev cX8_count : ByteArray := prog_1_method_37_code
def yX8_count : MethodName := ⟨RX8, "count", "(I)I"⟩
abbrev cX8_isIn : ByteArray := prog_1_method_38_code
def yX8_isIn : MethodName := ⟨RX8, "isIn", "(II)Z"⟩
abbrev cX8_isMinute : ByteArray := prog_1_method_39_code
def yX8_isMinute : MethodName := ⟨RX8, "isMinute", "(I)Z"⟩
abbrev cX8_isSpot : ByteArray := prog_1_method_40_code
def yX8_isSpot : MethodName := ⟨RX8, "isSpot", "(II)Z"⟩
abbrev cX8_hasBit : ByteArray := prog_1_method_41_code
def yX8_hasBit : MethodName := ⟨RX8, "hasBit", "(II)Z"⟩
abbrev cX8_isSpan : ByteArray := prog_1_method_42_code
def yX8_isSpan : MethodName := ⟨RX8, "isSpan", "(II)Z"⟩
abbrev cX8_isBodyInMinute : ByteArray := prog_1_method_43_code
def yX8_isBodyInMinute : MethodName := ⟨RX8, "isBodyInMinute", "(II)Z"⟩
abbrev cX8_putOnTape : ByteArray := prog_1_method_44_code
def yX8_putOnTape : MethodName := ⟨RX8, "putOnTape", "(I)V"⟩
abbrev cX8_lawOf : ByteArray := prog_1_method_45_code
def yX8_lawOf : MethodName := ⟨RX8, "lawOf", "(I)LWhoCommands$Law;"⟩
abbrev cX8_survey : ByteArray := prog_1_method_46_code
def yX8_survey : MethodName := ⟨RX8, "survey", "(II)I"⟩
abbrev cX8_surveyMinds : ByteArray := prog_1_method_47_code
def yX8_surveyMinds : MethodName := ⟨RX8, "surveyMinds", "(III)V"⟩
abbrev cX8_wrongAfter : ByteArray := prog_1_method_48_code
def yX8_wrongAfter : MethodName := ⟨RX8, "wrongAfter", "(I)I"⟩
abbrev cX8_wrongAfterFallOf : ByteArray := prog_1_method_49_code
def yX8_wrongAfterFallOf : MethodName := ⟨RX8, "wrongAfterFallOf", "(I)I"⟩
abbrev cX8_worstFall : ByteArray := prog_1_method_50_code
def yX8_worstFall : MethodName := ⟨RX8, "worstFall", "()I"⟩
abbrev cX8_seatOf : ByteArray := prog_1_method_51_code
def yX8_seatOf : MethodName := ⟨RX8, "seatOf", "(I)I"⟩
abbrev cX8_isRunning : ByteArray := prog_1_method_52_code
def yX8_isRunning : MethodName := ⟨RX8, "isRunning", "(II)Z"⟩
abbrev cX8_bindingOrder : ByteArray := prog_1_method_53_code
def yX8_bindingOrder : MethodName := ⟨RX8, "bindingOrder", "(II)I"⟩
def RX9 : String := "WhoCommandsModel"
def TX9 : u_T := fun k => match k with
  | 0 => ("WhoCommandsModel", "thrown", "I", false)
  | 1 => ("WhoCommandsModel", "bodies", "I", false)
  | 2 => ("WhoCommandsModel", "people", "I", false)
  | 3 => ("WhoCommandsModel", "steps", "I", false)
  | 4 => ("WhoCommandsModel", "papers", "I", false)
  | 5 => ("WhoCommandsModel", "messages", "I", false)
  | 6 => ("WhoCommandsModel", "orders", "I", false)
  | 7 => ("WhoCommandsModel", "sight", "I", false)
  | 8 => ("WhoCommandsModel", "above", "[I", true)
  | 9 => ("WhoCommandsModel", "bodyService", "[I", true)
  | 10 => ("WhoCommandsModel", "bodyX", "[I", true)
  | 11 => ("WhoCommandsModel", "bodyY", "[I", true)
  | 12 => ("WhoCommandsModel", "lawOf", "[I", true)
  | 13 => ("WhoCommandsModel", "listed", "[I", true)
  | 14 => ("WhoCommandsModel", "list", "[I", true)
  | 15 => ("WhoCommandsModel", "rank", "[I", true)
  | 16 => ("WhoCommandsModel", "day", "[I", true)
  | 17 => ("WhoCommandsModel", "service", "[I", true)
  | 18 => ("WhoCommandsModel", "home", "[I", true)
  | 19 => ("WhoCommandsModel", "post", "[I", true)
  | 20 => ("WhoCommandsModel", "fallIn", "[I", true)
  | 21 => ("WhoCommandsModel", "stepOf", "[I", true)
  | 22 => ("WhoCommandsModel", "stepIn", "[I", true)
  | 23 => ("WhoCommandsModel", "stepX", "[I", true)
  | 24 => ("WhoCommandsModel", "stepY", "[I", true)
  | 25 => ("WhoCommandsModel", "paperTo", "[I", true)
  | 26 => ("WhoCommandsModel", "paperFor", "[I", true)
  | 27 => ("WhoCommandsModel", "paperFrom", "[I", true)
  | 28 => ("WhoCommandsModel", "paperTill", "[I", true)
  | 29 => ("WhoCommandsModel", "taped", "I", false)
  | 30 => ("WhoCommandsModel", "p", "I", false)
  | 31 => ("WhoCommandsModel", "fault", "I", false)
  | 32 => ("WhoCommandsModel", "laws", "I", false)
  | 33 => ("WhoCommandsModel", "entries", "I", false)
  | 34 => ("WhoCommandsModel", "deep", "I", false)
  | 35 => ("WhoCommandsModel", "counted", "I", false)
  | 36 => ("WhoCommandsModel", "opened", "I", false)
  | 37 => ("WhoCommandsModel", "tape", "[B", true)
  | 38 => ("WhoCommandsModel", "sort", "[I", true)
  | 39 => ("WhoCommandsModel", "number", "[I", true)
  | 40 => ("WhoCommandsModel", "clauses", "[I", true)
  | 41 => ("WhoCommandsModel", "tells", "[I", true)
  | 42 => ("WhoCommandsModel", "keyOf", "[I", true)
  | 43 => ("WhoCommandsModel", "testAt", "[I", true)
  | 44 => ("WhoCommandsModel", "endAt", "[I", true)
  | 45 => ("WhoCommandsModel", "open", "[I", true)
  | 46 => ("WhoCommandsModel", "asked", "[J", true)
  | 47 => ("WhoCommandsModel", "stack", "[J", true)
  | 48 => ("WhoCommandsModel", "isDown", "[Z", true)
  | 49 => ("WhoCommandsModel", "isThere", "[Z", true)
  | 50 => ("WhoCommandsModel", "keys", "[J", true)
  | 51 => ("WhoCommandsModel", "ofPaper", "[Z", true)
  | 52 => ("WhoCommandsModel", "messageOf", "[I", true)
  | 53 => ("WhoCommandsModel", "messageTo", "[I", true)
  | 54 => ("WhoCommandsModel", "messageIn", "[I", true)
  | 55 => ("WhoCommandsModel", "ignored", "I", false)
  | 56 => ("WhoCommandsModel", "besides", "[Z", true)
  | 57 => ("WhoCommandsModel", "giver", "[I", true)
  | 58 => ("WhoCommandsModel", "orderTo", "[I", true)
  | 59 => ("WhoCommandsModel", "thing", "[I", true)
  | 60 => ("WhoCommandsModel", "givenIn", "[I", true)
  | 61 => ("WhoCommandsModel", "comesIn", "[I", true)
  | 62 => ("WhoCommandsModel", "until", "[I", true)
  | 63 => ("WhoCommandsModel", "mostWrong", "I", false)
  | 64 => ("WhoCommandsModel", "draw", "J", false)
  | 65 => ("WhoCommandsModel", "marks", "[I", true)
  | 66 => ("WhoCommandsModel", "scalars", "[I", true)
  | 67 => ("WhoCommandsModel", "ofPapers", "[I", true)
  | 68 => ("WhoCommandsModel", "isMarked", "[Z", true)
  | 69 => ("WhoCommandsModel", "markAt", "I", false)
  | _ => ("WhoCommandsModel", "isBack", "Z", false)
def tyX9 : Nat → FieldType := fun k => match k with
  | 0 => .int
  | 1 => .int
  | 2 => .int
  | 3 => .int
  | 4 => .int
  | 5 => .int
  | 6 => .int
  | 7 => .int
  | 8 => .array .int
  | 9 => .array .int
  | 10 => .array .int
  | 11 => .array .int
  | 12 => .array .int
  | 13 => .array .int
  | 14 => .array .int
  | 15 => .array .int
  | 16 => .array .int
  | 17 => .array .int
  | 18 => .array .int
  | 19 => .array .int
  | 20 => .array .int
  | 21 => .array .int
  | 22 => .array .int
  | 23 => .array .int
  | 24 => .array .int
  | 25 => .array .int
  | 26 => .array .int
  | 27 => .array .int
  | 28 => .array .int
  | 29 => .int
  | 30 => .int
  | 31 => .int
  | 32 => .int
  | 33 => .int
  | 34 => .int
  | 35 => .int
  | 36 => .int
  | 37 => .array .byte
  | 38 => .array .int
  | 39 => .array .int
  | 40 => .array .int
  | 41 => .array .int
  | 42 => .array .int
  | 43 => .array .int
  | 44 => .array .int
  | 45 => .array .int
  | 46 => .array .long
  | 47 => .array .long
  | 48 => .array .boolean
  | 49 => .array .boolean
  | 50 => .array .long
  | 51 => .array .boolean
  | 52 => .array .int
  | 53 => .array .int
  | 54 => .array .int
  | 55 => .int
  | 56 => .array .boolean
  | 57 => .array .int
  | 58 => .array .int
  | 59 => .array .int
  | 60 => .array .int
  | 61 => .array .int
  | 62 => .array .int
  | 63 => .int
  | 64 => .long
  | 65 => .array .int
  | 66 => .array .int
  | 67 => .array .int
  | 68 => .array .boolean
  | 69 => .int
  | _ => .boolean
abbrev wsX90 : List Cond := u_ws RX9 TX9 71
theorem nmX9 : ∀ a, a < 71 → ∀ b, b < 71 → a ≠ b → (TX9 a).2.1 ≠ (TX9 b).2.1 := by decide +kernel
theorem tyX9_ok : ∀ k, k < 71 → parseFieldDescriptor (TX9 k).2.2.1 = some (tyX9 k) := by decide +kernel
abbrev cX9_init : ByteArray := prog_11_method_1_code
def yX9_init : MethodName := ⟨RX9, "<init>", "()V"⟩
abbrev cX9_in : ByteArray := prog_11_method_3_code
def yX9_in : MethodName := ⟨RX9, "in", "(JJJ)Z"⟩
abbrev cX9_isMinute : ByteArray := prog_11_method_4_code
def yX9_isMinute : MethodName := ⟨RX9, "isMinute", "(I)Z"⟩
abbrev cX9_isBody : ByteArray := prog_11_method_5_code
def yX9_isBody : MethodName := ⟨RX9, "isBody", "(I)Z"⟩
abbrev cX9_isPerson : ByteArray := prog_11_method_6_code
def yX9_isPerson : MethodName := ⟨RX9, "isPerson", "(I)Z"⟩
abbrev cX9_body : ByteArray := prog_11_method_7_code
def yX9_body : MethodName := ⟨RX9, "body", "(IIII)I"⟩
abbrev cX9_person : ByteArray := prog_11_method_8_code
def yX9_person : MethodName := ⟨RX9, "person", "(IIIII)I"⟩
abbrev cX9_step : ByteArray := prog_11_method_9_code
def yX9_step : MethodName := ⟨RX9, "step", "(IIII)I"⟩
abbrev cX9_stepAt : ByteArray := prog_11_method_10_code
def yX9_stepAt : MethodName := ⟨RX9, "stepAt", "(II)I"⟩
abbrev cX9_placeX : ByteArray := prog_11_method_11_code
def yX9_placeX : MethodName := ⟨RX9, "placeX", "(II)I"⟩
abbrev cX9_placeY : ByteArray := prog_11_method_12_code
def yX9_placeY : MethodName := ⟨RX9, "placeY", "(II)I"⟩
abbrev cX9_apart : ByteArray := prog_11_method_13_code
def yX9_apart : MethodName := ⟨RX9, "apart", "(II)I"⟩
abbrev cX9_nearTo : ByteArray := prog_11_method_14_code
def yX9_nearTo : MethodName := ⟨RX9, "nearTo", "(III)I"⟩
abbrev cX9_near : ByteArray := prog_11_method_15_code
def yX9_near : MethodName := ⟨RX9, "near", "(III)I"⟩
abbrev cX9_paper : ByteArray := prog_11_method_16_code
def yX9_paper : MethodName := ⟨RX9, "paper", "(IIII)I"⟩
abbrev cX9_placeIn : ByteArray := prog_11_method_17_code
def yX9_placeIn : MethodName := ⟨RX9, "placeIn", "(II)I"⟩
abbrev cX9_list : ByteArray := prog_11_method_18_code
def yX9_list : MethodName := ⟨RX9, "list", "(II)I"⟩
abbrev cX9_falls : ByteArray := prog_11_method_19_code
def yX9_falls : MethodName := ⟨RX9, "falls", "(II)Z"⟩
abbrev cX9_feed : ByteArray := prog_11_method_20_code
def yX9_feed : MethodName := ⟨RX9, "feed", "(IIIII)I"⟩
abbrev cX9_put : ByteArray := prog_11_method_21_code
def yX9_put : MethodName := ⟨RX9, "put", "(I)V"⟩
abbrev cX9_end : ByteArray := prog_11_method_22_code
def yX9_end : MethodName := ⟨RX9, "end", "(I)I"⟩
abbrev cX9_wordOf : ByteArray := prog_11_method_23_code
def yX9_wordOf : MethodName := ⟨RX9, "wordOf", "(I)Ljava/lang/String;"⟩
abbrev cX9_clauseOf : ByteArray := prog_11_method_24_code
def yX9_clauseOf : MethodName := ⟨RX9, "clauseOf", "(I)Ljava/lang/String;"⟩
abbrev cX9_keyName : ByteArray := prog_11_method_25_code
def yX9_keyName : MethodName := ⟨RX9, "keyName", "(I)Ljava/lang/String;"⟩
abbrev cX9_fails : ByteArray := prog_11_method_26_code
def yX9_fails : MethodName := ⟨RX9, "fails", "(II)V"⟩
abbrev cX9_sign : ByteArray := prog_11_method_27_code
def yX9_sign : MethodName := ⟨RX9, "sign", "()I"⟩
abbrev cX9_blanks : ByteArray := prog_11_method_28_code
def yX9_blanks : MethodName := ⟨RX9, "blanks", "()V"⟩
abbrev cX9_isDigit : ByteArray := prog_11_method_29_code
def yX9_isDigit : MethodName := ⟨RX9, "isDigit", "()Z"⟩
abbrev cX9_stands : ByteArray := prog_11_method_30_code
def yX9_stands : MethodName := ⟨RX9, "stands", "(Ljava/lang/String;)Z"⟩
abbrev cX9_takes : ByteArray := prog_11_method_31_code
def yX9_takes : MethodName := ⟨RX9, "takes", "(Ljava/lang/String;)Z"⟩
abbrev cX9_entry : ByteArray := prog_11_method_32_code
def yX9_entry : MethodName := ⟨RX9, "entry", "(II)V"⟩
abbrev cX9_isCounted : ByteArray := prog_11_method_33_code
def yX9_isCounted : MethodName := ⟨RX9, "isCounted", "(I)V"⟩
abbrev cX9_digits : ByteArray := prog_11_method_34_code
def yX9_digits : MethodName := ⟨RX9, "digits", "(I)I"⟩
abbrev cX9_value : ByteArray := prog_11_method_35_code
def yX9_value : MethodName := ⟨RX9, "value", "()V"⟩
abbrev cX9_sum : ByteArray := prog_11_method_36_code
def yX9_sum : MethodName := ⟨RX9, "sum", "()V"⟩
abbrev cX9_compared : ByteArray := prog_11_method_37_code
def yX9_compared : MethodName := ⟨RX9, "compared", "()V"⟩
abbrev cX9_top : ByteArray := prog_11_method_38_code
def yX9_top : MethodName := ⟨RX9, "top", "()I"⟩
abbrev cX9_opens : ByteArray := prog_11_method_39_code
def yX9_opens : MethodName := ⟨RX9, "opens", "(I)V"⟩
abbrev cX9_answers : ByteArray := prog_11_method_40_code
def yX9_answers : MethodName := ⟨RX9, "answers", "(I)V"⟩
abbrev cX9_fact : ByteArray := prog_11_method_41_code
def yX9_fact : MethodName := ⟨RX9, "fact", "()Z"⟩
abbrev cX9_test : ByteArray := prog_11_method_42_code
def yX9_test : MethodName := ⟨RX9, "test", "()V"⟩
abbrev cX9_clause : ByteArray := prog_11_method_43_code
def yX9_clause : MethodName := ⟨RX9, "clause", "(I)V"⟩
abbrev cX9_law : ByteArray := prog_11_method_44_code
def yX9_law : MethodName := ⟨RX9, "law", "()I"⟩
abbrev cX9_rules : ByteArray := prog_11_method_45_code
def yX9_rules : MethodName := ⟨RX9, "rules", "(II)Z"⟩
abbrev cX9_truth : ByteArray := prog_11_method_46_code
def yX9_truth : MethodName := ⟨RX9, "truth", "(Z)J"⟩
abbrev cX9_both : ByteArray := prog_11_method_47_code
def yX9_both : MethodName := ⟨RX9, "both", "(IJJ)J"⟩
abbrev cX9_answer : ByteArray := prog_11_method_48_code
def yX9_answer : MethodName := ⟨RX9, "answer", "(III)J"⟩
abbrev cX9_asItIs : ByteArray := prog_11_method_49_code
def yX9_asItIs : MethodName := ⟨RX9, "asItIs", "(I)V"⟩
abbrev cX9_hasPaper : ByteArray := prog_11_method_50_code
def yX9_hasPaper : MethodName := ⟨RX9, "hasPaper", "(III)Z"⟩
abbrev cX9_below : ByteArray := prog_11_method_51_code
def yX9_below : MethodName := ⟨RX9, "below", "(II)I"⟩
abbrev cX9_looks : ByteArray := prog_11_method_52_code
def yX9_looks : MethodName := ⟨RX9, "looks", "(III)V"⟩
abbrev cX9_keyed : ByteArray := prog_11_method_53_code
def yX9_keyed : MethodName := ⟨RX9, "keyed", "(I[J)J"⟩
abbrev cX9_works : ByteArray := prog_11_method_54_code
def yX9_works : MethodName := ⟨RX9, "works", "(IIII)Z"⟩
abbrev cX9_parts : ByteArray := prog_11_method_55_code
def yX9_parts : MethodName := ⟨RX9, "parts", "(III)I"⟩
abbrev cX9_isAhead : ByteArray := prog_11_method_56_code
def yX9_isAhead : MethodName := ⟨RX9, "isAhead", "(III)Z"⟩
abbrev cX9_mayOf : ByteArray := prog_11_method_57_code
def yX9_mayOf : MethodName := ⟨RX9, "mayOf", "(II)I"⟩
abbrev cX9_firstOf : ByteArray := prog_11_method_58_code
def yX9_firstOf : MethodName := ⟨RX9, "firstOf", "(II)I"⟩
abbrev cX9_chosen : ByteArray := prog_11_method_59_code
def yX9_chosen : MethodName := ⟨RX9, "chosen", "(II)I"⟩
abbrev cX9_may : ByteArray := prog_11_method_60_code
def yX9_may : MethodName := ⟨RX9, "may", "(II)I"⟩
abbrev cX9_commanding : ByteArray := prog_11_method_61_code
def yX9_commanding : MethodName := ⟨RX9, "commanding", "(II)I"⟩
abbrev cX9_commands : ByteArray := prog_11_method_62_code
def yX9_commands : MethodName := ⟨RX9, "commands", "(II)I"⟩
abbrev cX9_ahead : ByteArray := prog_11_method_63_code
def yX9_ahead : MethodName := ⟨RX9, "ahead", "(IIIII)I"⟩
abbrev cX9_message : ByteArray := prog_11_method_64_code
def yX9_message : MethodName := ⟨RX9, "message", "(ZIII)I"⟩
abbrev cX9_sight : ByteArray := prog_11_method_65_code
def yX9_sight : MethodName := ⟨RX9, "sight", "(I)I"⟩
abbrev cX9_hasHeard : ByteArray := prog_11_method_66_code
def yX9_hasHeard : MethodName := ⟨RX9, "hasHeard", "(IZII)Z"⟩
abbrev cX9_saw : ByteArray := prog_11_method_67_code
def yX9_saw : MethodName := ⟨RX9, "saw", "(III)Z"⟩
abbrev cX9_hasFallen : ByteArray := prog_11_method_68_code
def yX9_hasFallen : MethodName := ⟨RX9, "hasFallen", "(II)Z"⟩
abbrev cX9_knowsFall : ByteArray := prog_11_method_69_code
def yX9_knowsFall : MethodName := ⟨RX9, "knowsFall", "(III)Z"⟩
abbrev cX9_knows : ByteArray := prog_11_method_70_code
def yX9_knows : MethodName := ⟨RX9, "knows", "(IZII)I"⟩
abbrev cX9_nobodyBesides : ByteArray := prog_11_method_71_code
def yX9_nobodyBesides : MethodName := ⟨RX9, "nobodyBesides", "()V"⟩
abbrev cX9_asTaken : ByteArray := prog_11_method_72_code
def yX9_asTaken : MethodName := ⟨RX9, "asTaken", "(II)V"⟩
abbrev cX9_thinks : ByteArray := prog_11_method_73_code
def yX9_thinks : MethodName := ⟨RX9, "thinks", "(III)I"⟩
abbrev cX9_commandingBesides : ByteArray := prog_11_method_74_code
def yX9_commandingBesides : MethodName := ⟨RX9, "commandingBesides", "(II)I"⟩
abbrev cX9_wrongs : ByteArray := prog_11_method_75_code
def yX9_wrongs : MethodName := ⟨RX9, "wrongs", "(II)I"⟩
abbrev cX9_wrong : ByteArray := prog_11_method_76_code
def yX9_wrong : MethodName := ⟨RX9, "wrong", "(II)I"⟩
abbrev cX9_order : ByteArray := prog_11_method_77_code
def yX9_order : MethodName := ⟨RX9, "order", "(IIIIII)I"⟩
abbrev cX9_isOrder : ByteArray := prog_11_method_78_code
def yX9_isOrder : MethodName := ⟨RX9, "isOrder", "(I)Z"⟩
abbrev cX9_seatOf : ByteArray := prog_11_method_79_code
def yX9_seatOf : MethodName := ⟨RX9, "seatOf", "(I)I"⟩
abbrev cX9_seat : ByteArray := prog_11_method_80_code
def yX9_seat : MethodName := ⟨RX9, "seat", "(I)I"⟩
abbrev cX9_isLapsed : ByteArray := prog_11_method_81_code
def yX9_isLapsed : MethodName := ⟨RX9, "isLapsed", "(II)Z"⟩
abbrev cX9_isInForce : ByteArray := prog_11_method_82_code
def yX9_isInForce : MethodName := ⟨RX9, "isInForce", "(II)Z"⟩
abbrev cX9_force : ByteArray := prog_11_method_83_code
def yX9_force : MethodName := ⟨RX9, "force", "(II)I"⟩
abbrev cX9_level : ByteArray := prog_11_method_84_code
def yX9_level : MethodName := ⟨RX9, "level", "(I)I"⟩
abbrev cX9_binding : ByteArray := prog_11_method_85_code
def yX9_binding : MethodName := ⟨RX9, "binding", "(II)I"⟩
abbrev cX9_bound : ByteArray := prog_11_method_86_code
def yX9_bound : MethodName := ⟨RX9, "bound", "(II)I"⟩
abbrev cX9_cross : ByteArray := prog_11_method_87_code
def yX9_cross : MethodName := ⟨RX9, "cross", "(II)I"⟩
abbrev cX9_answers_ : ByteArray := prog_11_method_88_code
def yX9_answers_ : MethodName := ⟨RX9, "answers", "(III)I"⟩
abbrev cX9_gaps : ByteArray := prog_11_method_89_code
def yX9_gaps : MethodName := ⟨RX9, "gaps", "(IIII)I"⟩
abbrev cX9_bits : ByteArray := prog_11_method_90_code
def yX9_bits : MethodName := ⟨RX9, "bits", "(I)I"⟩
abbrev cX9_doubted : ByteArray := prog_11_method_91_code
def yX9_doubted : MethodName := ⟨RX9, "doubted", "(II)I"⟩
abbrev cX9_doubt : ByteArray := prog_11_method_92_code
def yX9_doubt : MethodName := ⟨RX9, "doubt", "(III)I"⟩
abbrev cX9_allied : ByteArray := prog_11_method_93_code
def yX9_allied : MethodName := ⟨RX9, "allied", "(IIII)I"⟩
abbrev cX9_mended : ByteArray := prog_11_method_94_code
def yX9_mended : MethodName := ⟨RX9, "mended", "(III)I"⟩
abbrev cX9_judge : ByteArray := prog_11_method_95_code
def yX9_judge : MethodName := ⟨RX9, "judge", "(IIII)I"⟩
abbrev cX9_hangs : ByteArray := prog_11_method_96_code
def yX9_hangs : MethodName := ⟨RX9, "hangs", "(III)I"⟩
abbrev cX9_brief : ByteArray := prog_11_method_97_code
def yX9_brief : MethodName := ⟨RX9, "brief", "(IIII)I"⟩
abbrev cX9_fights : ByteArray := prog_11_method_98_code
def yX9_fights : MethodName := ⟨RX9, "fights", "(IIIIII)I"⟩
abbrev cX9_carry : ByteArray := prog_11_method_99_code
def yX9_carry : MethodName := ⟨RX9, "carry", "([I)V"⟩
abbrev cX9_carries : ByteArray := prog_11_method_100_code
def yX9_carries : MethodName := ⟨RX9, "carries", "(I)V"⟩
abbrev cX9_mark : ByteArray := prog_11_method_101_code
def yX9_mark : MethodName := ⟨RX9, "mark", "(I)I"⟩
abbrev cX9_back : ByteArray := prog_11_method_102_code
def yX9_back : MethodName := ⟨RX9, "back", "(I)I"⟩
abbrev cX9_count : ByteArray := prog_11_method_103_code
def yX9_count : MethodName := ⟨RX9, "count", "(I)I"⟩
def RJx145de : String := "java/io/Serializable"
def TJx145de : u_T := fun k => match k with
  | _ => ("", "", "", false)
def tyJx145de : Nat → FieldType := fun k => match k with
  | _ => .int
abbrev wsJx145de0 : List Cond := u_ws RJx145de TJx145de 0
theorem nmJx145de : ∀ a, a < 0 → ∀ b, b < 0 → a ≠ b → (TJx145de a).2.1 ≠ (TJx145de b).2.1 := by decide +kernel
theorem tyJx145de_ok : ∀ k, k < 0 → parseFieldDescriptor (TJx145de k).2.2.1 = some (tyJx145de k) := by decide +kernel
def RJx9f9b0 : String := "java/lang/CharSequence"
def TJx9f9b0 : u_T := fun k => match k with
  | _ => ("", "", "", false)
def tyJx9f9b0 : Nat → FieldType := fun k => match k with
  | _ => .int
abbrev wsJx9f9b00 : List Cond := u_ws RJx9f9b0 TJx9f9b0 0
theorem nmJx9f9b0 : ∀ a, a < 0 → ∀ b, b < 0 → a ≠ b → (TJx9f9b0 a).2.1 ≠ (TJx9f9b0 b).2.1 := by decide +kernel
theorem tyJx9f9b0_ok : ∀ k, k < 0 → parseFieldDescriptor (TJx9f9b0 k).2.2.1 = some (tyJx9f9b0 k) := by decide +kernel
def RJx8e188 : String := "java/lang/Cloneable"
def TJx8e188 : u_T := fun k => match k with
  | _ => ("", "", "", false)
def tyJx8e188 : Nat → FieldType := fun k => match k with
  | _ => .int
abbrev wsJx8e1880 : List Cond := u_ws RJx8e188 TJx8e188 0
theorem nmJx8e188 : ∀ a, a < 0 → ∀ b, b < 0 → a ≠ b → (TJx8e188 a).2.1 ≠ (TJx8e188 b).2.1 := by decide +kernel
theorem tyJx8e188_ok : ∀ k, k < 0 → parseFieldDescriptor (TJx8e188 k).2.2.1 = some (tyJx8e188 k) := by decide +kernel
def RJxb160c : String := "java/lang/Comparable"
def TJxb160c : u_T := fun k => match k with
  | _ => ("", "", "", false)
def tyJxb160c : Nat → FieldType := fun k => match k with
  | _ => .int
abbrev wsJxb160c0 : List Cond := u_ws RJxb160c TJxb160c 0
theorem nmJxb160c : ∀ a, a < 0 → ∀ b, b < 0 → a ≠ b → (TJxb160c a).2.1 ≠ (TJxb160c b).2.1 := by decide +kernel
theorem tyJxb160c_ok : ∀ k, k < 0 → parseFieldDescriptor (TJxb160c k).2.2.1 = some (tyJxb160c k) := by decide +kernel
def RJ6 : String := "java/lang/Integer"
def TJ6 : u_T := fun k => match k with
  | _ => ("", "", "", false)
def tyJ6 : Nat → FieldType := fun k => match k with
  | _ => .int
abbrev wsJ60 : List Cond := u_ws RJ6 TJ6 0
theorem nmJ6 : ∀ a, a < 0 → ∀ b, b < 0 → a ≠ b → (TJ6 a).2.1 ≠ (TJ6 b).2.1 := by decide +kernel
theorem tyJ6_ok : ∀ k, k < 0 → parseFieldDescriptor (TJ6 k).2.2.1 = some (tyJ6 k) := by decide +kernel
abbrev cJ6_bitCount_0f7a4 : ByteArray := prog_13_method_49_code
def yJ6_bitCount_0f7a4 : MethodName := ⟨RJ6, "bitCount", "(I)I"⟩
def RJ9 : String := "java/lang/Math"
def TJ9 : u_T := fun k => match k with
  | _ => ("", "", "", false)
def tyJ9 : Nat → FieldType := fun k => match k with
  | _ => .int
abbrev wsJ90 : List Cond := u_ws RJ9 TJ9 0
theorem nmJ9 : ∀ a, a < 0 → ∀ b, b < 0 → a ≠ b → (TJ9 a).2.1 ≠ (TJ9 b).2.1 := by decide +kernel
theorem tyJ9_ok : ∀ k, k < 0 → parseFieldDescriptor (TJ9 k).2.2.1 = some (tyJ9 k) := by decide +kernel
abbrev cJ9_abs_0f7a4 : ByteArray := prog_14_method_59_code
def yJ9_abs_0f7a4 : MethodName := ⟨RJ9, "abs", "(I)I"⟩
abbrev cJ9_max_7cf53 : ByteArray := prog_14_method_65_code
def yJ9_max_7cf53 : MethodName := ⟨RJ9, "max", "(II)I"⟩
abbrev cJ9_min_7cf53 : ByteArray := prog_14_method_69_code
def yJ9_min_7cf53 : MethodName := ⟨RJ9, "min", "(II)I"⟩
def RJ0 : String := "java/lang/String"
def TJ0 : u_T := fun k => match k with
  | _ => ("", "", "", false)
def tyJ0 : Nat → FieldType := fun k => match k with
  | _ => .int
abbrev wsJ00 : List Cond := u_ws RJ0 TJ0 0
theorem nmJ0 : ∀ a, a < 0 → ∀ b, b < 0 → a ≠ b → (TJ0 a).2.1 ≠ (TJ0 b).2.1 := by decide +kernel
theorem tyJ0_ok : ∀ k, k < 0 → parseFieldDescriptor (TJ0 k).2.2.1 = some (tyJ0 k) := by decide +kernel
abbrev cJ0_length_8abf5 : ByteArray := prog_15_method_54_code
def yJ0_length_8abf5 : MethodName := ⟨RJ0, "length", "()I"⟩
abbrev cJ0_charAt_5068e : ByteArray := prog_15_method_56_code
def yJ0_charAt_5068e : MethodName := ⟨RJ0, "charAt", "(I)C"⟩
abbrev cJ0_coder_7d493 : ByteArray := prog_15_method_152_code
def yJ0_coder_7d493 : MethodName := ⟨RJ0, "coder", "()B"⟩
abbrev cJ0_isLatin1_aae02 : ByteArray := prog_15_method_154_code
def yJ0_isLatin1_aae02 : MethodName := ⟨RJ0, "isLatin1", "()Z"⟩
abbrev cJ0_checkIndex_df160 : ByteArray := prog_15_method_155_code
def yJ0_checkIndex_df160 : MethodName := ⟨RJ0, "checkIndex", "(II)V"⟩
def RJ1 : String := "java/lang/StringLatin1"
def TJ1 : u_T := fun k => match k with
  | _ => ("", "", "", false)
def tyJ1 : Nat → FieldType := fun k => match k with
  | _ => .int
abbrev wsJ10 : List Cond := u_ws RJ1 TJ1 0
theorem nmJ1 : ∀ a, a < 0 → ∀ b, b < 0 → a ≠ b → (TJ1 a).2.1 ≠ (TJ1 b).2.1 := by decide +kernel
theorem tyJ1_ok : ∀ k, k < 0 → parseFieldDescriptor (TJ1 k).2.2.1 = some (tyJ1 k) := by decide +kernel
abbrev cJ1_charAt_3b067 : ByteArray := prog_16_method_2_code
def yJ1_charAt_3b067 : MethodName := ⟨RJ1, "charAt", "([BI)C"⟩
def RJ2 : String := "java/lang/StringUTF16"
def TJ2 : u_T := fun k => match k with
  | _ => ("", "", "", false)
def tyJ2 : Nat → FieldType := fun k => match k with
  | _ => .int
abbrev wsJ20 : List Cond := u_ws RJ2 TJ2 0
theorem nmJ2 : ∀ a, a < 0 → ∀ b, b < 0 → a ≠ b → (TJ2 a).2.1 ≠ (TJ2 b).2.1 := by decide +kernel
theorem tyJ2_ok : ∀ k, k < 0 → parseFieldDescriptor (TJ2 k).2.2.1 = some (tyJ2 k) := by decide +kernel
abbrev cJ2_getChar_3b067 : ByteArray := prog_17_method_5_code
def yJ2_getChar_3b067 : MethodName := ⟨RJ2, "getChar", "([BI)C"⟩
abbrev cJ2_length_9d52b : ByteArray := prog_17_method_6_code
def yJ2_length_9d52b : MethodName := ⟨RJ2, "length", "([B)I"⟩
abbrev cJ2_charAt_3b067 : ByteArray := prog_17_method_83_code
def yJ2_charAt_3b067 : MethodName := ⟨RJ2, "charAt", "([BI)C"⟩
abbrev cJ2_checkIndex_2214a : ByteArray := prog_17_method_91_code
def yJ2_checkIndex_2214a : MethodName := ⟨RJ2, "checkIndex", "(I[B)V"⟩
def RJ10 : String := "java/lang/System"
def TJ10 : u_T := fun k => match k with
  | _ => ("", "", "", false)
def tyJ10 : Nat → FieldType := fun k => match k with
  | _ => .int
abbrev wsJ100 : List Cond := u_ws RJ10 TJ10 0
theorem nmJ10 : ∀ a, a < 0 → ∀ b, b < 0 → a ≠ b → (TJ10 a).2.1 ≠ (TJ10 b).2.1 := by decide +kernel
theorem tyJ10_ok : ∀ k, k < 0 → parseFieldDescriptor (TJ10 k).2.2.1 = some (tyJ10 k) := by decide +kernel
def RJxfd54e : String := "java/lang/constant/Constable"
def TJxfd54e : u_T := fun k => match k with
  | _ => ("", "", "", false)
def tyJxfd54e : Nat → FieldType := fun k => match k with
  | _ => .int
abbrev wsJxfd54e0 : List Cond := u_ws RJxfd54e TJxfd54e 0
theorem nmJxfd54e : ∀ a, a < 0 → ∀ b, b < 0 → a ≠ b → (TJxfd54e a).2.1 ≠ (TJxfd54e b).2.1 := by decide +kernel
theorem tyJxfd54e_ok : ∀ k, k < 0 → parseFieldDescriptor (TJxfd54e k).2.2.1 = some (tyJxfd54e k) := by decide +kernel
def RJx3cf43 : String := "java/lang/constant/ConstantDesc"
def TJx3cf43 : u_T := fun k => match k with
  | _ => ("", "", "", false)
def tyJx3cf43 : Nat → FieldType := fun k => match k with
  | _ => .int
abbrev wsJx3cf430 : List Cond := u_ws RJx3cf43 TJx3cf43 0
theorem nmJx3cf43 : ∀ a, a < 0 → ∀ b, b < 0 → a ≠ b → (TJx3cf43 a).2.1 ≠ (TJx3cf43 b).2.1 := by decide +kernel
theorem tyJx3cf43_ok : ∀ k, k < 0 → parseFieldDescriptor (TJx3cf43 k).2.2.1 = some (tyJx3cf43 k) := by decide +kernel
def RJ7 : String := "java/util/Arrays"
def TJ7 : u_T := fun k => match k with
  | _ => ("", "", "", false)
def tyJ7 : Nat → FieldType := fun k => match k with
  | _ => .int
abbrev wsJ70 : List Cond := u_ws RJ7 TJ7 0
theorem nmJ7 : ∀ a, a < 0 → ∀ b, b < 0 → a ≠ b → (TJ7 a).2.1 ≠ (TJ7 b).2.1 := by decide +kernel
theorem tyJ7_ok : ∀ k, k < 0 → parseFieldDescriptor (TJ7 k).2.2.1 = some (tyJ7 k) := by decide +kernel
abbrev cJ7_fill_53178 : ByteArray := prog_19_method_103_code
def yJ7_fill_53178 : MethodName := ⟨RJ7, "fill", "([II)V"⟩
abbrev cJ7_copyOf_59c91 : ByteArray := prog_19_method_123_code
def yJ7_copyOf_59c91 : MethodName := ⟨RJ7, "copyOf", "([II)[I"⟩
def RJ3 : String := "jdk/internal/util/Preconditions"
def TJ3 : u_T := fun k => match k with
  | _ => ("", "", "", false)
def tyJ3 : Nat → FieldType := fun k => match k with
  | _ => .int
abbrev wsJ30 : List Cond := u_ws RJ3 TJ3 0
theorem nmJ3 : ∀ a, a < 0 → ∀ b, b < 0 → a ≠ b → (TJ3 a).2.1 ≠ (TJ3 b).2.1 := by decide +kernel
theorem tyJ3_ok : ∀ k, k < 0 → parseFieldDescriptor (TJ3 k).2.2.1 = some (tyJ3 k) := by decide +kernel
abbrev cJ3_checkIndex_8e157 : ByteArray := prog_20_method_11_code
def yJ3_checkIndex_8e157 : MethodName := ⟨RJ3, "checkIndex", "(IILjava/util/function/BiFunction;)I"⟩
def RL : String := "WhoCommandsLaw"
abbrev cL_law : ByteArray := code
def yL_law : MethodName := ⟨RL, "law", "([I)Z"⟩
abbrev vwCl : List vw_C := [(RX0, TX0, 6), (RX1, TX1, 5), (RX2, TX2, 5), (RX3, TX3, 14), (RX4, TX4, 3), (RX5, TX5, 4), (RX6, TX6, 4), (RX7, TX7, 8), (RX8, TX8, 11), (RX9, TX9, 71)]
/-- the words that a callee may be given -/
def lw_good : List Cond := lw_tbl.filter goodWord
theorem lg_in {i : Nat} {w : Cond} (h : tables_1[i]? = some w) (hg : goodWord w = true) : w ∈ lw_good := List.mem_filter.mpr ⟨List.mem_append_right _ (List.mem_of_getElem? h), hg⟩
theorem lg_sel {i : Nat} {w : Cond} (h : (k2_sels lw_privs)[i]? = some w) (hg : goodWord w = true) : w ∈ lw_good := List.mem_filter.mpr ⟨List.mem_append_left _ (List.mem_of_getElem? h), hg⟩
theorem lg_tbl {w : Cond} (h : w ∈ lw_good) : w ∈ lw_tbl := (List.mem_filter.mp h).1
theorem lg_ok {w : Cond} (h : w ∈ lw_good) : (w.onTables && w.keeps) = true ∨ ∃ ty, w = .arrayClass ty := good_of_word (List.mem_filter.mp h).2
/-- the String constants: class, entry, text, number -/
def strTab : List (String × Nat × String × Nat) := [("WhoCommands$LawReader", 104, "minute rank day service post near paper listed own depth fallen since doing list first bar lapse if and or not ", 0), ("WhoCommandsModel", 236, "minute", 1), ("WhoCommandsModel", 238, "rank", 2), ("WhoCommandsModel", 239, "day", 3), ("WhoCommandsModel", 240, "service", 4), ("WhoCommandsModel", 241, "post", 5), ("WhoCommandsModel", 242, "near", 6), ("WhoCommandsModel", 244, "paper", 7), ("WhoCommandsModel", 246, "listed", 8), ("WhoCommandsModel", 247, "own", 9), ("WhoCommandsModel", 249, "depth", 10), ("WhoCommandsModel", 251, "fallen", 11), ("WhoCommandsModel", 253, "since", 12), ("WhoCommandsModel", 255, "doing", 13), ("WhoCommandsModel", 257, "first", 14), ("WhoCommandsModel", 259, "bar", 15), ("WhoCommandsModel", 261, "lapse", 16), ("WhoCommandsModel", 263, "list", 17), ("WhoCommandsModel", 341, "not", 18), ("WhoCommandsModel", 355, "and", 19), ("WhoCommandsModel", 357, "or", 20), ("WhoCommandsModel", 365, "if", 21)]
/-- the words of nest mates' links: they are carried beside the others -/
def isN_ : Cond → Bool
  | .fieldLinkNest .. => true
  | .methodLinkNest .. => true
  | .castable .. => true
  | _ => false
def nestW : List Cond := lw_tbl.filter isN_
theorem nw_in {i : Nat} {w : Cond} (h : tables_1[i]? = some w) (hg : isN_ w = true) : w ∈ nestW := List.mem_filter.mpr ⟨List.mem_append_right _ (List.mem_of_getElem? h), hg⟩
theorem nw_tbl {w : Cond} (h : w ∈ nestW) : w ∈ lw_tbl := (List.mem_filter.mp h).1
theorem nw_warm {w : Cond} (hw : w ∈ nestW) {s U : State} (hW : s.WarmedH U.vm) (hZ : va_Nw w s) : va_Nw w U := by
  have h := (List.mem_filter.mp hw).2
  unfold isN_ at h
  split at h
  · exact va_Nw.warmF hW hZ
  · exact va_Nw.warmM hW hZ
  · exact va_Nw.warmC hW hZ
  · cases h
theorem nw_on {w : Cond} (hw : w ∈ nestW) : w.onTables = true := by
  have h := (List.mem_filter.mp hw).2
  unfold isN_ at h
  split at h
  · rfl
  · rfl
  · rfl
  · cases h
