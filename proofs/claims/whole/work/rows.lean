section
-- ===== PART A: goes FIRST, ahead of the names: the tables' words, and 'selects' of the private methods out of them =====
/-- a private method of a class that the tables say can be made, by its rows of tables_1 -/
def lw_okq (q : MethodName × Nat) : Prop := (q.1.cls ≠ "java/lang/invoke/MethodHandle" ∧ q.1.cls ≠ "java/lang/invoke/VarHandle") ∧ Cond.instantiable q.1.cls q.2 ∈ tables_1 ∧ Cond.privateMethod q.1 ∈ tables_1 ∧ Cond.instanceMethod q.1 ∈ tables_1
theorem lw_p0 : lw_okq (⟨"GladSide$Shelves", "refuseRow", "(I)I"⟩, 3) := ⟨⟨by decide +kernel, by decide +kernel⟩, List.mem_of_getElem? (i := 172) (by decide +kernel), List.mem_of_getElem? (i := 420) (by decide +kernel), List.mem_of_getElem? (i := 421) (by decide +kernel)⟩
theorem lw_p1 : lw_okq (⟨"GladSide$Shelves", "isRow", "(I)Z"⟩, 3) := ⟨⟨by decide +kernel, by decide +kernel⟩, List.mem_of_getElem? (i := 172) (by decide +kernel), List.mem_of_getElem? (i := 431) (by decide +kernel), List.mem_of_getElem? (i := 432) (by decide +kernel)⟩
theorem lw_p2 : lw_okq (⟨"GladSide", "joyFromRow", "(II)Z"⟩, 15) := ⟨⟨by decide +kernel, by decide +kernel⟩, List.mem_of_getElem? (i := 18) (by decide +kernel), List.mem_of_getElem? (i := 435) (by decide +kernel), List.mem_of_getElem? (i := 436) (by decide +kernel)⟩
theorem lw_p3 : lw_okq (⟨"GladSide$Numbers", "listOf", "(I)[I"⟩, 2) := ⟨⟨by decide +kernel, by decide +kernel⟩, List.mem_of_getElem? (i := 136) (by decide +kernel), List.mem_of_getElem? (i := 479) (by decide +kernel), List.mem_of_getElem? (i := 480) (by decide +kernel)⟩
theorem lw_p4 : lw_okq (⟨"GladSide$Changes", "forgetOldest", "()V"⟩, 7) := ⟨⟨by decide +kernel, by decide +kernel⟩, List.mem_of_getElem? (i := 189) (by decide +kernel), List.mem_of_getElem? (i := 487) (by decide +kernel), List.mem_of_getElem? (i := 488) (by decide +kernel)⟩
theorem lw_p5 : lw_okq (⟨"GladSide$Tape", "readLine", "()V"⟩, 5) := ⟨⟨by decide +kernel, by decide +kernel⟩, List.mem_of_getElem? (i := 219) (by decide +kernel), List.mem_of_getElem? (i := 522) (by decide +kernel), List.mem_of_getElem? (i := 523) (by decide +kernel)⟩
theorem lw_p6 : lw_okq (⟨"GladSide$Tape", "readEither", "(I)V"⟩, 5) := ⟨⟨by decide +kernel, by decide +kernel⟩, List.mem_of_getElem? (i := 219) (by decide +kernel), List.mem_of_getElem? (i := 526) (by decide +kernel), List.mem_of_getElem? (i := 527) (by decide +kernel)⟩
theorem lw_p7 : lw_okq (⟨"GladSide$Tape", "readBoth", "(I)V"⟩, 5) := ⟨⟨by decide +kernel, by decide +kernel⟩, List.mem_of_getElem? (i := 219) (by decide +kernel), List.mem_of_getElem? (i := 530) (by decide +kernel), List.mem_of_getElem? (i := 531) (by decide +kernel)⟩
theorem lw_p8 : lw_okq (⟨"GladSide$Tape", "readCompared", "(I)V"⟩, 5) := ⟨⟨by decide +kernel, by decide +kernel⟩, List.mem_of_getElem? (i := 219) (by decide +kernel), List.mem_of_getElem? (i := 534) (by decide +kernel), List.mem_of_getElem? (i := 535) (by decide +kernel)⟩
theorem lw_p9 : lw_okq (⟨"GladSide$Tape", "readSum", "(I)V"⟩, 5) := ⟨⟨by decide +kernel, by decide +kernel⟩, List.mem_of_getElem? (i := 219) (by decide +kernel), List.mem_of_getElem? (i := 538) (by decide +kernel), List.mem_of_getElem? (i := 539) (by decide +kernel)⟩
theorem lw_p10 : lw_okq (⟨"GladSide$Tape", "readProduct", "(I)V"⟩, 5) := ⟨⟨by decide +kernel, by decide +kernel⟩, List.mem_of_getElem? (i := 219) (by decide +kernel), List.mem_of_getElem? (i := 542) (by decide +kernel), List.mem_of_getElem? (i := 543) (by decide +kernel)⟩
theorem lw_p11 : lw_okq (⟨"GladSide$Tape", "readOperand", "(I)V"⟩, 5) := ⟨⟨by decide +kernel, by decide +kernel⟩, List.mem_of_getElem? (i := 219) (by decide +kernel), List.mem_of_getElem? (i := 546) (by decide +kernel), List.mem_of_getElem? (i := 547) (by decide +kernel)⟩
theorem lw_p12 : lw_okq (⟨"GladSide$Tape", "next", "()I"⟩, 5) := ⟨⟨by decide +kernel, by decide +kernel⟩, List.mem_of_getElem? (i := 219) (by decide +kernel), List.mem_of_getElem? (i := 550) (by decide +kernel), List.mem_of_getElem? (i := 551) (by decide +kernel)⟩
theorem lw_p13 : lw_okq (⟨"GladSide$Tape", "readNumber", "()V"⟩, 5) := ⟨⟨by decide +kernel, by decide +kernel⟩, List.mem_of_getElem? (i := 219) (by decide +kernel), List.mem_of_getElem? (i := 560) (by decide +kernel), List.mem_of_getElem? (i := 561) (by decide +kernel)⟩
theorem lw_p14 : lw_okq (⟨"GladSide$Tape", "takes", "(I)Z"⟩, 5) := ⟨⟨by decide +kernel, by decide +kernel⟩, List.mem_of_getElem? (i := 219) (by decide +kernel), List.mem_of_getElem? (i := 568) (by decide +kernel), List.mem_of_getElem? (i := 569) (by decide +kernel)⟩
theorem lw_p15 : lw_okq (⟨"GladSide$Smells", "othersRunning", "(I)I"⟩, 4) := ⟨⟨by decide +kernel, by decide +kernel⟩, List.mem_of_getElem? (i := 245) (by decide +kernel), List.mem_of_getElem? (i := 604) (by decide +kernel), List.mem_of_getElem? (i := 605) (by decide +kernel)⟩
def lw_privs_1 : List (MethodName × Nat) := [(⟨"GladSide$Shelves", "refuseRow", "(I)I"⟩, 3), (⟨"GladSide$Shelves", "isRow", "(I)Z"⟩, 3), (⟨"GladSide", "joyFromRow", "(II)Z"⟩, 15), (⟨"GladSide$Numbers", "listOf", "(I)[I"⟩, 2), (⟨"GladSide$Changes", "forgetOldest", "()V"⟩, 7), (⟨"GladSide$Tape", "readLine", "()V"⟩, 5), (⟨"GladSide$Tape", "readEither", "(I)V"⟩, 5), (⟨"GladSide$Tape", "readBoth", "(I)V"⟩, 5), (⟨"GladSide$Tape", "readCompared", "(I)V"⟩, 5), (⟨"GladSide$Tape", "readSum", "(I)V"⟩, 5), (⟨"GladSide$Tape", "readProduct", "(I)V"⟩, 5), (⟨"GladSide$Tape", "readOperand", "(I)V"⟩, 5), (⟨"GladSide$Tape", "next", "()I"⟩, 5), (⟨"GladSide$Tape", "readNumber", "()V"⟩, 5), (⟨"GladSide$Tape", "takes", "(I)Z"⟩, 5), (⟨"GladSide$Smells", "othersRunning", "(I)I"⟩, 4)]
theorem lw_r1 : ∀ q ∈ lw_privs_1, lw_okq q := List.forall_mem_cons.mpr ⟨lw_p0, List.forall_mem_cons.mpr ⟨lw_p1, List.forall_mem_cons.mpr ⟨lw_p2, List.forall_mem_cons.mpr ⟨lw_p3, List.forall_mem_cons.mpr ⟨lw_p4, List.forall_mem_cons.mpr ⟨lw_p5, List.forall_mem_cons.mpr ⟨lw_p6, List.forall_mem_cons.mpr ⟨lw_p7, List.forall_mem_cons.mpr ⟨lw_p8, List.forall_mem_cons.mpr ⟨lw_p9, List.forall_mem_cons.mpr ⟨lw_p10, List.forall_mem_cons.mpr ⟨lw_p11, List.forall_mem_cons.mpr ⟨lw_p12, List.forall_mem_cons.mpr ⟨lw_p13, List.forall_mem_cons.mpr ⟨lw_p14, List.forall_mem_cons.mpr ⟨lw_p15, fun _ h => absurd h List.not_mem_nil⟩⟩⟩⟩⟩⟩⟩⟩⟩⟩⟩⟩⟩⟩⟩⟩
theorem lw_p16 : lw_okq (⟨"GladSide$Smells", "byText", "(III)I"⟩, 4) := ⟨⟨by decide +kernel, by decide +kernel⟩, List.mem_of_getElem? (i := 245) (by decide +kernel), List.mem_of_getElem? (i := 616) (by decide +kernel), List.mem_of_getElem? (i := 617) (by decide +kernel)⟩
theorem lw_p17 : lw_okq (⟨"GladSide$Law", "valueOf", "(I)I"⟩, 5) := ⟨⟨by decide +kernel, by decide +kernel⟩, List.mem_of_getElem? (i := 149) (by decide +kernel), List.mem_of_getElem? (i := 624) (by decide +kernel), List.mem_of_getElem? (i := 625) (by decide +kernel)⟩
theorem lw_p18 : lw_okq (⟨"GladSide$Smells", "holdsIn", "(I)Z"⟩, 4) := ⟨⟨by decide +kernel, by decide +kernel⟩, List.mem_of_getElem? (i := 245) (by decide +kernel), List.mem_of_getElem? (i := 663) (by decide +kernel), List.mem_of_getElem? (i := 664) (by decide +kernel)⟩
theorem lw_p19 : lw_okq (⟨"GladSide$Thought", "startNow", "()V"⟩, 6) := ⟨⟨by decide +kernel, by decide +kernel⟩, List.mem_of_getElem? (i := 264) (by decide +kernel), List.mem_of_getElem? (i := 676) (by decide +kernel), List.mem_of_getElem? (i := 677) (by decide +kernel)⟩
theorem lw_p20 : lw_okq (⟨"GladSide$Course", "holdVote", "()V"⟩, 7) := ⟨⟨by decide +kernel, by decide +kernel⟩, List.mem_of_getElem? (i := 95) (by decide +kernel), List.mem_of_getElem? (i := 691) (by decide +kernel), List.mem_of_getElem? (i := 692) (by decide +kernel)⟩
theorem lw_p21 : lw_okq (⟨"GladSide$Course", "passFor", "(I)V"⟩, 7) := ⟨⟨by decide +kernel, by decide +kernel⟩, List.mem_of_getElem? (i := 95) (by decide +kernel), List.mem_of_getElem? (i := 699) (by decide +kernel), List.mem_of_getElem? (i := 700) (by decide +kernel)⟩
theorem lw_p22 : lw_okq (⟨"GladSide$Course", "runOn", "(I)V"⟩, 7) := ⟨⟨by decide +kernel, by decide +kernel⟩, List.mem_of_getElem? (i := 95) (by decide +kernel), List.mem_of_getElem? (i := 705) (by decide +kernel), List.mem_of_getElem? (i := 706) (by decide +kernel)⟩
theorem lw_p23 : lw_okq (⟨"GladSide$Thought", "worthBehind", "(III)I"⟩, 6) := ⟨⟨by decide +kernel, by decide +kernel⟩, List.mem_of_getElem? (i := 264) (by decide +kernel), List.mem_of_getElem? (i := 758) (by decide +kernel), List.mem_of_getElem? (i := 759) (by decide +kernel)⟩
theorem lw_p24 : lw_okq (⟨"GladSide$Votes", "areAcross", "(II)Z"⟩, 6) := ⟨⟨by decide +kernel, by decide +kernel⟩, List.mem_of_getElem? (i := 293) (by decide +kernel), List.mem_of_getElem? (i := 823) (by decide +kernel), List.mem_of_getElem? (i := 824) (by decide +kernel)⟩
theorem lw_p25 : lw_okq (⟨"GladSide$Votes", "pairOff", "(II)V"⟩, 6) := ⟨⟨by decide +kernel, by decide +kernel⟩, List.mem_of_getElem? (i := 293) (by decide +kernel), List.mem_of_getElem? (i := 837) (by decide +kernel), List.mem_of_getElem? (i := 838) (by decide +kernel)⟩
theorem lw_p26 : lw_okq (⟨"GladSide$Votes", "bestLead", "(IZI)I"⟩, 6) := ⟨⟨by decide +kernel, by decide +kernel⟩, List.mem_of_getElem? (i := 293) (by decide +kernel), List.mem_of_getElem? (i := 852) (by decide +kernel), List.mem_of_getElem? (i := 853) (by decide +kernel)⟩
theorem lw_p27 : lw_okq (⟨"GladSide$Votes", "leadIfMoved", "(IIZI)I"⟩, 6) := ⟨⟨by decide +kernel, by decide +kernel⟩, List.mem_of_getElem? (i := 293) (by decide +kernel), List.mem_of_getElem? (i := 856) (by decide +kernel), List.mem_of_getElem? (i := 857) (by decide +kernel)⟩
theorem lw_p28 : lw_okq (⟨"GladSide$Thought", "moveByDraw", "(II)V"⟩, 6) := ⟨⟨by decide +kernel, by decide +kernel⟩, List.mem_of_getElem? (i := 264) (by decide +kernel), List.mem_of_getElem? (i := 869) (by decide +kernel), List.mem_of_getElem? (i := 870) (by decide +kernel)⟩
theorem lw_p29 : lw_okq (⟨"GladSide$Acts", "ask", "(III)I"⟩, 5) := ⟨⟨by decide +kernel, by decide +kernel⟩, List.mem_of_getElem? (i := 321) (by decide +kernel), List.mem_of_getElem? (i := 941) (by decide +kernel), List.mem_of_getElem? (i := 942) (by decide +kernel)⟩
theorem lw_p30 : lw_okq (⟨"GladSide$Acts", "run", "(IIII)I"⟩, 5) := ⟨⟨by decide +kernel, by decide +kernel⟩, List.mem_of_getElem? (i := 321) (by decide +kernel), List.mem_of_getElem? (i := 945) (by decide +kernel), List.mem_of_getElem? (i := 946) (by decide +kernel)⟩
theorem lw_p31 : lw_okq (⟨"GladSide$Acts", "note", "(I)V"⟩, 5) := ⟨⟨by decide +kernel, by decide +kernel⟩, List.mem_of_getElem? (i := 321) (by decide +kernel), List.mem_of_getElem? (i := 956) (by decide +kernel), List.mem_of_getElem? (i := 957) (by decide +kernel)⟩
def lw_privs_2 : List (MethodName × Nat) := [(⟨"GladSide$Smells", "byText", "(III)I"⟩, 4), (⟨"GladSide$Law", "valueOf", "(I)I"⟩, 5), (⟨"GladSide$Smells", "holdsIn", "(I)Z"⟩, 4), (⟨"GladSide$Thought", "startNow", "()V"⟩, 6), (⟨"GladSide$Course", "holdVote", "()V"⟩, 7), (⟨"GladSide$Course", "passFor", "(I)V"⟩, 7), (⟨"GladSide$Course", "runOn", "(I)V"⟩, 7), (⟨"GladSide$Thought", "worthBehind", "(III)I"⟩, 6), (⟨"GladSide$Votes", "areAcross", "(II)Z"⟩, 6), (⟨"GladSide$Votes", "pairOff", "(II)V"⟩, 6), (⟨"GladSide$Votes", "bestLead", "(IZI)I"⟩, 6), (⟨"GladSide$Votes", "leadIfMoved", "(IIZI)I"⟩, 6), (⟨"GladSide$Thought", "moveByDraw", "(II)V"⟩, 6), (⟨"GladSide$Acts", "ask", "(III)I"⟩, 5), (⟨"GladSide$Acts", "run", "(IIII)I"⟩, 5), (⟨"GladSide$Acts", "note", "(I)V"⟩, 5)]
theorem lw_r2 : ∀ q ∈ lw_privs_2, lw_okq q := List.forall_mem_cons.mpr ⟨lw_p16, List.forall_mem_cons.mpr ⟨lw_p17, List.forall_mem_cons.mpr ⟨lw_p18, List.forall_mem_cons.mpr ⟨lw_p19, List.forall_mem_cons.mpr ⟨lw_p20, List.forall_mem_cons.mpr ⟨lw_p21, List.forall_mem_cons.mpr ⟨lw_p22, List.forall_mem_cons.mpr ⟨lw_p23, List.forall_mem_cons.mpr ⟨lw_p24, List.forall_mem_cons.mpr ⟨lw_p25, List.forall_mem_cons.mpr ⟨lw_p26, List.forall_mem_cons.mpr ⟨lw_p27, List.forall_mem_cons.mpr ⟨lw_p28, List.forall_mem_cons.mpr ⟨lw_p29, List.forall_mem_cons.mpr ⟨lw_p30, List.forall_mem_cons.mpr ⟨lw_p31, fun _ h => absurd h List.not_mem_nil⟩⟩⟩⟩⟩⟩⟩⟩⟩⟩⟩⟩⟩⟩⟩⟩
theorem lw_p32 : lw_okq (⟨"GladSideModel", "isOne", "(I)Z"⟩, 59) := ⟨⟨by decide +kernel, by decide +kernel⟩, List.mem_of_getElem? (i := 1041) (by decide +kernel), List.mem_of_getElem? (i := 1240) (by decide +kernel), List.mem_of_getElem? (i := 1241) (by decide +kernel)⟩
theorem lw_p33 : lw_okq (⟨"GladSideModel", "addJoy", "(III)I"⟩, 59) := ⟨⟨by decide +kernel, by decide +kernel⟩, List.mem_of_getElem? (i := 1041) (by decide +kernel), List.mem_of_getElem? (i := 1244) (by decide +kernel), List.mem_of_getElem? (i := 1245) (by decide +kernel)⟩
theorem lw_p34 : lw_okq (⟨"GladSideModel", "lays", "(III)V"⟩, 59) := ⟨⟨by decide +kernel, by decide +kernel⟩, List.mem_of_getElem? (i := 1041) (by decide +kernel), List.mem_of_getElem? (i := 1260) (by decide +kernel), List.mem_of_getElem? (i := 1261) (by decide +kernel)⟩
theorem lw_p35 : lw_okq (⟨"GladSideModel", "isPlace", "(II)Z"⟩, 59) := ⟨⟨by decide +kernel, by decide +kernel⟩, List.mem_of_getElem? (i := 1041) (by decide +kernel), List.mem_of_getElem? (i := 1272) (by decide +kernel), List.mem_of_getElem? (i := 1273) (by decide +kernel)⟩
theorem lw_p36 : lw_okq (⟨"GladSideModel", "isJoy", "(I)Z"⟩, 59) := ⟨⟨by decide +kernel, by decide +kernel⟩, List.mem_of_getElem? (i := 1041) (by decide +kernel), List.mem_of_getElem? (i := 1276) (by decide +kernel), List.mem_of_getElem? (i := 1277) (by decide +kernel)⟩
theorem lw_p37 : lw_okq (⟨"GladSideModel", "changes", "(III)I"⟩, 59) := ⟨⟨by decide +kernel, by decide +kernel⟩, List.mem_of_getElem? (i := 1041) (by decide +kernel), List.mem_of_getElem? (i := 1286) (by decide +kernel), List.mem_of_getElem? (i := 1287) (by decide +kernel)⟩
theorem lw_p38 : lw_okq (⟨"GladSideModel", "valueAt", "(II)I"⟩, 59) := ⟨⟨by decide +kernel, by decide +kernel⟩, List.mem_of_getElem? (i := 1041) (by decide +kernel), List.mem_of_getElem? (i := 1290) (by decide +kernel), List.mem_of_getElem? (i := 1291) (by decide +kernel)⟩
theorem lw_p39 : lw_okq (⟨"GladSideModel", "readText", "(I)I"⟩, 59) := ⟨⟨by decide +kernel, by decide +kernel⟩, List.mem_of_getElem? (i := 1041) (by decide +kernel), List.mem_of_getElem? (i := 1306) (by decide +kernel), List.mem_of_getElem? (i := 1307) (by decide +kernel)⟩
theorem lw_p40 : lw_okq (⟨"GladSideModel", "line", "()V"⟩, 59) := ⟨⟨by decide +kernel, by decide +kernel⟩, List.mem_of_getElem? (i := 1041) (by decide +kernel), List.mem_of_getElem? (i := 1310) (by decide +kernel), List.mem_of_getElem? (i := 1311) (by decide +kernel)⟩
theorem lw_p41 : lw_okq (⟨"GladSideModel", "either", "()V"⟩, 59) := ⟨⟨by decide +kernel, by decide +kernel⟩, List.mem_of_getElem? (i := 1041) (by decide +kernel), List.mem_of_getElem? (i := 1314) (by decide +kernel), List.mem_of_getElem? (i := 1315) (by decide +kernel)⟩
theorem lw_p42 : lw_okq (⟨"GladSideModel", "both", "()V"⟩, 59) := ⟨⟨by decide +kernel, by decide +kernel⟩, List.mem_of_getElem? (i := 1041) (by decide +kernel), List.mem_of_getElem? (i := 1318) (by decide +kernel), List.mem_of_getElem? (i := 1319) (by decide +kernel)⟩
theorem lw_p43 : lw_okq (⟨"GladSideModel", "compared", "()V"⟩, 59) := ⟨⟨by decide +kernel, by decide +kernel⟩, List.mem_of_getElem? (i := 1041) (by decide +kernel), List.mem_of_getElem? (i := 1322) (by decide +kernel), List.mem_of_getElem? (i := 1323) (by decide +kernel)⟩
theorem lw_p44 : lw_okq (⟨"GladSideModel", "sum", "()V"⟩, 59) := ⟨⟨by decide +kernel, by decide +kernel⟩, List.mem_of_getElem? (i := 1041) (by decide +kernel), List.mem_of_getElem? (i := 1326) (by decide +kernel), List.mem_of_getElem? (i := 1327) (by decide +kernel)⟩
theorem lw_p45 : lw_okq (⟨"GladSideModel", "product", "()V"⟩, 59) := ⟨⟨by decide +kernel, by decide +kernel⟩, List.mem_of_getElem? (i := 1041) (by decide +kernel), List.mem_of_getElem? (i := 1330) (by decide +kernel), List.mem_of_getElem? (i := 1331) (by decide +kernel)⟩
theorem lw_p46 : lw_okq (⟨"GladSideModel", "operand", "()V"⟩, 59) := ⟨⟨by decide +kernel, by decide +kernel⟩, List.mem_of_getElem? (i := 1041) (by decide +kernel), List.mem_of_getElem? (i := 1334) (by decide +kernel), List.mem_of_getElem? (i := 1335) (by decide +kernel)⟩
theorem lw_p47 : lw_okq (⟨"GladSideModel", "look", "()I"⟩, 59) := ⟨⟨by decide +kernel, by decide +kernel⟩, List.mem_of_getElem? (i := 1041) (by decide +kernel), List.mem_of_getElem? (i := 1338) (by decide +kernel), List.mem_of_getElem? (i := 1339) (by decide +kernel)⟩
def lw_privs_3 : List (MethodName × Nat) := [(⟨"GladSideModel", "isOne", "(I)Z"⟩, 59), (⟨"GladSideModel", "addJoy", "(III)I"⟩, 59), (⟨"GladSideModel", "lays", "(III)V"⟩, 59), (⟨"GladSideModel", "isPlace", "(II)Z"⟩, 59), (⟨"GladSideModel", "isJoy", "(I)Z"⟩, 59), (⟨"GladSideModel", "changes", "(III)I"⟩, 59), (⟨"GladSideModel", "valueAt", "(II)I"⟩, 59), (⟨"GladSideModel", "readText", "(I)I"⟩, 59), (⟨"GladSideModel", "line", "()V"⟩, 59), (⟨"GladSideModel", "either", "()V"⟩, 59), (⟨"GladSideModel", "both", "()V"⟩, 59), (⟨"GladSideModel", "compared", "()V"⟩, 59), (⟨"GladSideModel", "sum", "()V"⟩, 59), (⟨"GladSideModel", "product", "()V"⟩, 59), (⟨"GladSideModel", "operand", "()V"⟩, 59), (⟨"GladSideModel", "look", "()I"⟩, 59)]
theorem lw_r3 : ∀ q ∈ lw_privs_3, lw_okq q := List.forall_mem_cons.mpr ⟨lw_p32, List.forall_mem_cons.mpr ⟨lw_p33, List.forall_mem_cons.mpr ⟨lw_p34, List.forall_mem_cons.mpr ⟨lw_p35, List.forall_mem_cons.mpr ⟨lw_p36, List.forall_mem_cons.mpr ⟨lw_p37, List.forall_mem_cons.mpr ⟨lw_p38, List.forall_mem_cons.mpr ⟨lw_p39, List.forall_mem_cons.mpr ⟨lw_p40, List.forall_mem_cons.mpr ⟨lw_p41, List.forall_mem_cons.mpr ⟨lw_p42, List.forall_mem_cons.mpr ⟨lw_p43, List.forall_mem_cons.mpr ⟨lw_p44, List.forall_mem_cons.mpr ⟨lw_p45, List.forall_mem_cons.mpr ⟨lw_p46, List.forall_mem_cons.mpr ⟨lw_p47, fun _ h => absurd h List.not_mem_nil⟩⟩⟩⟩⟩⟩⟩⟩⟩⟩⟩⟩⟩⟩⟩⟩
theorem lw_p48 : lw_okq (⟨"GladSideModel", "addStep", "(II)V"⟩, 59) := ⟨⟨by decide +kernel, by decide +kernel⟩, List.mem_of_getElem? (i := 1041) (by decide +kernel), List.mem_of_getElem? (i := 1345) (by decide +kernel), List.mem_of_getElem? (i := 1346) (by decide +kernel)⟩
theorem lw_p49 : lw_okq (⟨"GladSideModel", "opens", "()Z"⟩, 59) := ⟨⟨by decide +kernel, by decide +kernel⟩, List.mem_of_getElem? (i := 1041) (by decide +kernel), List.mem_of_getElem? (i := 1349) (by decide +kernel), List.mem_of_getElem? (i := 1350) (by decide +kernel)⟩
theorem lw_p50 : lw_okq (⟨"GladSideModel", "wrong", "()V"⟩, 59) := ⟨⟨by decide +kernel, by decide +kernel⟩, List.mem_of_getElem? (i := 1041) (by decide +kernel), List.mem_of_getElem? (i := 1353) (by decide +kernel), List.mem_of_getElem? (i := 1354) (by decide +kernel)⟩
theorem lw_p51 : lw_okq (⟨"GladSideModel", "figure", "()V"⟩, 59) := ⟨⟨by decide +kernel, by decide +kernel⟩, List.mem_of_getElem? (i := 1041) (by decide +kernel), List.mem_of_getElem? (i := 1357) (by decide +kernel), List.mem_of_getElem? (i := 1358) (by decide +kernel)⟩
theorem lw_p52 : lw_okq (⟨"GladSideModel", "layNow", "()V"⟩, 59) := ⟨⟨by decide +kernel, by decide +kernel⟩, List.mem_of_getElem? (i := 1041) (by decide +kernel), List.mem_of_getElem? (i := 1365) (by decide +kernel), List.mem_of_getElem? (i := 1366) (by decide +kernel)⟩
theorem lw_p53 : lw_okq (⟨"GladSideModel", "houseOfJoy", "(I)I"⟩, 59) := ⟨⟨by decide +kernel, by decide +kernel⟩, List.mem_of_getElem? (i := 1041) (by decide +kernel), List.mem_of_getElem? (i := 1369) (by decide +kernel), List.mem_of_getElem? (i := 1370) (by decide +kernel)⟩
theorem lw_p54 : lw_okq (⟨"GladSideModel", "overBy", "(II)I"⟩, 59) := ⟨⟨by decide +kernel, by decide +kernel⟩, List.mem_of_getElem? (i := 1041) (by decide +kernel), List.mem_of_getElem? (i := 1373) (by decide +kernel), List.mem_of_getElem? (i := 1374) (by decide +kernel)⟩
theorem lw_p55 : lw_okq (⟨"GladSideModel", "othersRun", "(I)I"⟩, 59) := ⟨⟨by decide +kernel, by decide +kernel⟩, List.mem_of_getElem? (i := 1041) (by decide +kernel), List.mem_of_getElem? (i := 1380) (by decide +kernel), List.mem_of_getElem? (i := 1381) (by decide +kernel)⟩
theorem lw_p56 : lw_okq (⟨"GladSideModel", "runs", "(I)Z"⟩, 59) := ⟨⟨by decide +kernel, by decide +kernel⟩, List.mem_of_getElem? (i := 1041) (by decide +kernel), List.mem_of_getElem? (i := 1384) (by decide +kernel), List.mem_of_getElem? (i := 1385) (by decide +kernel)⟩
theorem lw_p57 : lw_okq (⟨"GladSideModel", "gives", "(I)I"⟩, 59) := ⟨⟨by decide +kernel, by decide +kernel⟩, List.mem_of_getElem? (i := 1041) (by decide +kernel), List.mem_of_getElem? (i := 1388) (by decide +kernel), List.mem_of_getElem? (i := 1389) (by decide +kernel)⟩
theorem lw_p58 : lw_okq (⟨"GladSideModel", "worked", "(III)I"⟩, 59) := ⟨⟨by decide +kernel, by decide +kernel⟩, List.mem_of_getElem? (i := 1041) (by decide +kernel), List.mem_of_getElem? (i := 1392) (by decide +kernel), List.mem_of_getElem? (i := 1393) (by decide +kernel)⟩
theorem lw_p59 : lw_okq (⟨"GladSideModel", "smeltBy", "(I)I"⟩, 59) := ⟨⟨by decide +kernel, by decide +kernel⟩, List.mem_of_getElem? (i := 1041) (by decide +kernel), List.mem_of_getElem? (i := 1403) (by decide +kernel), List.mem_of_getElem? (i := 1404) (by decide +kernel)⟩
theorem lw_p60 : lw_okq (⟨"GladSideModel", "noneSmelt", "(I)Z"⟩, 59) := ⟨⟨by decide +kernel, by decide +kernel⟩, List.mem_of_getElem? (i := 1041) (by decide +kernel), List.mem_of_getElem? (i := 1414) (by decide +kernel), List.mem_of_getElem? (i := 1415) (by decide +kernel)⟩
theorem lw_p61 : lw_okq (⟨"GladSideModel", "goDays", "(I)V"⟩, 59) := ⟨⟨by decide +kernel, by decide +kernel⟩, List.mem_of_getElem? (i := 1041) (by decide +kernel), List.mem_of_getElem? (i := 1425) (by decide +kernel), List.mem_of_getElem? (i := 1426) (by decide +kernel)⟩
theorem lw_p62 : lw_okq (⟨"GladSideModel", "goDay", "()V"⟩, 59) := ⟨⟨by decide +kernel, by decide +kernel⟩, List.mem_of_getElem? (i := 1041) (by decide +kernel), List.mem_of_getElem? (i := 1429) (by decide +kernel), List.mem_of_getElem? (i := 1430) (by decide +kernel)⟩
theorem lw_p63 : lw_okq (⟨"GladSideModel", "vote", "()V"⟩, 59) := ⟨⟨by decide +kernel, by decide +kernel⟩, List.mem_of_getElem? (i := 1041) (by decide +kernel), List.mem_of_getElem? (i := 1433) (by decide +kernel), List.mem_of_getElem? (i := 1434) (by decide +kernel)⟩
def lw_privs_4 : List (MethodName × Nat) := [(⟨"GladSideModel", "addStep", "(II)V"⟩, 59), (⟨"GladSideModel", "opens", "()Z"⟩, 59), (⟨"GladSideModel", "wrong", "()V"⟩, 59), (⟨"GladSideModel", "figure", "()V"⟩, 59), (⟨"GladSideModel", "layNow", "()V"⟩, 59), (⟨"GladSideModel", "houseOfJoy", "(I)I"⟩, 59), (⟨"GladSideModel", "overBy", "(II)I"⟩, 59), (⟨"GladSideModel", "othersRun", "(I)I"⟩, 59), (⟨"GladSideModel", "runs", "(I)Z"⟩, 59), (⟨"GladSideModel", "gives", "(I)I"⟩, 59), (⟨"GladSideModel", "worked", "(III)I"⟩, 59), (⟨"GladSideModel", "smeltBy", "(I)I"⟩, 59), (⟨"GladSideModel", "noneSmelt", "(I)Z"⟩, 59), (⟨"GladSideModel", "goDays", "(I)V"⟩, 59), (⟨"GladSideModel", "goDay", "()V"⟩, 59), (⟨"GladSideModel", "vote", "()V"⟩, 59)]
theorem lw_r4 : ∀ q ∈ lw_privs_4, lw_okq q := List.forall_mem_cons.mpr ⟨lw_p48, List.forall_mem_cons.mpr ⟨lw_p49, List.forall_mem_cons.mpr ⟨lw_p50, List.forall_mem_cons.mpr ⟨lw_p51, List.forall_mem_cons.mpr ⟨lw_p52, List.forall_mem_cons.mpr ⟨lw_p53, List.forall_mem_cons.mpr ⟨lw_p54, List.forall_mem_cons.mpr ⟨lw_p55, List.forall_mem_cons.mpr ⟨lw_p56, List.forall_mem_cons.mpr ⟨lw_p57, List.forall_mem_cons.mpr ⟨lw_p58, List.forall_mem_cons.mpr ⟨lw_p59, List.forall_mem_cons.mpr ⟨lw_p60, List.forall_mem_cons.mpr ⟨lw_p61, List.forall_mem_cons.mpr ⟨lw_p62, List.forall_mem_cons.mpr ⟨lw_p63, fun _ h => absurd h List.not_mem_nil⟩⟩⟩⟩⟩⟩⟩⟩⟩⟩⟩⟩⟩⟩⟩⟩
theorem lw_p64 : lw_okq (⟨"GladSideModel", "moreLeft", "()I"⟩, 59) := ⟨⟨by decide +kernel, by decide +kernel⟩, List.mem_of_getElem? (i := 1041) (by decide +kernel), List.mem_of_getElem? (i := 1437) (by decide +kernel), List.mem_of_getElem? (i := 1438) (by decide +kernel)⟩
theorem lw_p65 : lw_okq (⟨"GladSideModel", "goJoy", "(I)V"⟩, 59) := ⟨⟨by decide +kernel, by decide +kernel⟩, List.mem_of_getElem? (i := 1041) (by decide +kernel), List.mem_of_getElem? (i := 1441) (by decide +kernel), List.mem_of_getElem? (i := 1442) (by decide +kernel)⟩
theorem lw_p66 : lw_okq (⟨"GladSideModel", "onGladSide", "(I)Z"⟩, 59) := ⟨⟨by decide +kernel, by decide +kernel⟩, List.mem_of_getElem? (i := 1041) (by decide +kernel), List.mem_of_getElem? (i := 1445) (by decide +kernel), List.mem_of_getElem? (i := 1446) (by decide +kernel)⟩
theorem lw_p67 : lw_okq (⟨"GladSideModel", "waits", "(I)Z"⟩, 59) := ⟨⟨by decide +kernel, by decide +kernel⟩, List.mem_of_getElem? (i := 1041) (by decide +kernel), List.mem_of_getElem? (i := 1449) (by decide +kernel), List.mem_of_getElem? (i := 1450) (by decide +kernel)⟩
theorem lw_p68 : lw_okq (⟨"GladSideModel", "gladPeople", "()I"⟩, 59) := ⟨⟨by decide +kernel, by decide +kernel⟩, List.mem_of_getElem? (i := 1041) (by decide +kernel), List.mem_of_getElem? (i := 1453) (by decide +kernel), List.mem_of_getElem? (i := 1454) (by decide +kernel)⟩
theorem lw_p69 : lw_okq (⟨"GladSideModel", "joysBy", "(I)I"⟩, 59) := ⟨⟨by decide +kernel, by decide +kernel⟩, List.mem_of_getElem? (i := 1041) (by decide +kernel), List.mem_of_getElem? (i := 1457) (by decide +kernel), List.mem_of_getElem? (i := 1458) (by decide +kernel)⟩
theorem lw_p70 : lw_okq (⟨"GladSideModel", "isHad", "(I)Z"⟩, 59) := ⟨⟨by decide +kernel, by decide +kernel⟩, List.mem_of_getElem? (i := 1041) (by decide +kernel), List.mem_of_getElem? (i := 1461) (by decide +kernel), List.mem_of_getElem? (i := 1462) (by decide +kernel)⟩
theorem lw_p71 : lw_okq (⟨"GladSideModel", "worthsOf", "(I)I"⟩, 59) := ⟨⟨by decide +kernel, by decide +kernel⟩, List.mem_of_getElem? (i := 1041) (by decide +kernel), List.mem_of_getElem? (i := 1465) (by decide +kernel), List.mem_of_getElem? (i := 1466) (by decide +kernel)⟩
theorem lw_p72 : lw_okq (⟨"GladSideModel", "hadBehind", "(I)I"⟩, 59) := ⟨⟨by decide +kernel, by decide +kernel⟩, List.mem_of_getElem? (i := 1041) (by decide +kernel), List.mem_of_getElem? (i := 1477) (by decide +kernel), List.mem_of_getElem? (i := 1478) (by decide +kernel)⟩
theorem lw_p73 : lw_okq (⟨"GladSideModel", "rowFault", "(I)I"⟩, 59) := ⟨⟨by decide +kernel, by decide +kernel⟩, List.mem_of_getElem? (i := 1041) (by decide +kernel), List.mem_of_getElem? (i := 1493) (by decide +kernel), List.mem_of_getElem? (i := 1494) (by decide +kernel)⟩
theorem lw_p74 : lw_okq (⟨"GladSideModel", "wrongDay", "(II)I"⟩, 59) := ⟨⟨by decide +kernel, by decide +kernel⟩, List.mem_of_getElem? (i := 1041) (by decide +kernel), List.mem_of_getElem? (i := 1497) (by decide +kernel), List.mem_of_getElem? (i := 1498) (by decide +kernel)⟩
theorem lw_p75 : lw_okq (⟨"GladSideModel", "at", "(II)I"⟩, 59) := ⟨⟨by decide +kernel, by decide +kernel⟩, List.mem_of_getElem? (i := 1041) (by decide +kernel), List.mem_of_getElem? (i := 1501) (by decide +kernel), List.mem_of_getElem? (i := 1502) (by decide +kernel)⟩
theorem lw_p76 : lw_okq (⟨"GladSideModel", "dues", "(IIIZ)I"⟩, 59) := ⟨⟨by decide +kernel, by decide +kernel⟩, List.mem_of_getElem? (i := 1041) (by decide +kernel), List.mem_of_getElem? (i := 1509) (by decide +kernel), List.mem_of_getElem? (i := 1510) (by decide +kernel)⟩
theorem lw_p77 : lw_okq (⟨"GladSideModel", "lates", "(IIIZ)I"⟩, 59) := ⟨⟨by decide +kernel, by decide +kernel⟩, List.mem_of_getElem? (i := 1041) (by decide +kernel), List.mem_of_getElem? (i := 1513) (by decide +kernel), List.mem_of_getElem? (i := 1514) (by decide +kernel)⟩
theorem lw_p78 : lw_okq (⟨"GladSideModel", "mostMates", "(III)I"⟩, 59) := ⟨⟨by decide +kernel, by decide +kernel⟩, List.mem_of_getElem? (i := 1041) (by decide +kernel), List.mem_of_getElem? (i := 1533) (by decide +kernel), List.mem_of_getElem? (i := 1534) (by decide +kernel)⟩
theorem lw_p79 : lw_okq (⟨"GladSideModel", "bestOf", "(IIZ)I"⟩, 59) := ⟨⟨by decide +kernel, by decide +kernel⟩, List.mem_of_getElem? (i := 1041) (by decide +kernel), List.mem_of_getElem? (i := 1542) (by decide +kernel), List.mem_of_getElem? (i := 1543) (by decide +kernel)⟩
def lw_privs_5 : List (MethodName × Nat) := [(⟨"GladSideModel", "moreLeft", "()I"⟩, 59), (⟨"GladSideModel", "goJoy", "(I)V"⟩, 59), (⟨"GladSideModel", "onGladSide", "(I)Z"⟩, 59), (⟨"GladSideModel", "waits", "(I)Z"⟩, 59), (⟨"GladSideModel", "gladPeople", "()I"⟩, 59), (⟨"GladSideModel", "joysBy", "(I)I"⟩, 59), (⟨"GladSideModel", "isHad", "(I)Z"⟩, 59), (⟨"GladSideModel", "worthsOf", "(I)I"⟩, 59), (⟨"GladSideModel", "hadBehind", "(I)I"⟩, 59), (⟨"GladSideModel", "rowFault", "(I)I"⟩, 59), (⟨"GladSideModel", "wrongDay", "(II)I"⟩, 59), (⟨"GladSideModel", "at", "(II)I"⟩, 59), (⟨"GladSideModel", "dues", "(IIIZ)I"⟩, 59), (⟨"GladSideModel", "lates", "(IIIZ)I"⟩, 59), (⟨"GladSideModel", "mostMates", "(III)I"⟩, 59), (⟨"GladSideModel", "bestOf", "(IIZ)I"⟩, 59)]
theorem lw_r5 : ∀ q ∈ lw_privs_5, lw_okq q := List.forall_mem_cons.mpr ⟨lw_p64, List.forall_mem_cons.mpr ⟨lw_p65, List.forall_mem_cons.mpr ⟨lw_p66, List.forall_mem_cons.mpr ⟨lw_p67, List.forall_mem_cons.mpr ⟨lw_p68, List.forall_mem_cons.mpr ⟨lw_p69, List.forall_mem_cons.mpr ⟨lw_p70, List.forall_mem_cons.mpr ⟨lw_p71, List.forall_mem_cons.mpr ⟨lw_p72, List.forall_mem_cons.mpr ⟨lw_p73, List.forall_mem_cons.mpr ⟨lw_p74, List.forall_mem_cons.mpr ⟨lw_p75, List.forall_mem_cons.mpr ⟨lw_p76, List.forall_mem_cons.mpr ⟨lw_p77, List.forall_mem_cons.mpr ⟨lw_p78, List.forall_mem_cons.mpr ⟨lw_p79, fun _ h => absurd h List.not_mem_nil⟩⟩⟩⟩⟩⟩⟩⟩⟩⟩⟩⟩⟩⟩⟩⟩
theorem lw_p80 : lw_okq (⟨"GladSideModel", "endsBy", "(I)I"⟩, 59) := ⟨⟨by decide +kernel, by decide +kernel⟩, List.mem_of_getElem? (i := 1041) (by decide +kernel), List.mem_of_getElem? (i := 1546) (by decide +kernel), List.mem_of_getElem? (i := 1547) (by decide +kernel)⟩
theorem lw_p81 : lw_okq (⟨"GladSideModel", "livedIn", "()I"⟩, 59) := ⟨⟨by decide +kernel, by decide +kernel⟩, List.mem_of_getElem? (i := 1041) (by decide +kernel), List.mem_of_getElem? (i := 1567) (by decide +kernel), List.mem_of_getElem? (i := 1568) (by decide +kernel)⟩
theorem lw_p82 : lw_okq (⟨"GladSideModel", "isBody", "(I)Z"⟩, 59) := ⟨⟨by decide +kernel, by decide +kernel⟩, List.mem_of_getElem? (i := 1041) (by decide +kernel), List.mem_of_getElem? (i := 1595) (by decide +kernel), List.mem_of_getElem? (i := 1596) (by decide +kernel)⟩
theorem lw_p83 : lw_okq (⟨"GladSideModel", "opening", "(II)I"⟩, 59) := ⟨⟨by decide +kernel, by decide +kernel⟩, List.mem_of_getElem? (i := 1041) (by decide +kernel), List.mem_of_getElem? (i := 1599) (by decide +kernel), List.mem_of_getElem? (i := 1600) (by decide +kernel)⟩
theorem lw_p84 : lw_okq (⟨"GladSideModel", "ran", "(I)V"⟩, 59) := ⟨⟨by decide +kernel, by decide +kernel⟩, List.mem_of_getElem? (i := 1041) (by decide +kernel), List.mem_of_getElem? (i := 1606) (by decide +kernel), List.mem_of_getElem? (i := 1607) (by decide +kernel)⟩
theorem lw_p85 : lw_okq (⟨"GladSideModel", "plainOpens", "(II)I"⟩, 59) := ⟨⟨by decide +kernel, by decide +kernel⟩, List.mem_of_getElem? (i := 1041) (by decide +kernel), List.mem_of_getElem? (i := 1610) (by decide +kernel), List.mem_of_getElem? (i := 1611) (by decide +kernel)⟩
theorem lw_p86 : lw_okq (⟨"GladSideModel", "springOpens", "(II)I"⟩, 59) := ⟨⟨by decide +kernel, by decide +kernel⟩, List.mem_of_getElem? (i := 1041) (by decide +kernel), List.mem_of_getElem? (i := 1614) (by decide +kernel), List.mem_of_getElem? (i := 1615) (by decide +kernel)⟩
theorem lw_p87 : lw_okq (⟨"GladSideModel", "smelling", "(II)I"⟩, 59) := ⟨⟨by decide +kernel, by decide +kernel⟩, List.mem_of_getElem? (i := 1041) (by decide +kernel), List.mem_of_getElem? (i := 1618) (by decide +kernel), List.mem_of_getElem? (i := 1619) (by decide +kernel)⟩
theorem lw_p88 : lw_okq (⟨"GladSideModel", "weddingSmells", "(II)I"⟩, 59) := ⟨⟨by decide +kernel, by decide +kernel⟩, List.mem_of_getElem? (i := 1041) (by decide +kernel), List.mem_of_getElem? (i := 1622) (by decide +kernel), List.mem_of_getElem? (i := 1623) (by decide +kernel)⟩
theorem lw_p89 : lw_okq (⟨"GladSideModel", "plainSmells", "(II)I"⟩, 59) := ⟨⟨by decide +kernel, by decide +kernel⟩, List.mem_of_getElem? (i := 1041) (by decide +kernel), List.mem_of_getElem? (i := 1626) (by decide +kernel), List.mem_of_getElem? (i := 1627) (by decide +kernel)⟩
theorem lw_p90 : lw_okq (⟨"GladSideModel", "voting", "(II)I"⟩, 59) := ⟨⟨by decide +kernel, by decide +kernel⟩, List.mem_of_getElem? (i := 1041) (by decide +kernel), List.mem_of_getElem? (i := 1630) (by decide +kernel), List.mem_of_getElem? (i := 1631) (by decide +kernel)⟩
theorem lw_p91 : lw_okq (⟨"GladSideModel", "widowVotes", "(II)I"⟩, 59) := ⟨⟨by decide +kernel, by decide +kernel⟩, List.mem_of_getElem? (i := 1041) (by decide +kernel), List.mem_of_getElem? (i := 1634) (by decide +kernel), List.mem_of_getElem? (i := 1635) (by decide +kernel)⟩
theorem lw_p92 : lw_okq (⟨"GladSideModel", "plainVotes", "(II)I"⟩, 59) := ⟨⟨by decide +kernel, by decide +kernel⟩, List.mem_of_getElem? (i := 1041) (by decide +kernel), List.mem_of_getElem? (i := 1638) (by decide +kernel), List.mem_of_getElem? (i := 1639) (by decide +kernel)⟩
theorem lw_p93 : lw_okq (⟨"GladSideModel", "telling", "(II)I"⟩, 59) := ⟨⟨by decide +kernel, by decide +kernel⟩, List.mem_of_getElem? (i := 1041) (by decide +kernel), List.mem_of_getElem? (i := 1642) (by decide +kernel), List.mem_of_getElem? (i := 1643) (by decide +kernel)⟩
theorem lw_p94 : lw_okq (⟨"GladSideModel", "plainTells", "(II)I"⟩, 59) := ⟨⟨by decide +kernel, by decide +kernel⟩, List.mem_of_getElem? (i := 1041) (by decide +kernel), List.mem_of_getElem? (i := 1646) (by decide +kernel), List.mem_of_getElem? (i := 1647) (by decide +kernel)⟩
theorem lw_p95 : lw_okq (⟨"GladSideModel", "whyNoPlace", "(II)I"⟩, 59) := ⟨⟨by decide +kernel, by decide +kernel⟩, List.mem_of_getElem? (i := 1041) (by decide +kernel), List.mem_of_getElem? (i := 1666) (by decide +kernel), List.mem_of_getElem? (i := 1667) (by decide +kernel)⟩
def lw_privs_6 : List (MethodName × Nat) := [(⟨"GladSideModel", "endsBy", "(I)I"⟩, 59), (⟨"GladSideModel", "livedIn", "()I"⟩, 59), (⟨"GladSideModel", "isBody", "(I)Z"⟩, 59), (⟨"GladSideModel", "opening", "(II)I"⟩, 59), (⟨"GladSideModel", "ran", "(I)V"⟩, 59), (⟨"GladSideModel", "plainOpens", "(II)I"⟩, 59), (⟨"GladSideModel", "springOpens", "(II)I"⟩, 59), (⟨"GladSideModel", "smelling", "(II)I"⟩, 59), (⟨"GladSideModel", "weddingSmells", "(II)I"⟩, 59), (⟨"GladSideModel", "plainSmells", "(II)I"⟩, 59), (⟨"GladSideModel", "voting", "(II)I"⟩, 59), (⟨"GladSideModel", "widowVotes", "(II)I"⟩, 59), (⟨"GladSideModel", "plainVotes", "(II)I"⟩, 59), (⟨"GladSideModel", "telling", "(II)I"⟩, 59), (⟨"GladSideModel", "plainTells", "(II)I"⟩, 59), (⟨"GladSideModel", "whyNoPlace", "(II)I"⟩, 59)]
theorem lw_r6 : ∀ q ∈ lw_privs_6, lw_okq q := List.forall_mem_cons.mpr ⟨lw_p80, List.forall_mem_cons.mpr ⟨lw_p81, List.forall_mem_cons.mpr ⟨lw_p82, List.forall_mem_cons.mpr ⟨lw_p83, List.forall_mem_cons.mpr ⟨lw_p84, List.forall_mem_cons.mpr ⟨lw_p85, List.forall_mem_cons.mpr ⟨lw_p86, List.forall_mem_cons.mpr ⟨lw_p87, List.forall_mem_cons.mpr ⟨lw_p88, List.forall_mem_cons.mpr ⟨lw_p89, List.forall_mem_cons.mpr ⟨lw_p90, List.forall_mem_cons.mpr ⟨lw_p91, List.forall_mem_cons.mpr ⟨lw_p92, List.forall_mem_cons.mpr ⟨lw_p93, List.forall_mem_cons.mpr ⟨lw_p94, List.forall_mem_cons.mpr ⟨lw_p95, fun _ h => absurd h List.not_mem_nil⟩⟩⟩⟩⟩⟩⟩⟩⟩⟩⟩⟩⟩⟩⟩⟩
def lw_privs : List (MethodName × Nat) := lw_privs_1 ++ (lw_privs_2 ++ (lw_privs_3 ++ (lw_privs_4 ++ (lw_privs_5 ++ (lw_privs_6)))))
def lw_tbl : List Cond := k2_sels lw_privs ++ tables_1
theorem lw_privs_ok : ∀ q ∈ lw_privs, lw_okq q := by
  show ∀ q ∈ lw_privs_1 ++ (lw_privs_2 ++ (lw_privs_3 ++ (lw_privs_4 ++ (lw_privs_5 ++ (lw_privs_6))))), lw_okq q
  exact List.forall_mem_append.mpr ⟨lw_r1, List.forall_mem_append.mpr ⟨lw_r2, List.forall_mem_append.mpr ⟨lw_r3, List.forall_mem_append.mpr ⟨lw_r4, List.forall_mem_append.mpr ⟨lw_r5, lw_r6⟩⟩⟩⟩⟩
end
section
def RX0 : String := "GladSide$Acts"
def TX0 : u_T := fun k => match k with
  | 0 => ("GladSide$Acts", "kinds", "[I", true)
  | 1 => ("GladSide$Acts", "trail", "[I", true)
  | 2 => ("GladSide$Acts", "bodies", "I", false)
  | 3 => ("GladSide$Acts", "ran", "I", false)
  | _ => ("GladSide$Acts", "self", "I", false)
def tyX0 : Nat → FieldType := fun k => match k with
  | 0 => .array .int
  | 1 => .array .int
  | 2 => .int
  | 3 => .int
  | _ => .int
theorem nmX0 : ∀ a, a < 5 → ∀ b, b < 5 → a ≠ b → (TX0 a).2.1 ≠ (TX0 b).2.1 := by decide +kernel
theorem tyX0_ok : ∀ k, k < 5 → parseFieldDescriptor (TX0 k).2.2.1 = some (tyX0 k) := by decide +kernel
abbrev cX0_init : ByteArray := prog_2_method_1_code
def yX0_init : MethodName := ⟨RX0, "<init>", "()V"⟩
abbrev cX0_isBody : ByteArray := prog_2_method_2_code
def yX0_isBody : MethodName := ⟨RX0, "isBody", "(I)Z"⟩
abbrev cX0_add : ByteArray := prog_2_method_3_code
def yX0_add : MethodName := ⟨RX0, "add", "(I)I"⟩
abbrev cX0_traced : ByteArray := prog_2_method_4_code
def yX0_traced : MethodName := ⟨RX0, "traced", "()I"⟩
abbrev cX0_isUnder : ByteArray := prog_2_method_5_code
def yX0_isUnder : MethodName := ⟨RX0, "isUnder", "(II)Z"⟩
abbrev cX0_perform : ByteArray := prog_2_method_6_code
def yX0_perform : MethodName := ⟨RX0, "perform", "(III)I"⟩
abbrev cX0_ask : ByteArray := prog_2_method_7_code
def yX0_ask : MethodName := ⟨RX0, "ask", "(III)I"⟩
abbrev cX0_holderFrom : ByteArray := prog_2_method_8_code
def yX0_holderFrom : MethodName := ⟨RX0, "holderFrom", "(II)I"⟩
abbrev cX0_note : ByteArray := prog_2_method_9_code
def yX0_note : MethodName := ⟨RX0, "note", "(I)V"⟩
abbrev cX0_run : ByteArray := prog_2_method_10_code
def yX0_run : MethodName := ⟨RX0, "run", "(IIII)I"⟩
def RX1 : String := "GladSide$Changes"
def TX1 : u_T := fun k => match k with
  | 0 => ("GladSide$Changes", "number", "[I", true)
  | 1 => ("GladSide$Changes", "what", "[I", true)
  | 2 => ("GladSide$Changes", "was", "[I", true)
  | 3 => ("GladSide$Changes", "became", "[I", true)
  | 4 => ("GladSide$Changes", "numbers", "LGladSide$Numbers;", true)
  | 5 => ("GladSide$Changes", "done", "I", false)
  | _ => ("GladSide$Changes", "known", "I", false)
def tyX1 : Nat → FieldType := fun k => match k with
  | 0 => .array .int
  | 1 => .array .int
  | 2 => .array .int
  | 3 => .array .int
  | 4 => .object "GladSide$Numbers"
  | 5 => .int
  | _ => .int
theorem nmX1 : ∀ a, a < 7 → ∀ b, b < 7 → a ≠ b → (TX1 a).2.1 ≠ (TX1 b).2.1 := by decide +kernel
theorem tyX1_ok : ∀ k, k < 7 → parseFieldDescriptor (TX1 k).2.2.1 = some (tyX1 k) := by decide +kernel
abbrev cX1_init : ByteArray := prog_3_method_1_code
def yX1_init : MethodName := ⟨RX1, "<init>", "(LGladSide$Numbers;)V"⟩
abbrev cX1_add : ByteArray := prog_3_method_2_code
def yX1_add : MethodName := ⟨RX1, "add", "(IIII)V"⟩
abbrev cX1_forgetOldest : ByteArray := prog_3_method_3_code
def yX1_forgetOldest : MethodName := ⟨RX1, "forgetOldest", "()V"⟩
abbrev cX1_takeBack : ByteArray := prog_3_method_4_code
def yX1_takeBack : MethodName := ⟨RX1, "takeBack", "()Z"⟩
abbrev cX1_doAgain : ByteArray := prog_3_method_5_code
def yX1_doAgain : MethodName := ⟨RX1, "doAgain", "()Z"⟩
def RX2 : String := "GladSide$Course"
def TX2 : u_T := fun k => match k with
  | 0 => ("GladSide$Course", "house", "[I", true)
  | 1 => ("GladSide$Course", "ran", "[I", true)
  | 2 => ("GladSide$Course", "lost", "[I", true)
  | 3 => ("GladSide$Course", "led", "[I", true)
  | 4 => ("GladSide$Course", "gladSide", "I", false)
  | 5 => ("GladSide$Course", "today", "I", false)
  | _ => ("GladSide$Course", "street", "LGladSide$Street;", true)
def tyX2 : Nat → FieldType := fun k => match k with
  | 0 => .array .int
  | 1 => .array .int
  | 2 => .array .int
  | 3 => .array .int
  | 4 => .int
  | 5 => .int
  | _ => .object "GladSide$Street"
theorem nmX2 : ∀ a, a < 7 → ∀ b, b < 7 → a ≠ b → (TX2 a).2.1 ≠ (TX2 b).2.1 := by decide +kernel
theorem tyX2_ok : ∀ k, k < 7 → parseFieldDescriptor (TX2 k).2.2.1 = some (tyX2 k) := by decide +kernel
abbrev cX2_init : ByteArray := prog_4_method_1_code
def yX2_init : MethodName := ⟨RX2, "<init>", "(LGladSide$Street;)V"⟩
abbrev cX2_take : ByteArray := prog_4_method_2_code
def yX2_take : MethodName := ⟨RX2, "take", "(LGladSide$Course;II)V"⟩
abbrev cX2_houseOfJoy : ByteArray := prog_4_method_3_code
def yX2_houseOfJoy : MethodName := ⟨RX2, "houseOfJoy", "(I)I"⟩
abbrev cX2_sideOfJoy : ByteArray := prog_4_method_4_code
def yX2_sideOfJoy : MethodName := ⟨RX2, "sideOfJoy", "(I)I"⟩
abbrev cX2_runs : ByteArray := prog_4_method_5_code
def yX2_runs : MethodName := ⟨RX2, "runs", "(I)Z"⟩
abbrev cX2_waits : ByteArray := prog_4_method_6_code
def yX2_waits : MethodName := ⟨RX2, "waits", "(I)Z"⟩
abbrev cX2_had : ByteArray := prog_4_method_7_code
def yX2_had : MethodName := ⟨RX2, "had", "(I)Z"⟩
abbrev cX2_isIn : ByteArray := prog_4_method_8_code
def yX2_isIn : MethodName := ⟨RX2, "isIn", "(II)Z"⟩
abbrev cX2_joysThat : ByteArray := prog_4_method_9_code
def yX2_joysThat : MethodName := ⟨RX2, "joysThat", "(I)I"⟩
abbrev cX2_isGlad : ByteArray := prog_4_method_10_code
def yX2_isGlad : MethodName := ⟨RX2, "isGlad", "(I)Z"⟩
abbrev cX2_gladPeople : ByteArray := prog_4_method_11_code
def yX2_gladPeople : MethodName := ⟨RX2, "gladPeople", "()I"⟩
abbrev cX2_worthOfHad : ByteArray := prog_4_method_12_code
def yX2_worthOfHad : MethodName := ⟨RX2, "worthOfHad", "()I"⟩
abbrev cX2_worthOfHadBy : ByteArray := prog_4_method_13_code
def yX2_worthOfHadBy : MethodName := ⟨RX2, "worthOfHadBy", "(I)I"⟩
abbrev cX2_worthOfLost : ByteArray := prog_4_method_14_code
def yX2_worthOfLost : MethodName := ⟨RX2, "worthOfLost", "()I"⟩
abbrev cX2_leadOfSide0 : ByteArray := prog_4_method_15_code
def yX2_leadOfSide0 : MethodName := ⟨RX2, "leadOfSide0", "()I"⟩
abbrev cX2_pass : ByteArray := prog_4_method_16_code
def yX2_pass : MethodName := ⟨RX2, "pass", "()V"⟩
abbrev cX2_holdVote : ByteArray := prog_4_method_17_code
def yX2_holdVote : MethodName := ⟨RX2, "holdVote", "()V"⟩
abbrev cX2_passFor : ByteArray := prog_4_method_18_code
def yX2_passFor : MethodName := ⟨RX2, "passFor", "(I)V"⟩
abbrev cX2_runOn : ByteArray := prog_4_method_19_code
def yX2_runOn : MethodName := ⟨RX2, "runOn", "(I)V"⟩
def RX3 : String := "GladSide$Law"
def TX3 : u_T := fun k => match k with
  | 0 => ("GladSide$Law", "names", "[I", true)
  | 1 => ("GladSide$Law", "step", "[I", true)
  | 2 => ("GladSide$Law", "tells", "[I", true)
  | 3 => ("GladSide$Law", "stack", "[I", true)
  | _ => ("GladSide$Law", "steps", "I", false)
def tyX3 : Nat → FieldType := fun k => match k with
  | 0 => .array .int
  | 1 => .array .int
  | 2 => .array .int
  | 3 => .array .int
  | _ => .int
theorem nmX3 : ∀ a, a < 5 → ∀ b, b < 5 → a ≠ b → (TX3 a).2.1 ≠ (TX3 b).2.1 := by decide +kernel
theorem tyX3_ok : ∀ k, k < 5 → parseFieldDescriptor (TX3 k).2.2.1 = some (tyX3 k) := by decide +kernel
abbrev cX3_init : ByteArray := prog_5_method_1_code
def yX3_init : MethodName := ⟨RX3, "<init>", "()V"⟩
abbrev cX3_clear : ByteArray := prog_5_method_2_code
def yX3_clear : MethodName := ⟨RX3, "clear", "()V"⟩
abbrev cX3_isTold : ByteArray := prog_5_method_3_code
def yX3_isTold : MethodName := ⟨RX3, "isTold", "()Z"⟩
abbrev cX3_take : ByteArray := prog_5_method_4_code
def yX3_take : MethodName := ⟨RX3, "take", "(LGladSide$Law;)V"⟩
abbrev cX3_add : ByteArray := prog_5_method_5_code
def yX3_add : MethodName := ⟨RX3, "add", "(II)I"⟩
abbrev cX3_aimTest : ByteArray := prog_5_method_6_code
def yX3_aimTest : MethodName := ⟨RX3, "aimTest", "(I)V"⟩
abbrev cX3_workOut : ByteArray := prog_5_method_7_code
def yX3_workOut : MethodName := ⟨RX3, "workOut", "()I"⟩
abbrev cX3_valueOf : ByteArray := prog_5_method_8_code
def yX3_valueOf : MethodName := ⟨RX3, "valueOf", "(I)I"⟩
abbrev cX3_join : ByteArray := prog_5_method_9_code
def yX3_join : MethodName := ⟨RX3, "join", "(III)I"⟩
def RX4 : String := "GladSide$Numbers"
def TX4 : u_T := fun k => match k with
  | 0 => ("GladSide$Numbers", "street", "LGladSide$Street;", true)
  | _ => ("GladSide$Numbers", "now", "LGladSide$Course;", true)
def tyX4 : Nat → FieldType := fun k => match k with
  | 0 => .object "GladSide$Street"
  | _ => .object "GladSide$Course"
theorem nmX4 : ∀ a, a < 2 → ∀ b, b < 2 → a ≠ b → (TX4 a).2.1 ≠ (TX4 b).2.1 := by decide +kernel
theorem tyX4_ok : ∀ k, k < 2 → parseFieldDescriptor (TX4 k).2.2.1 = some (tyX4 k) := by decide +kernel
abbrev cX4_init : ByteArray := prog_6_method_1_code
def yX4_init : MethodName := ⟨RX4, "<init>", "(LGladSide$Street;LGladSide$Course;)V"⟩
abbrev cX4_mayBe : ByteArray := prog_6_method_2_code
def yX4_mayBe : MethodName := ⟨RX4, "mayBe", "(II)Z"⟩
abbrev cX4_isThere : ByteArray := prog_6_method_3_code
def yX4_isThere : MethodName := ⟨RX4, "isThere", "(II)Z"⟩
abbrev cX4_read : ByteArray := prog_6_method_4_code
def yX4_read : MethodName := ⟨RX4, "read", "(II)I"⟩
abbrev cX4_write : ByteArray := prog_6_method_5_code
def yX4_write : MethodName := ⟨RX4, "write", "(III)V"⟩
abbrev cX4_listOf : ByteArray := prog_6_method_6_code
def yX4_listOf : MethodName := ⟨RX4, "listOf", "(I)[I"⟩
def RX5 : String := "GladSide$Shelves"
def TX5 : u_T := fun k => match k with
  | 0 => ("GladSide$Shelves", "holds", "[I", true)
  | 1 => ("GladSide$Shelves", "number", "[I", true)
  | _ => ("GladSide$Shelves", "cells", "[J", true)
def tyX5 : Nat → FieldType := fun k => match k with
  | 0 => .array .int
  | 1 => .array .int
  | _ => .array .long
theorem nmX5 : ∀ a, a < 3 → ∀ b, b < 3 → a ≠ b → (TX5 a).2.1 ≠ (TX5 b).2.1 := by decide +kernel
theorem tyX5_ok : ∀ k, k < 3 → parseFieldDescriptor (TX5 k).2.2.1 = some (tyX5 k) := by decide +kernel
abbrev cX5_init : ByteArray := prog_7_method_1_code
def yX5_init : MethodName := ⟨RX5, "<init>", "()V"⟩
abbrev cX5_isShelf : ByteArray := prog_7_method_2_code
def yX5_isShelf : MethodName := ⟨RX5, "isShelf", "(I)Z"⟩
abbrev cX5_isEmpty : ByteArray := prog_7_method_3_code
def yX5_isEmpty : MethodName := ⟨RX5, "isEmpty", "(I)Z"⟩
abbrev cX5_isRow : ByteArray := prog_7_method_4_code
def yX5_isRow : MethodName := ⟨RX5, "isRow", "(I)Z"⟩
abbrev cX5_bodyOn : ByteArray := prog_7_method_5_code
def yX5_bodyOn : MethodName := ⟨RX5, "bodyOn", "(I)I"⟩
abbrev cX5_lengthOf : ByteArray := prog_7_method_6_code
def yX5_lengthOf : MethodName := ⟨RX5, "lengthOf", "(I)I"⟩
abbrev cX5_empty : ByteArray := prog_7_method_7_code
def yX5_empty : MethodName := ⟨RX5, "empty", "(I)V"⟩
abbrev cX5_layBody : ByteArray := prog_7_method_8_code
def yX5_layBody : MethodName := ⟨RX5, "layBody", "(II)V"⟩
abbrev cX5_layRow : ByteArray := prog_7_method_9_code
def yX5_layRow : MethodName := ⟨RX5, "layRow", "(III)V"⟩
abbrev cX5_refuseRow : ByteArray := prog_7_method_10_code
def yX5_refuseRow : MethodName := ⟨RX5, "refuseRow", "(I)I"⟩
abbrev cX5_refuseBytes : ByteArray := prog_7_method_11_code
def yX5_refuseBytes : MethodName := ⟨RX5, "refuseBytes", "(I)I"⟩
abbrev cX5_refusePlace : ByteArray := prog_7_method_12_code
def yX5_refusePlace : MethodName := ⟨RX5, "refusePlace", "(II)I"⟩
abbrev cX5_refusePair : ByteArray := prog_7_method_13_code
def yX5_refusePair : MethodName := ⟨RX5, "refusePair", "(II)I"⟩
abbrev cX5_hasRun : ByteArray := prog_7_method_14_code
def yX5_hasRun : MethodName := ⟨RX5, "hasRun", "(III)Z"⟩
abbrev cX5_cell : ByteArray := prog_7_method_15_code
def yX5_cell : MethodName := ⟨RX5, "cell", "(II)J"⟩
abbrev cX5_setCell : ByteArray := prog_7_method_16_code
def yX5_setCell : MethodName := ⟨RX5, "setCell", "(IIJ)V"⟩
abbrev cX5_copyRun : ByteArray := prog_7_method_17_code
def yX5_copyRun : MethodName := ⟨RX5, "copyRun", "(IIIII)V"⟩
abbrev cX5_cut : ByteArray := prog_7_method_18_code
def yX5_cut : MethodName := ⟨RX5, "cut", "(IJ)J"⟩
def RX6 : String := "GladSide$Smells"
def TX6 : u_T := fun k => match k with
  | 0 => ("GladSide$Smells", "street", "LGladSide$Street;", true)
  | 1 => ("GladSide$Smells", "now", "LGladSide$Course;", true)
  | 2 => ("GladSide$Smells", "standing", "LGladSide$Law;", true)
  | _ => ("GladSide$Smells", "smelling", "[I", true)
def tyX6 : Nat → FieldType := fun k => match k with
  | 0 => .object "GladSide$Street"
  | 1 => .object "GladSide$Course"
  | 2 => .object "GladSide$Law"
  | _ => .array .int
theorem nmX6 : ∀ a, a < 4 → ∀ b, b < 4 → a ≠ b → (TX6 a).2.1 ≠ (TX6 b).2.1 := by decide +kernel
theorem tyX6_ok : ∀ k, k < 4 → parseFieldDescriptor (TX6 k).2.2.1 = some (tyX6 k) := by decide +kernel
abbrev cX6_init : ByteArray := prog_8_method_1_code
def yX6_init : MethodName := ⟨RX6, "<init>", "(LGladSide$Street;LGladSide$Course;LGladSide$Law;)V"⟩
abbrev cX6_howMuch : ByteArray := prog_8_method_2_code
def yX6_howMuch : MethodName := ⟨RX6, "howMuch", "(II)I"⟩
abbrev cX6_byText : ByteArray := prog_8_method_3_code
def yX6_byText : MethodName := ⟨RX6, "byText", "(III)I"⟩
abbrev cX6_othersRunning : ByteArray := prog_8_method_4_code
def yX6_othersRunning : MethodName := ⟨RX6, "othersRunning", "(I)I"⟩
abbrev cX6_housesSmelling : ByteArray := prog_8_method_5_code
def yX6_housesSmelling : MethodName := ⟨RX6, "housesSmelling", "(I)I"⟩
abbrev cX6_fewestShut : ByteArray := prog_8_method_6_code
def yX6_fewestShut : MethodName := ⟨RX6, "fewestShut", "()I"⟩
abbrev cX6_holdsIn : ByteArray := prog_8_method_7_code
def yX6_holdsIn : MethodName := ⟨RX6, "holdsIn", "(I)Z"⟩
abbrev cX6_smeltWhereLived : ByteArray := prog_8_method_8_code
def yX6_smeltWhereLived : MethodName := ⟨RX6, "smeltWhereLived", "()I"⟩
def RX7 : String := "GladSide$Street"
def TX7 : u_T := fun k => match k with
  | 0 => ("GladSide$Street", "of", "[I", true)
  | 1 => ("GladSide$Street", "due", "[I", true)
  | 2 => ("GladSide$Street", "lasts", "[I", true)
  | 3 => ("GladSide$Street", "late", "[I", true)
  | 4 => ("GladSide$Street", "worth", "[I", true)
  | 5 => ("GladSide$Street", "kind", "[I", true)
  | 6 => ("GladSide$Street", "people", "I", false)
  | 7 => ("GladSide$Street", "joys", "I", false)
  | 8 => ("GladSide$Street", "year", "I", false)
  | _ => ("GladSide$Street", "nose", "I", false)
def tyX7 : Nat → FieldType := fun k => match k with
  | 0 => .array .int
  | 1 => .array .int
  | 2 => .array .int
  | 3 => .array .int
  | 4 => .array .int
  | 5 => .array .int
  | 6 => .int
  | 7 => .int
  | 8 => .int
  | _ => .int
theorem nmX7 : ∀ a, a < 10 → ∀ b, b < 10 → a ≠ b → (TX7 a).2.1 ≠ (TX7 b).2.1 := by decide +kernel
theorem tyX7_ok : ∀ k, k < 10 → parseFieldDescriptor (TX7 k).2.2.1 = some (tyX7 k) := by decide +kernel
abbrev cX7_init : ByteArray := prog_9_method_1_code
def yX7_init : MethodName := ⟨RX7, "<init>", "()V"⟩
abbrev cX7_isPerson : ByteArray := prog_9_method_2_code
def yX7_isPerson : MethodName := ⟨RX7, "isPerson", "(I)Z"⟩
abbrev cX7_isJoy : ByteArray := prog_9_method_3_code
def yX7_isJoy : MethodName := ⟨RX7, "isJoy", "(I)Z"⟩
abbrev cX7_addJoy : ByteArray := prog_9_method_4_code
def yX7_addJoy : MethodName := ⟨RX7, "addJoy", "(II)I"⟩
def RX8 : String := "GladSide$Tape"
def TX8 : u_T := fun k => match k with
  | 0 => ("GladSide$Tape", "draft", "LGladSide$Law;", true)
  | 1 => ("GladSide$Tape", "bytes", "[I", true)
  | 2 => ("GladSide$Tape", "length", "I", false)
  | 3 => ("GladSide$Tape", "at", "I", false)
  | _ => ("GladSide$Tape", "failed", "Z", false)
def tyX8 : Nat → FieldType := fun k => match k with
  | 0 => .object "GladSide$Law"
  | 1 => .array .int
  | 2 => .int
  | 3 => .int
  | _ => .boolean
theorem nmX8 : ∀ a, a < 5 → ∀ b, b < 5 → a ≠ b → (TX8 a).2.1 ≠ (TX8 b).2.1 := by decide +kernel
theorem tyX8_ok : ∀ k, k < 5 → parseFieldDescriptor (TX8 k).2.2.1 = some (tyX8 k) := by decide +kernel
abbrev cX8_init : ByteArray := prog_10_method_1_code
def yX8_init : MethodName := ⟨RX8, "<init>", "()V"⟩
abbrev cX8_append : ByteArray := prog_10_method_2_code
def yX8_append : MethodName := ⟨RX8, "append", "(I)Z"⟩
abbrev cX8_readLaw : ByteArray := prog_10_method_3_code
def yX8_readLaw : MethodName := ⟨RX8, "readLaw", "()I"⟩
abbrev cX8_next : ByteArray := prog_10_method_4_code
def yX8_next : MethodName := ⟨RX8, "next", "()I"⟩
abbrev cX8_takes : ByteArray := prog_10_method_5_code
def yX8_takes : MethodName := ⟨RX8, "takes", "(I)Z"⟩
abbrev cX8_readLine : ByteArray := prog_10_method_6_code
def yX8_readLine : MethodName := ⟨RX8, "readLine", "()V"⟩
abbrev cX8_readEither : ByteArray := prog_10_method_7_code
def yX8_readEither : MethodName := ⟨RX8, "readEither", "(I)V"⟩
abbrev cX8_readBoth : ByteArray := prog_10_method_8_code
def yX8_readBoth : MethodName := ⟨RX8, "readBoth", "(I)V"⟩
abbrev cX8_readCompared : ByteArray := prog_10_method_9_code
def yX8_readCompared : MethodName := ⟨RX8, "readCompared", "(I)V"⟩
abbrev cX8_readSum : ByteArray := prog_10_method_10_code
def yX8_readSum : MethodName := ⟨RX8, "readSum", "(I)V"⟩
abbrev cX8_readProduct : ByteArray := prog_10_method_11_code
def yX8_readProduct : MethodName := ⟨RX8, "readProduct", "(I)V"⟩
abbrev cX8_readOperand : ByteArray := prog_10_method_12_code
def yX8_readOperand : MethodName := ⟨RX8, "readOperand", "(I)V"⟩
abbrev cX8_readNumber : ByteArray := prog_10_method_13_code
def yX8_readNumber : MethodName := ⟨RX8, "readNumber", "()V"⟩
abbrev cX8_isDigit : ByteArray := prog_10_method_14_code
def yX8_isDigit : MethodName := ⟨RX8, "isDigit", "(I)Z"⟩
abbrev cX8_nameOf : ByteArray := prog_10_method_15_code
def yX8_nameOf : MethodName := ⟨RX8, "nameOf", "(I)I"⟩
def RX9 : String := "GladSide$Thought"
def TX9 : u_T := fun k => match k with
  | 0 => ("GladSide$Thought", "street", "LGladSide$Street;", true)
  | 1 => ("GladSide$Thought", "now", "LGladSide$Course;", true)
  | 2 => ("GladSide$Thought", "then", "LGladSide$Course;", true)
  | 3 => ("GladSide$Thought", "shelves", "LGladSide$Shelves;", true)
  | 4 => ("GladSide$Thought", "most", "I", false)
  | _ => ("GladSide$Thought", "which", "I", false)
def tyX9 : Nat → FieldType := fun k => match k with
  | 0 => .object "GladSide$Street"
  | 1 => .object "GladSide$Course"
  | 2 => .object "GladSide$Course"
  | 3 => .object "GladSide$Shelves"
  | 4 => .int
  | _ => .int
theorem nmX9 : ∀ a, a < 6 → ∀ b, b < 6 → a ≠ b → (TX9 a).2.1 ≠ (TX9 b).2.1 := by decide +kernel
theorem tyX9_ok : ∀ k, k < 6 → parseFieldDescriptor (TX9 k).2.2.1 = some (tyX9 k) := by decide +kernel
abbrev cX9_init : ByteArray := prog_11_method_1_code
def yX9_init : MethodName := ⟨RX9, "<init>", "(LGladSide$Street;LGladSide$Course;LGladSide$Shelves;)V"⟩
abbrev cX9_startNow : ByteArray := prog_11_method_2_code
def yX9_startNow : MethodName := ⟨RX9, "startNow", "()V"⟩
abbrev cX9_behind : ByteArray := prog_11_method_3_code
def yX9_behind : MethodName := ⟨RX9, "behind", "(I)LGladSide$Course;"⟩
abbrev cX9_worthBehind : ByteArray := prog_11_method_4_code
def yX9_worthBehind : MethodName := ⟨RX9, "worthBehind", "(III)I"⟩
abbrev cX9_firstDayOf : ByteArray := prog_11_method_5_code
def yX9_firstDayOf : MethodName := ⟨RX9, "firstDayOf", "(II)I"⟩
abbrev cX9_seekMove : ByteArray := prog_11_method_6_code
def yX9_seekMove : MethodName := ⟨RX9, "seekMove", "(I)V"⟩
abbrev cX9_seekDue : ByteArray := prog_11_method_7_code
def yX9_seekDue : MethodName := ⟨RX9, "seekDue", "(II)V"⟩
abbrev cX9_firstUnlike : ByteArray := prog_11_method_8_code
def yX9_firstUnlike : MethodName := ⟨RX9, "firstUnlike", "(II)I"⟩
abbrev cX9_seekFits : ByteArray := prog_11_method_9_code
def yX9_seekFits : MethodName := ⟨RX9, "seekFits", "(III[II)V"⟩
abbrev cX9_drawLanes : ByteArray := prog_11_method_10_code
def yX9_drawLanes : MethodName := ⟨RX9, "drawLanes", "(IIIII)I"⟩
abbrev cX9_moveByDraw : ByteArray := prog_11_method_11_code
def yX9_moveByDraw : MethodName := ⟨RX9, "moveByDraw", "(II)V"⟩
def RX10 : String := "GladSide$Votes"
def TX10 : u_T := fun k => match k with
  | 0 => ("GladSide$Votes", "street", "LGladSide$Street;", true)
  | 1 => ("GladSide$Votes", "now", "LGladSide$Course;", true)
  | 2 => ("GladSide$Votes", "side", "[I", true)
  | 3 => ("GladSide$Votes", "reached", "[Z", true)
  | 4 => ("GladSide$Votes", "lead", "I", false)
  | _ => ("GladSide$Votes", "firstMoved", "I", false)
def tyX10 : Nat → FieldType := fun k => match k with
  | 0 => .object "GladSide$Street"
  | 1 => .object "GladSide$Course"
  | 2 => .array .int
  | 3 => .array .boolean
  | 4 => .int
  | _ => .int
theorem nmX10 : ∀ a, a < 6 → ∀ b, b < 6 → a ≠ b → (TX10 a).2.1 ≠ (TX10 b).2.1 := by decide +kernel
theorem tyX10_ok : ∀ k, k < 6 → parseFieldDescriptor (TX10 k).2.2.1 = some (tyX10 k) := by decide +kernel
abbrev cX10_init : ByteArray := prog_12_method_1_code
def yX10_init : MethodName := ⟨RX10, "<init>", "(LGladSide$Street;LGladSide$Course;)V"⟩
abbrev cX10_fewestToTurn : ByteArray := prog_12_method_2_code
def yX10_fewestToTurn : MethodName := ⟨RX10, "fewestToTurn", "(I)I"⟩
abbrev cX10_areAcross : ByteArray := prog_12_method_3_code
def yX10_areAcross : MethodName := ⟨RX10, "areAcross", "(II)Z"⟩
abbrev cX10_nearestAcross : ByteArray := prog_12_method_4_code
def yX10_nearestAcross : MethodName := ⟨RX10, "nearestAcross", "(I)I"⟩
abbrev cX10_mostPairs : ByteArray := prog_12_method_5_code
def yX10_mostPairs : MethodName := ⟨RX10, "mostPairs", "(I)I"⟩
abbrev cX10_pairOff : ByteArray := prog_12_method_6_code
def yX10_pairOff : MethodName := ⟨RX10, "pairOff", "(II)V"⟩
abbrev cX10_playTurns : ByteArray := prog_12_method_7_code
def yX10_playTurns : MethodName := ⟨RX10, "playTurns", "(I)V"⟩
abbrev cX10_bestLead : ByteArray := prog_12_method_8_code
def yX10_bestLead : MethodName := ⟨RX10, "bestLead", "(IZI)I"⟩
abbrev cX10_leadIfMoved : ByteArray := prog_12_method_9_code
def yX10_leadIfMoved : MethodName := ⟨RX10, "leadIfMoved", "(IIZI)I"⟩
def RX11 : String := "GladSide"
def TX11 : u_T := fun k => match k with
  | 0 => ("GladSide", "street", "LGladSide$Street;", true)
  | 1 => ("GladSide", "now", "LGladSide$Course;", true)
  | 2 => ("GladSide", "kept", "LGladSide$Course;", true)
  | 3 => ("GladSide", "numbers", "LGladSide$Numbers;", true)
  | 4 => ("GladSide", "changes", "LGladSide$Changes;", true)
  | 5 => ("GladSide", "tape", "LGladSide$Tape;", true)
  | 6 => ("GladSide", "standing", "LGladSide$Law;", true)
  | 7 => ("GladSide", "smells", "LGladSide$Smells;", true)
  | 8 => ("GladSide", "thought", "LGladSide$Thought;", true)
  | 9 => ("GladSide", "votes", "LGladSide$Votes;", true)
  | 10 => ("GladSide", "acts", "LGladSide$Acts;", true)
  | 11 => ("GladSide", "shelves", "LGladSide$Shelves;", true)
  | 12 => ("GladSide", "hasImage", "Z", false)
  | 13 => ("GladSide", "keptPeople", "I", false)
  | _ => ("GladSide", "keptJoys", "I", false)
def tyX11 : Nat → FieldType := fun k => match k with
  | 0 => .object "GladSide$Street"
  | 1 => .object "GladSide$Course"
  | 2 => .object "GladSide$Course"
  | 3 => .object "GladSide$Numbers"
  | 4 => .object "GladSide$Changes"
  | 5 => .object "GladSide$Tape"
  | 6 => .object "GladSide$Law"
  | 7 => .object "GladSide$Smells"
  | 8 => .object "GladSide$Thought"
  | 9 => .object "GladSide$Votes"
  | 10 => .object "GladSide$Acts"
  | 11 => .object "GladSide$Shelves"
  | 12 => .boolean
  | 13 => .int
  | _ => .int
theorem nmX11 : ∀ a, a < 15 → ∀ b, b < 15 → a ≠ b → (TX11 a).2.1 ≠ (TX11 b).2.1 := by decide +kernel
theorem tyX11_ok : ∀ k, k < 15 → parseFieldDescriptor (TX11 k).2.2.1 = some (tyX11 k) := by decide +kernel
abbrev cX11_init : ByteArray := prog_1_method_1_code
def yX11_init : MethodName := ⟨RX11, "<init>", "()V"⟩
abbrev cX11_person : ByteArray := prog_1_method_2_code
def yX11_person : MethodName := ⟨RX11, "person", "(I)I"⟩
abbrev cX11_joy : ByteArray := prog_1_method_3_code
def yX11_joy : MethodName := ⟨RX11, "joy", "(II)I"⟩
abbrev cX11_joys : ByteArray := prog_1_method_4_code
def yX11_joys : MethodName := ⟨RX11, "joys", "(III)I"⟩
abbrev cX11_joyFromRow : ByteArray := prog_1_method_5_code
def yX11_joyFromRow : MethodName := ⟨RX11, "joyFromRow", "(II)Z"⟩
abbrev cX11_mend : ByteArray := prog_1_method_6_code
def yX11_mend : MethodName := ⟨RX11, "mend", "(III)I"⟩
abbrev cX11_of : ByteArray := prog_1_method_7_code
def yX11_of : MethodName := ⟨RX11, "of", "(II)I"⟩
abbrev cX11_feed : ByteArray := prog_1_method_8_code
def yX11_feed : MethodName := ⟨RX11, "feed", "(I)I"⟩
abbrev cX11_law : ByteArray := prog_1_method_9_code
def yX11_law : MethodName := ⟨RX11, "law", "()I"⟩
abbrev cX11_smell : ByteArray := prog_1_method_10_code
def yX11_smell : MethodName := ⟨RX11, "smell", "(II)I"⟩
abbrev cX11_smelt : ByteArray := prog_1_method_11_code
def yX11_smelt : MethodName := ⟨RX11, "smelt", "(I)I"⟩
abbrev cX11_shut : ByteArray := prog_1_method_12_code
def yX11_shut : MethodName := ⟨RX11, "shut", "(I)I"⟩
abbrev cX11_lane : ByteArray := prog_1_method_13_code
def yX11_lane : MethodName := ⟨RX11, "lane", "(II)I"⟩
abbrev cX11_when : ByteArray := prog_1_method_14_code
def yX11_when : MethodName := ⟨RX11, "when", "(II)I"⟩
abbrev cX11_move : ByteArray := prog_1_method_15_code
def yX11_move : MethodName := ⟨RX11, "move", "(II)I"⟩
abbrev cX11_over : ByteArray := prog_1_method_16_code
def yX11_over : MethodName := ⟨RX11, "over", "(I)I"⟩
abbrev cX11_date : ByteArray := prog_1_method_17_code
def yX11_date : MethodName := ⟨RX11, "date", "(III)I"⟩
abbrev cX11_judge : ByteArray := prog_1_method_18_code
def yX11_judge : MethodName := ⟨RX11, "judge", "(II)I"⟩
abbrev cX11_fits : ByteArray := prog_1_method_19_code
def yX11_fits : MethodName := ⟨RX11, "fits", "(III)I"⟩
abbrev cX11_who : ByteArray := prog_1_method_20_code
def yX11_who : MethodName := ⟨RX11, "who", "(I)I"⟩
abbrev cX11_share : ByteArray := prog_1_method_21_code
def yX11_share : MethodName := ⟨RX11, "share", "(II)I"⟩
abbrev cX11_near : ByteArray := prog_1_method_22_code
def yX11_near : MethodName := ⟨RX11, "near", "(I)I"⟩
abbrev cX11_mates : ByteArray := prog_1_method_23_code
def yX11_mates : MethodName := ⟨RX11, "mates", "(I)I"⟩
abbrev cX11_byTurns : ByteArray := prog_1_method_24_code
def yX11_byTurns : MethodName := ⟨RX11, "byTurns", "(II)I"⟩
abbrev cX11_drawn : ByteArray := prog_1_method_25_code
def yX11_drawn : MethodName := ⟨RX11, "drawn", "(III)I"⟩
abbrev cX11_moves : ByteArray := prog_1_method_26_code
def yX11_moves : MethodName := ⟨RX11, "moves", "(II)I"⟩
abbrev cX11_day : ByteArray := prog_1_method_27_code
def yX11_day : MethodName := ⟨RX11, "day", "()I"⟩
abbrev cX11_inspect : ByteArray := prog_1_method_28_code
def yX11_inspect : MethodName := ⟨RX11, "inspect", "()I"⟩
abbrev cX11_led : ByteArray := prog_1_method_29_code
def yX11_led : MethodName := ⟨RX11, "led", "(I)I"⟩
abbrev cX11_image : ByteArray := prog_1_method_30_code
def yX11_image : MethodName := ⟨RX11, "image", "()I"⟩
abbrev cX11_back : ByteArray := prog_1_method_31_code
def yX11_back : MethodName := ⟨RX11, "back", "()I"⟩
abbrev cX11_undo : ByteArray := prog_1_method_32_code
def yX11_undo : MethodName := ⟨RX11, "undo", "()I"⟩
abbrev cX11_redo : ByteArray := prog_1_method_33_code
def yX11_redo : MethodName := ⟨RX11, "redo", "()I"⟩
abbrev cX11_body : ByteArray := prog_1_method_34_code
def yX11_body : MethodName := ⟨RX11, "body", "(I)I"⟩
abbrev cX11_act : ByteArray := prog_1_method_35_code
def yX11_act : MethodName := ⟨RX11, "act", "(III)I"⟩
abbrev cX11_trace : ByteArray := prog_1_method_36_code
def yX11_trace : MethodName := ⟨RX11, "trace", "(I)I"⟩
abbrev cX11_keep : ByteArray := prog_1_method_37_code
def yX11_keep : MethodName := ⟨RX11, "keep", "(II)I"⟩
abbrev cX11_row : ByteArray := prog_1_method_38_code
def yX11_row : MethodName := ⟨RX11, "row", "(III)I"⟩
abbrev cX11_put : ByteArray := prog_1_method_39_code
def yX11_put : MethodName := ⟨RX11, "put", "(IIJ)I"⟩
abbrev cX11_element : ByteArray := prog_1_method_40_code
def yX11_element : MethodName := ⟨RX11, "element", "(II)J"⟩
abbrev cX11_shift : ByteArray := prog_1_method_41_code
def yX11_shift : MethodName := ⟨RX11, "shift", "(IIIII)I"⟩
abbrev cX11_taken : ByteArray := prog_1_method_42_code
def yX11_taken : MethodName := ⟨RX11, "taken", "(II)I"⟩
abbrev cX11_count : ByteArray := prog_1_method_43_code
def yX11_count : MethodName := ⟨RX11, "count", "(I)I"⟩
abbrev cX11_isWithin : ByteArray := prog_1_method_44_code
def yX11_isWithin : MethodName := ⟨RX11, "isWithin", "(III)Z"⟩
abbrev cX11_placesApart : ByteArray := prog_1_method_45_code
def yX11_placesApart : MethodName := ⟨RX11, "placesApart", "(II)I"⟩
def RX12 : String := "GladSideModel"
def TX12 : u_T := fun k => match k with
  | 0 => ("GladSideModel", "code", "I", false)
  | 1 => ("GladSideModel", "many", "I", false)
  | 2 => ("GladSideModel", "houseOf", "[I", true)
  | 3 => ("GladSideModel", "joyMany", "I", false)
  | 4 => ("GladSideModel", "ofWhom", "[I", true)
  | 5 => ("GladSideModel", "dueOf", "[I", true)
  | 6 => ("GladSideModel", "lastsOf", "[I", true)
  | 7 => ("GladSideModel", "lateOf", "[I", true)
  | 8 => ("GladSideModel", "worthOf", "[I", true)
  | 9 => ("GladSideModel", "kindOf", "[I", true)
  | 10 => ("GladSideModel", "ranOf", "[I", true)
  | 11 => ("GladSideModel", "lostOf", "[I", true)
  | 12 => ("GladSideModel", "lane", "[I", true)
  | 13 => ("GladSideModel", "doneMany", "I", false)
  | 14 => ("GladSideModel", "undoneMany", "I", false)
  | 15 => ("GladSideModel", "changeOf", "[I", true)
  | 16 => ("GladSideModel", "changeAt", "[I", true)
  | 17 => ("GladSideModel", "before", "[I", true)
  | 18 => ("GladSideModel", "behind", "[I", true)
  | 19 => ("GladSideModel", "tape", "[B", true)
  | 20 => ("GladSideModel", "taped", "I", false)
  | 21 => ("GladSideModel", "here", "I", false)
  | 22 => ("GladSideModel", "fault", "I", false)
  | 23 => ("GladSideModel", "open", "I", false)
  | 24 => ("GladSideModel", "laid", "I", false)
  | 25 => ("GladSideModel", "act", "[B", true)
  | 26 => ("GladSideModel", "with", "[I", true)
  | 27 => ("GladSideModel", "lineMany", "[I", true)
  | 28 => ("GladSideModel", "testEnd", "[S", true)
  | 29 => ("GladSideModel", "lineEnd", "[S", true)
  | 30 => ("GladSideModel", "facts", "[I", true)
  | 31 => ("GladSideModel", "pile", "[I", true)
  | 32 => ("GladSideModel", "hasLaw", "Z", false)
  | 33 => ("GladSideModel", "house1", "[I", true)
  | 34 => ("GladSideModel", "ran1", "[I", true)
  | 35 => ("GladSideModel", "lost1", "[I", true)
  | 36 => ("GladSideModel", "glad1", "I", false)
  | 37 => ("GladSideModel", "day1", "I", false)
  | 38 => ("GladSideModel", "turns1", "I", false)
  | 39 => ("GladSideModel", "votes1", "I", false)
  | 40 => ("GladSideModel", "smeltIn", "[I", true)
  | 41 => ("GladSideModel", "ledOf", "[I", true)
  | 42 => ("GladSideModel", "hasImage", "Z", false)
  | 43 => ("GladSideModel", "keptMany", "I", false)
  | 44 => ("GladSideModel", "keptJoys", "I", false)
  | 45 => ("GladSideModel", "keptGlad", "I", false)
  | 46 => ("GladSideModel", "keptDay", "I", false)
  | 47 => ("GladSideModel", "keptHouse", "[I", true)
  | 48 => ("GladSideModel", "keptRan", "[I", true)
  | 49 => ("GladSideModel", "keptLost", "[I", true)
  | 50 => ("GladSideModel", "keptLed", "[I", true)
  | 51 => ("GladSideModel", "bodies", "I", false)
  | 52 => ("GladSideModel", "kind", "[I", true)
  | 53 => ("GladSideModel", "traces", "I", false)
  | 54 => ("GladSideModel", "traced", "[I", true)
  | 55 => ("GladSideModel", "holds", "[I", true)
  | 56 => ("GladSideModel", "size", "[I", true)
  | 57 => ("GladSideModel", "elements", "[J", true)
  | _ => ("GladSideModel", "shifted", "[J", true)
def tyX12 : Nat → FieldType := fun k => match k with
  | 0 => .int
  | 1 => .int
  | 2 => .array .int
  | 3 => .int
  | 4 => .array .int
  | 5 => .array .int
  | 6 => .array .int
  | 7 => .array .int
  | 8 => .array .int
  | 9 => .array .int
  | 10 => .array .int
  | 11 => .array .int
  | 12 => .array .int
  | 13 => .int
  | 14 => .int
  | 15 => .array .int
  | 16 => .array .int
  | 17 => .array .int
  | 18 => .array .int
  | 19 => .array .byte
  | 20 => .int
  | 21 => .int
  | 22 => .int
  | 23 => .int
  | 24 => .int
  | 25 => .array .byte
  | 26 => .array .int
  | 27 => .array .int
  | 28 => .array .short
  | 29 => .array .short
  | 30 => .array .int
  | 31 => .array .int
  | 32 => .boolean
  | 33 => .array .int
  | 34 => .array .int
  | 35 => .array .int
  | 36 => .int
  | 37 => .int
  | 38 => .int
  | 39 => .int
  | 40 => .array .int
  | 41 => .array .int
  | 42 => .boolean
  | 43 => .int
  | 44 => .int
  | 45 => .int
  | 46 => .int
  | 47 => .array .int
  | 48 => .array .int
  | 49 => .array .int
  | 50 => .array .int
  | 51 => .int
  | 52 => .array .int
  | 53 => .int
  | 54 => .array .int
  | 55 => .array .int
  | 56 => .array .int
  | 57 => .array .long
  | _ => .array .long
theorem nmX12 : ∀ a, a < 59 → ∀ b, b < 59 → a ≠ b → (TX12 a).2.1 ≠ (TX12 b).2.1 := by decide +kernel
theorem tyX12_ok : ∀ k, k < 59 → parseFieldDescriptor (TX12 k).2.2.1 = some (tyX12 k) := by decide +kernel
abbrev cX12_init : ByteArray := prog_14_method_1_code
def yX12_init : MethodName := ⟨RX12, "<init>", "()V"⟩
abbrev cX12_in : ByteArray := prog_14_method_3_code
def yX12_in : MethodName := ⟨RX12, "in", "(III)Z"⟩
abbrev cX12_has : ByteArray := prog_14_method_4_code
def yX12_has : MethodName := ⟨RX12, "has", "(II)Z"⟩
abbrev cX12_bitsOf : ByteArray := prog_14_method_5_code
def yX12_bitsOf : MethodName := ⟨RX12, "bitsOf", "(I)I"⟩
abbrev cX12_isOne : ByteArray := prog_14_method_6_code
def yX12_isOne : MethodName := ⟨RX12, "isOne", "(I)Z"⟩
abbrev cX12_isJoy : ByteArray := prog_14_method_7_code
def yX12_isJoy : MethodName := ⟨RX12, "isJoy", "(I)Z"⟩
abbrev cX12_isHouse : ByteArray := prog_14_method_8_code
def yX12_isHouse : MethodName := ⟨RX12, "isHouse", "(I)Z"⟩
abbrev cX12_isSide : ByteArray := prog_14_method_9_code
def yX12_isSide : MethodName := ⟨RX12, "isSide", "(I)Z"⟩
abbrev cX12_person : ByteArray := prog_14_method_10_code
def yX12_person : MethodName := ⟨RX12, "person", "(I)I"⟩
abbrev cX12_addJoy : ByteArray := prog_14_method_11_code
def yX12_addJoy : MethodName := ⟨RX12, "addJoy", "(III)I"⟩
abbrev cX12_joy : ByteArray := prog_14_method_12_code
def yX12_joy : MethodName := ⟨RX12, "joy", "(II)I"⟩
abbrev cX12_joys : ByteArray := prog_14_method_13_code
def yX12_joys : MethodName := ⟨RX12, "joys", "(III)I"⟩
abbrev cX12_valueAt : ByteArray := prog_14_method_14_code
def yX12_valueAt : MethodName := ⟨RX12, "valueAt", "(II)I"⟩
abbrev cX12_lays : ByteArray := prog_14_method_15_code
def yX12_lays : MethodName := ⟨RX12, "lays", "(III)V"⟩
abbrev cX12_changes : ByteArray := prog_14_method_16_code
def yX12_changes : MethodName := ⟨RX12, "changes", "(III)I"⟩
abbrev cX12_undo : ByteArray := prog_14_method_17_code
def yX12_undo : MethodName := ⟨RX12, "undo", "()I"⟩
abbrev cX12_redo : ByteArray := prog_14_method_18_code
def yX12_redo : MethodName := ⟨RX12, "redo", "()I"⟩
abbrev cX12_isPlace : ByteArray := prog_14_method_19_code
def yX12_isPlace : MethodName := ⟨RX12, "isPlace", "(II)Z"⟩
abbrev cX12_mayHave : ByteArray := prog_14_method_20_code
def yX12_mayHave : MethodName := ⟨RX12, "mayHave", "(II)Z"⟩
abbrev cX12_mend : ByteArray := prog_14_method_21_code
def yX12_mend : MethodName := ⟨RX12, "mend", "(III)I"⟩
abbrev cX12_of : ByteArray := prog_14_method_22_code
def yX12_of : MethodName := ⟨RX12, "of", "(II)I"⟩
abbrev cX12_feed : ByteArray := prog_14_method_23_code
def yX12_feed : MethodName := ⟨RX12, "feed", "(I)I"⟩
abbrev cX12_look : ByteArray := prog_14_method_24_code
def yX12_look : MethodName := ⟨RX12, "look", "()I"⟩
abbrev cX12_wrong : ByteArray := prog_14_method_25_code
def yX12_wrong : MethodName := ⟨RX12, "wrong", "()V"⟩
abbrev cX12_addStep : ByteArray := prog_14_method_26_code
def yX12_addStep : MethodName := ⟨RX12, "addStep", "(II)V"⟩
abbrev cX12_nameOf : ByteArray := prog_14_method_27_code
def yX12_nameOf : MethodName := ⟨RX12, "nameOf", "(I)I"⟩
abbrev cX12_opens : ByteArray := prog_14_method_28_code
def yX12_opens : MethodName := ⟨RX12, "opens", "()Z"⟩
abbrev cX12_figure : ByteArray := prog_14_method_29_code
def yX12_figure : MethodName := ⟨RX12, "figure", "()V"⟩
abbrev cX12_operand : ByteArray := prog_14_method_30_code
def yX12_operand : MethodName := ⟨RX12, "operand", "()V"⟩
abbrev cX12_product : ByteArray := prog_14_method_31_code
def yX12_product : MethodName := ⟨RX12, "product", "()V"⟩
abbrev cX12_sum : ByteArray := prog_14_method_32_code
def yX12_sum : MethodName := ⟨RX12, "sum", "()V"⟩
abbrev cX12_compared : ByteArray := prog_14_method_33_code
def yX12_compared : MethodName := ⟨RX12, "compared", "()V"⟩
abbrev cX12_both : ByteArray := prog_14_method_34_code
def yX12_both : MethodName := ⟨RX12, "both", "()V"⟩
abbrev cX12_either : ByteArray := prog_14_method_35_code
def yX12_either : MethodName := ⟨RX12, "either", "()V"⟩
abbrev cX12_line : ByteArray := prog_14_method_36_code
def yX12_line : MethodName := ⟨RX12, "line", "()V"⟩
abbrev cX12_readText : ByteArray := prog_14_method_37_code
def yX12_readText : MethodName := ⟨RX12, "readText", "(I)I"⟩
abbrev cX12_twoOf : ByteArray := prog_14_method_38_code
def yX12_twoOf : MethodName := ⟨RX12, "twoOf", "(III)I"⟩
abbrev cX12_worked : ByteArray := prog_14_method_39_code
def yX12_worked : MethodName := ⟨RX12, "worked", "(III)I"⟩
abbrev cX12_gives : ByteArray := prog_14_method_40_code
def yX12_gives : MethodName := ⟨RX12, "gives", "(I)I"⟩
abbrev cX12_law : ByteArray := prog_14_method_41_code
def yX12_law : MethodName := ⟨RX12, "law", "()I"⟩
abbrev cX12_layNow : ByteArray := prog_14_method_42_code
def yX12_layNow : MethodName := ⟨RX12, "layNow", "()V"⟩
abbrev cX12_houseOfJoy : ByteArray := prog_14_method_43_code
def yX12_houseOfJoy : MethodName := ⟨RX12, "houseOfJoy", "(I)I"⟩
abbrev cX12_waits : ByteArray := prog_14_method_44_code
def yX12_waits : MethodName := ⟨RX12, "waits", "(I)Z"⟩
abbrev cX12_runs : ByteArray := prog_14_method_45_code
def yX12_runs : MethodName := ⟨RX12, "runs", "(I)Z"⟩
abbrev cX12_isHad : ByteArray := prog_14_method_46_code
def yX12_isHad : MethodName := ⟨RX12, "isHad", "(I)Z"⟩
abbrev cX12_onGladSide : ByteArray := prog_14_method_47_code
def yX12_onGladSide : MethodName := ⟨RX12, "onGladSide", "(I)Z"⟩
abbrev cX12_moreLeft : ByteArray := prog_14_method_48_code
def yX12_moreLeft : MethodName := ⟨RX12, "moreLeft", "()I"⟩
abbrev cX12_vote : ByteArray := prog_14_method_49_code
def yX12_vote : MethodName := ⟨RX12, "vote", "()V"⟩
abbrev cX12_goJoy : ByteArray := prog_14_method_50_code
def yX12_goJoy : MethodName := ⟨RX12, "goJoy", "(I)V"⟩
abbrev cX12_goDay : ByteArray := prog_14_method_51_code
def yX12_goDay : MethodName := ⟨RX12, "goDay", "()V"⟩
abbrev cX12_joysBy : ByteArray := prog_14_method_52_code
def yX12_joysBy : MethodName := ⟨RX12, "joysBy", "(I)I"⟩
abbrev cX12_gladPeople : ByteArray := prog_14_method_53_code
def yX12_gladPeople : MethodName := ⟨RX12, "gladPeople", "()I"⟩
abbrev cX12_worthsOf : ByteArray := prog_14_method_54_code
def yX12_worthsOf : MethodName := ⟨RX12, "worthsOf", "(I)I"⟩
abbrev cX12_othersRun : ByteArray := prog_14_method_55_code
def yX12_othersRun : MethodName := ⟨RX12, "othersRun", "(I)I"⟩
abbrev cX12_apartBy : ByteArray := prog_14_method_56_code
def yX12_apartBy : MethodName := ⟨RX12, "apartBy", "(II)I"⟩
abbrev cX12_overBy : ByteArray := prog_14_method_57_code
def yX12_overBy : MethodName := ⟨RX12, "overBy", "(II)I"⟩
abbrev cX12_smell : ByteArray := prog_14_method_58_code
def yX12_smell : MethodName := ⟨RX12, "smell", "(II)I"⟩
abbrev cX12_smeltBy : ByteArray := prog_14_method_59_code
def yX12_smeltBy : MethodName := ⟨RX12, "smeltBy", "(I)I"⟩
abbrev cX12_smelt : ByteArray := prog_14_method_60_code
def yX12_smelt : MethodName := ⟨RX12, "smelt", "(I)I"⟩
abbrev cX12_noneSmelt : ByteArray := prog_14_method_61_code
def yX12_noneSmelt : MethodName := ⟨RX12, "noneSmelt", "(I)Z"⟩
abbrev cX12_shut : ByteArray := prog_14_method_62_code
def yX12_shut : MethodName := ⟨RX12, "shut", "(I)I"⟩
abbrev cX12_goDays : ByteArray := prog_14_method_63_code
def yX12_goDays : MethodName := ⟨RX12, "goDays", "(I)V"⟩
abbrev cX12_lane : ByteArray := prog_14_method_64_code
def yX12_lane : MethodName := ⟨RX12, "lane", "(II)I"⟩
abbrev cX12_when : ByteArray := prog_14_method_65_code
def yX12_when : MethodName := ⟨RX12, "when", "(II)I"⟩
abbrev cX12_hadBehind : ByteArray := prog_14_method_66_code
def yX12_hadBehind : MethodName := ⟨RX12, "hadBehind", "(I)I"⟩
abbrev cX12_move : ByteArray := prog_14_method_67_code
def yX12_move : MethodName := ⟨RX12, "move", "(II)I"⟩
abbrev cX12_over : ByteArray := prog_14_method_68_code
def yX12_over : MethodName := ⟨RX12, "over", "(I)I"⟩
abbrev cX12_date : ByteArray := prog_14_method_69_code
def yX12_date : MethodName := ⟨RX12, "date", "(III)I"⟩
abbrev cX12_rowFault : ByteArray := prog_14_method_70_code
def yX12_rowFault : MethodName := ⟨RX12, "rowFault", "(I)I"⟩
abbrev cX12_at : ByteArray := prog_14_method_71_code
def yX12_at : MethodName := ⟨RX12, "at", "(II)I"⟩
abbrev cX12_wrongDay : ByteArray := prog_14_method_72_code
def yX12_wrongDay : MethodName := ⟨RX12, "wrongDay", "(II)I"⟩
abbrev cX12_judge : ByteArray := prog_14_method_73_code
def yX12_judge : MethodName := ⟨RX12, "judge", "(II)I"⟩
abbrev cX12_dues : ByteArray := prog_14_method_74_code
def yX12_dues : MethodName := ⟨RX12, "dues", "(IIIZ)I"⟩
abbrev cX12_lates : ByteArray := prog_14_method_75_code
def yX12_lates : MethodName := ⟨RX12, "lates", "(IIIZ)I"⟩
abbrev cX12_fits : ByteArray := prog_14_method_76_code
def yX12_fits : MethodName := ⟨RX12, "fits", "(III)I"⟩
abbrev cX12_who : ByteArray := prog_14_method_77_code
def yX12_who : MethodName := ⟨RX12, "who", "(I)I"⟩
abbrev cX12_share : ByteArray := prog_14_method_78_code
def yX12_share : MethodName := ⟨RX12, "share", "(II)I"⟩
abbrev cX12_near : ByteArray := prog_14_method_79_code
def yX12_near : MethodName := ⟨RX12, "near", "(I)I"⟩
abbrev cX12_mostMates : ByteArray := prog_14_method_80_code
def yX12_mostMates : MethodName := ⟨RX12, "mostMates", "(III)I"⟩
abbrev cX12_mates : ByteArray := prog_14_method_81_code
def yX12_mates : MethodName := ⟨RX12, "mates", "(I)I"⟩
abbrev cX12_endsBy : ByteArray := prog_14_method_82_code
def yX12_endsBy : MethodName := ⟨RX12, "endsBy", "(I)I"⟩
abbrev cX12_bestOf : ByteArray := prog_14_method_83_code
def yX12_bestOf : MethodName := ⟨RX12, "bestOf", "(IIZ)I"⟩
abbrev cX12_byTurns : ByteArray := prog_14_method_84_code
def yX12_byTurns : MethodName := ⟨RX12, "byTurns", "(II)I"⟩
abbrev cX12_drawn : ByteArray := prog_14_method_85_code
def yX12_drawn : MethodName := ⟨RX12, "drawn", "(III)I"⟩
abbrev cX12_moves : ByteArray := prog_14_method_86_code
def yX12_moves : MethodName := ⟨RX12, "moves", "(II)I"⟩
abbrev cX12_day : ByteArray := prog_14_method_87_code
def yX12_day : MethodName := ⟨RX12, "day", "()I"⟩
abbrev cX12_livedIn : ByteArray := prog_14_method_88_code
def yX12_livedIn : MethodName := ⟨RX12, "livedIn", "()I"⟩
abbrev cX12_inspect : ByteArray := prog_14_method_89_code
def yX12_inspect : MethodName := ⟨RX12, "inspect", "()I"⟩
abbrev cX12_led : ByteArray := prog_14_method_90_code
def yX12_led : MethodName := ⟨RX12, "led", "(I)I"⟩
abbrev cX12_image : ByteArray := prog_14_method_91_code
def yX12_image : MethodName := ⟨RX12, "image", "()I"⟩
abbrev cX12_back : ByteArray := prog_14_method_92_code
def yX12_back : MethodName := ⟨RX12, "back", "()I"⟩
abbrev cX12_isBody : ByteArray := prog_14_method_93_code
def yX12_isBody : MethodName := ⟨RX12, "isBody", "(I)Z"⟩
abbrev cX12_ran : ByteArray := prog_14_method_94_code
def yX12_ran : MethodName := ⟨RX12, "ran", "(I)V"⟩
abbrev cX12_trace : ByteArray := prog_14_method_95_code
def yX12_trace : MethodName := ⟨RX12, "trace", "(I)I"⟩
abbrev cX12_body : ByteArray := prog_14_method_96_code
def yX12_body : MethodName := ⟨RX12, "body", "(I)I"⟩
abbrev cX12_isUnder : ByteArray := prog_14_method_97_code
def yX12_isUnder : MethodName := ⟨RX12, "isUnder", "(II)Z"⟩
abbrev cX12_plainOpens : ByteArray := prog_14_method_98_code
def yX12_plainOpens : MethodName := ⟨RX12, "plainOpens", "(II)I"⟩
abbrev cX12_springOpens : ByteArray := prog_14_method_99_code
def yX12_springOpens : MethodName := ⟨RX12, "springOpens", "(II)I"⟩
abbrev cX12_opening : ByteArray := prog_14_method_100_code
def yX12_opening : MethodName := ⟨RX12, "opening", "(II)I"⟩
abbrev cX12_plainSmells : ByteArray := prog_14_method_101_code
def yX12_plainSmells : MethodName := ⟨RX12, "plainSmells", "(II)I"⟩
abbrev cX12_weddingSmells : ByteArray := prog_14_method_102_code
def yX12_weddingSmells : MethodName := ⟨RX12, "weddingSmells", "(II)I"⟩
abbrev cX12_smelling : ByteArray := prog_14_method_103_code
def yX12_smelling : MethodName := ⟨RX12, "smelling", "(II)I"⟩
abbrev cX12_plainVotes : ByteArray := prog_14_method_104_code
def yX12_plainVotes : MethodName := ⟨RX12, "plainVotes", "(II)I"⟩
abbrev cX12_widowVotes : ByteArray := prog_14_method_105_code
def yX12_widowVotes : MethodName := ⟨RX12, "widowVotes", "(II)I"⟩
abbrev cX12_voting : ByteArray := prog_14_method_106_code
def yX12_voting : MethodName := ⟨RX12, "voting", "(II)I"⟩
abbrev cX12_plainTells : ByteArray := prog_14_method_107_code
def yX12_plainTells : MethodName := ⟨RX12, "plainTells", "(II)I"⟩
abbrev cX12_telling : ByteArray := prog_14_method_108_code
def yX12_telling : MethodName := ⟨RX12, "telling", "(II)I"⟩
abbrev cX12_act : ByteArray := prog_14_method_109_code
def yX12_act : MethodName := ⟨RX12, "act", "(III)I"⟩
abbrev cX12_count : ByteArray := prog_14_method_110_code
def yX12_count : MethodName := ⟨RX12, "count", "(I)I"⟩
abbrev cX12_isShelf : ByteArray := prog_14_method_111_code
def yX12_isShelf : MethodName := ⟨RX12, "isShelf", "(I)Z"⟩
abbrev cX12_keep : ByteArray := prog_14_method_112_code
def yX12_keep : MethodName := ⟨RX12, "keep", "(II)I"⟩
abbrev cX12_row : ByteArray := prog_14_method_113_code
def yX12_row : MethodName := ⟨RX12, "row", "(III)I"⟩
abbrev cX12_whyNoPlace : ByteArray := prog_14_method_114_code
def yX12_whyNoPlace : MethodName := ⟨RX12, "whyNoPlace", "(II)I"⟩
abbrev cX12_put : ByteArray := prog_14_method_115_code
def yX12_put : MethodName := ⟨RX12, "put", "(IIJ)I"⟩
abbrev cX12_element : ByteArray := prog_14_method_116_code
def yX12_element : MethodName := ⟨RX12, "element", "(II)J"⟩
abbrev cX12_shift : ByteArray := prog_14_method_117_code
def yX12_shift : MethodName := ⟨RX12, "shift", "(IIIII)I"⟩
abbrev cX12_taken : ByteArray := prog_14_method_118_code
def yX12_taken : MethodName := ⟨RX12, "taken", "(II)I"⟩
def RJ6 : String := "java/lang/Integer"
def TJ6 : u_T := fun k => match k with
  | _ => ("", "", "", false)
def tyJ6 : Nat → FieldType := fun k => match k with
  | _ => .int
theorem nmJ6 : ∀ a, a < 0 → ∀ b, b < 0 → a ≠ b → (TJ6 a).2.1 ≠ (TJ6 b).2.1 := by decide +kernel
theorem tyJ6_ok : ∀ k, k < 0 → parseFieldDescriptor (TJ6 k).2.2.1 = some (tyJ6 k) := by decide +kernel
abbrev cJ6_bitCount_0f7a4 : ByteArray := prog_15_method_49_code
def yJ6_bitCount_0f7a4 : MethodName := ⟨RJ6, "bitCount", "(I)I"⟩
def RJ9 : String := "java/lang/Math"
def TJ9 : u_T := fun k => match k with
  | _ => ("", "", "", false)
def tyJ9 : Nat → FieldType := fun k => match k with
  | _ => .int
theorem nmJ9 : ∀ a, a < 0 → ∀ b, b < 0 → a ≠ b → (TJ9 a).2.1 ≠ (TJ9 b).2.1 := by decide +kernel
theorem tyJ9_ok : ∀ k, k < 0 → parseFieldDescriptor (TJ9 k).2.2.1 = some (tyJ9 k) := by decide +kernel
abbrev cJ9_abs_0f7a4 : ByteArray := prog_16_method_59_code
def yJ9_abs_0f7a4 : MethodName := ⟨RJ9, "abs", "(I)I"⟩
abbrev cJ9_max_7cf53 : ByteArray := prog_16_method_65_code
def yJ9_max_7cf53 : MethodName := ⟨RJ9, "max", "(II)I"⟩
abbrev cJ9_min_7cf53 : ByteArray := prog_16_method_69_code
def yJ9_min_7cf53 : MethodName := ⟨RJ9, "min", "(II)I"⟩
def RJ10 : String := "java/lang/System"
def TJ10 : u_T := fun k => match k with
  | _ => ("", "", "", false)
def tyJ10 : Nat → FieldType := fun k => match k with
  | _ => .int
theorem nmJ10 : ∀ a, a < 0 → ∀ b, b < 0 → a ≠ b → (TJ10 a).2.1 ≠ (TJ10 b).2.1 := by decide +kernel
theorem tyJ10_ok : ∀ k, k < 0 → parseFieldDescriptor (TJ10 k).2.2.1 = some (tyJ10 k) := by decide +kernel
def RL : String := "GladSideLaw"
abbrev cL_law : ByteArray := code
def yL_law : MethodName := ⟨RL, "law", "([I)Z"⟩
abbrev vwCl : List vw_C := [(RX0, TX0, 5), (RX1, TX1, 7), (RX2, TX2, 7), (RX3, TX3, 5), (RX4, TX4, 2), (RX5, TX5, 3), (RX6, TX6, 4), (RX7, TX7, 10), (RX8, TX8, 5), (RX9, TX9, 6), (RX10, TX10, 6), (RX11, TX11, 15), (RX12, TX12, 59)]
end
section
theorem dX0_init_0 : decode cX0_init 0 = .ok (.aload_n 0, 1) := by decide +kernel
theorem dX0_init_1 : decode cX0_init 1 = .ok (.invokespecial 3, 3) := by decide +kernel
theorem dX0_init_4 : decode cX0_init 4 = .ok (.aload_n 0, 1) := by decide +kernel
theorem dX0_init_5 : decode cX0_init 5 = .ok (.bipush 50, 2) := by decide +kernel
theorem dX0_init_7 : decode cX0_init 7 = .ok (.newarray .int, 2) := by decide +kernel
theorem dX0_init_9 : decode cX0_init 9 = .ok (.putfield 11, 3) := by decide +kernel
theorem dX0_init_12 : decode cX0_init 12 = .ok (.aload_n 0, 1) := by decide +kernel
theorem dX0_init_13 : decode cX0_init 13 = .ok (.bipush 24, 2) := by decide +kernel
theorem dX0_init_15 : decode cX0_init 15 = .ok (.newarray .int, 2) := by decide +kernel
theorem dX0_init_17 : decode cX0_init 17 = .ok (.putfield 15, 3) := by decide +kernel
theorem dX0_init_20 : decode cX0_init 20 = .ok (.return_, 1) := by decide +kernel
theorem dX0_isBody_0 : decode cX0_isBody 0 = .ok (.iload_n 1, 1) := by decide +kernel
theorem dX0_isBody_1 : decode cX0_isBody 1 = .ok (.ifCond .lt 21, 3) := by decide +kernel
theorem dX0_isBody_4 : decode cX0_isBody 4 = .ok (.iload_n 1, 1) := by decide +kernel
theorem dX0_isBody_5 : decode cX0_isBody 5 = .ok (.aload_n 0, 1) := by decide +kernel
theorem dX0_isBody_6 : decode cX0_isBody 6 = .ok (.getfield 18, 3) := by decide +kernel
theorem dX0_isBody_9 : decode cX0_isBody 9 = .ok (.if_icmp .ge 13, 3) := by decide +kernel
theorem dX0_isBody_12 : decode cX0_isBody 12 = .ok (.iload_n 1, 1) := by decide +kernel
theorem dX0_isBody_13 : decode cX0_isBody 13 = .ok (.bipush 50, 2) := by decide +kernel
theorem dX0_isBody_15 : decode cX0_isBody 15 = .ok (.if_icmp .ge 7, 3) := by decide +kernel
theorem dX0_isBody_18 : decode cX0_isBody 18 = .ok (.iconst 1, 1) := by decide +kernel
theorem dX0_isBody_19 : decode cX0_isBody 19 = .ok (.goto 4, 3) := by decide +kernel
theorem dX0_isBody_22 : decode cX0_isBody 22 = .ok (.iconst 0, 1) := by decide +kernel
theorem dX0_isBody_23 : decode cX0_isBody 23 = .ok (.ireturn, 1) := by decide +kernel
theorem dX0_add_0 : decode cX0_add 0 = .ok (.aload_n 0, 1) := by decide +kernel
theorem dX0_add_1 : decode cX0_add 1 = .ok (.getfield 18, 3) := by decide +kernel
theorem dX0_add_4 : decode cX0_add 4 = .ok (.bipush 50, 2) := by decide +kernel
theorem dX0_add_6 : decode cX0_add 6 = .ok (.if_icmp .lt 6, 3) := by decide +kernel
theorem dX0_add_9 : decode cX0_add 9 = .ok (.bipush (-3), 2) := by decide +kernel
theorem dX0_add_11 : decode cX0_add 11 = .ok (.ireturn, 1) := by decide +kernel
theorem dX0_add_12 : decode cX0_add 12 = .ok (.aload_n 0, 1) := by decide +kernel
theorem dX0_add_13 : decode cX0_add 13 = .ok (.getfield 11, 3) := by decide +kernel
theorem dX0_add_16 : decode cX0_add 16 = .ok (.aload_n 0, 1) := by decide +kernel
theorem dX0_add_17 : decode cX0_add 17 = .ok (.getfield 18, 3) := by decide +kernel
theorem dX0_add_20 : decode cX0_add 20 = .ok (.iload_n 1, 1) := by decide +kernel
theorem dX0_add_21 : decode cX0_add 21 = .ok (.iastore, 1) := by decide +kernel
theorem dX0_add_22 : decode cX0_add 22 = .ok (.aload_n 0, 1) := by decide +kernel
theorem dX0_add_23 : decode cX0_add 23 = .ok (.dup, 1) := by decide +kernel
theorem dX0_add_24 : decode cX0_add 24 = .ok (.getfield 18, 3) := by decide +kernel
theorem dX0_add_27 : decode cX0_add 27 = .ok (.dup_x1, 1) := by decide +kernel
theorem dX0_add_28 : decode cX0_add 28 = .ok (.iconst 1, 1) := by decide +kernel
theorem dX0_add_29 : decode cX0_add 29 = .ok (.iadd, 1) := by decide +kernel
theorem dX0_add_30 : decode cX0_add 30 = .ok (.putfield 18, 3) := by decide +kernel
theorem dX0_add_33 : decode cX0_add 33 = .ok (.ireturn, 1) := by decide +kernel
theorem dX0_traced_0 : decode cX0_traced 0 = .ok (.aload_n 0, 1) := by decide +kernel
theorem dX0_traced_1 : decode cX0_traced 1 = .ok (.getfield 22, 3) := by decide +kernel
theorem dX0_traced_4 : decode cX0_traced 4 = .ok (.bipush 24, 2) := by decide +kernel
theorem dX0_traced_6 : decode cX0_traced 6 = .ok (.invokestatic 25, 3) := by decide +kernel
theorem dX0_traced_9 : decode cX0_traced 9 = .ok (.ireturn, 1) := by decide +kernel
theorem dX0_isUnder_0 : decode cX0_isUnder 0 = .ok (.iload_n 0, 1) := by decide +kernel
theorem dX0_isUnder_1 : decode cX0_isUnder 1 = .ok (.istore_n 2, 1) := by decide +kernel
theorem dX0_isUnder_2 : decode cX0_isUnder 2 = .ok (.iconst 0, 1) := by decide +kernel
theorem dX0_isUnder_3 : decode cX0_isUnder 3 = .ok (.istore_n 3, 1) := by decide +kernel
theorem dX0_isUnder_4 : decode cX0_isUnder 4 = .ok (.iload_n 3, 1) := by decide +kernel
theorem dX0_isUnder_5 : decode cX0_isUnder 5 = .ok (.bipush 8, 2) := by decide +kernel
theorem dX0_isUnder_7 : decode cX0_isUnder 7 = .ok (.if_icmp .ge 32, 3) := by decide +kernel
theorem dX0_isUnder_10 : decode cX0_isUnder 10 = .ok (.iload_n 2, 1) := by decide +kernel
theorem dX0_isUnder_11 : decode cX0_isUnder 11 = .ok (.ifCond .lt 28, 3) := by decide +kernel
theorem dX0_isUnder_14 : decode cX0_isUnder 14 = .ok (.iload_n 2, 1) := by decide +kernel
theorem dX0_isUnder_15 : decode cX0_isUnder 15 = .ok (.bipush 8, 2) := by decide +kernel
theorem dX0_isUnder_17 : decode cX0_isUnder 17 = .ok (.if_icmp .ge 22, 3) := by decide +kernel
theorem dX0_isUnder_20 : decode cX0_isUnder 20 = .ok (.iload_n 2, 1) := by decide +kernel
theorem dX0_isUnder_21 : decode cX0_isUnder 21 = .ok (.iload_n 1, 1) := by decide +kernel
theorem dX0_isUnder_22 : decode cX0_isUnder 22 = .ok (.if_icmp .ne 5, 3) := by decide +kernel
theorem dX0_isUnder_25 : decode cX0_isUnder 25 = .ok (.iconst 1, 1) := by decide +kernel
theorem dX0_isUnder_26 : decode cX0_isUnder 26 = .ok (.ireturn, 1) := by decide +kernel
theorem dX0_isUnder_27 : decode cX0_isUnder 27 = .ok (.getstatic 31, 3) := by decide +kernel
theorem dX0_isUnder_30 : decode cX0_isUnder 30 = .ok (.iload_n 2, 1) := by decide +kernel
theorem dX0_isUnder_31 : decode cX0_isUnder 31 = .ok (.iaload, 1) := by decide +kernel
theorem dX0_isUnder_32 : decode cX0_isUnder 32 = .ok (.istore_n 2, 1) := by decide +kernel
theorem dX0_isUnder_33 : decode cX0_isUnder 33 = .ok (.iinc 3 1, 3) := by decide +kernel
theorem dX0_isUnder_36 : decode cX0_isUnder 36 = .ok (.goto (-32), 3) := by decide +kernel
theorem dX0_isUnder_39 : decode cX0_isUnder 39 = .ok (.iconst 0, 1) := by decide +kernel
theorem dX0_isUnder_40 : decode cX0_isUnder 40 = .ok (.ireturn, 1) := by decide +kernel
theorem dX0_perform_0 : decode cX0_perform 0 = .ok (.aload_n 0, 1) := by decide +kernel
theorem dX0_perform_1 : decode cX0_perform 1 = .ok (.iconst 0, 1) := by decide +kernel
theorem dX0_perform_2 : decode cX0_perform 2 = .ok (.putfield 22, 3) := by decide +kernel
theorem dX0_perform_5 : decode cX0_perform 5 = .ok (.aload_n 0, 1) := by decide +kernel
theorem dX0_perform_6 : decode cX0_perform 6 = .ok (.iload_n 1, 1) := by decide +kernel
theorem dX0_perform_7 : decode cX0_perform 7 = .ok (.invokevirtual 34, 3) := by decide +kernel
theorem dX0_perform_10 : decode cX0_perform 10 = .ok (.ifCond .eq 12, 3) := by decide +kernel
theorem dX0_perform_13 : decode cX0_perform 13 = .ok (.iload_n 2, 1) := by decide +kernel
theorem dX0_perform_14 : decode cX0_perform 14 = .ok (.ifCond .lt 8, 3) := by decide +kernel
theorem dX0_perform_17 : decode cX0_perform 17 = .ok (.iload_n 2, 1) := by decide +kernel
theorem dX0_perform_18 : decode cX0_perform 18 = .ok (.iconst 4, 1) := by decide +kernel
theorem dX0_perform_19 : decode cX0_perform 19 = .ok (.if_icmp .lt 5, 3) := by decide +kernel
theorem dX0_perform_22 : decode cX0_perform 22 = .ok (.iconst 0, 1) := by decide +kernel
theorem dX0_perform_23 : decode cX0_perform 23 = .ok (.ireturn, 1) := by decide +kernel
theorem dX0_perform_24 : decode cX0_perform 24 = .ok (.aload_n 0, 1) := by decide +kernel
theorem dX0_perform_25 : decode cX0_perform 25 = .ok (.iload_n 1, 1) := by decide +kernel
theorem dX0_perform_26 : decode cX0_perform 26 = .ok (.putfield 38, 3) := by decide +kernel
theorem dX0_perform_29 : decode cX0_perform 29 = .ok (.aload_n 0, 1) := by decide +kernel
theorem dX0_perform_30 : decode cX0_perform 30 = .ok (.iload_n 2, 1) := by decide +kernel
theorem dX0_perform_31 : decode cX0_perform 31 = .ok (.iload_n 3, 1) := by decide +kernel
theorem dX0_perform_32 : decode cX0_perform 32 = .ok (.iconst 0, 1) := by decide +kernel
theorem dX0_perform_33 : decode cX0_perform 33 = .ok (.invokevirtual 41, 3) := by decide +kernel
theorem dX0_perform_36 : decode cX0_perform 36 = .ok (.ireturn, 1) := by decide +kernel
theorem dX0_ask_0 : decode cX0_ask 0 = .ok (.aload_n 0, 1) := by decide +kernel
theorem dX0_ask_1 : decode cX0_ask 1 = .ok (.aload_n 0, 1) := by decide +kernel
theorem dX0_ask_2 : decode cX0_ask 2 = .ok (.getfield 11, 3) := by decide +kernel
theorem dX0_ask_5 : decode cX0_ask 5 = .ok (.aload_n 0, 1) := by decide +kernel
theorem dX0_ask_6 : decode cX0_ask 6 = .ok (.getfield 38, 3) := by decide +kernel
theorem dX0_ask_9 : decode cX0_ask 9 = .ok (.iaload, 1) := by decide +kernel
theorem dX0_ask_10 : decode cX0_ask 10 = .ok (.iload_n 1, 1) := by decide +kernel
theorem dX0_ask_11 : decode cX0_ask 11 = .ok (.iload_n 2, 1) := by decide +kernel
theorem dX0_ask_12 : decode cX0_ask 12 = .ok (.iload_n 3, 1) := by decide +kernel
theorem dX0_ask_13 : decode cX0_ask 13 = .ok (.iconst 1, 1) := by decide +kernel
theorem dX0_ask_14 : decode cX0_ask 14 = .ok (.iadd, 1) := by decide +kernel
theorem dX0_ask_15 : decode cX0_ask 15 = .ok (.invokevirtual 45, 3) := by decide +kernel
theorem dX0_ask_18 : decode cX0_ask 18 = .ok (.ireturn, 1) := by decide +kernel
theorem dX0_holderFrom_0 : decode cX0_holderFrom 0 = .ok (.iload_n 0, 1) := by decide +kernel
theorem dX0_holderFrom_1 : decode cX0_holderFrom 1 = .ok (.istore_n 2, 1) := by decide +kernel
theorem dX0_holderFrom_2 : decode cX0_holderFrom 2 = .ok (.iconst 0, 1) := by decide +kernel
theorem dX0_holderFrom_3 : decode cX0_holderFrom 3 = .ok (.istore_n 3, 1) := by decide +kernel
theorem dX0_holderFrom_4 : decode cX0_holderFrom 4 = .ok (.iload_n 3, 1) := by decide +kernel
theorem dX0_holderFrom_5 : decode cX0_holderFrom 5 = .ok (.bipush 8, 2) := by decide +kernel
theorem dX0_holderFrom_7 : decode cX0_holderFrom 7 = .ok (.if_icmp .ge 39, 3) := by decide +kernel
theorem dX0_holderFrom_10 : decode cX0_holderFrom 10 = .ok (.iload_n 2, 1) := by decide +kernel
theorem dX0_holderFrom_11 : decode cX0_holderFrom 11 = .ok (.ifCond .lt 35, 3) := by decide +kernel
theorem dX0_holderFrom_14 : decode cX0_holderFrom 14 = .ok (.iload_n 2, 1) := by decide +kernel
theorem dX0_holderFrom_15 : decode cX0_holderFrom 15 = .ok (.bipush 8, 2) := by decide +kernel
theorem dX0_holderFrom_17 : decode cX0_holderFrom 17 = .ok (.if_icmp .ge 29, 3) := by decide +kernel
theorem dX0_holderFrom_20 : decode cX0_holderFrom 20 = .ok (.getstatic 49, 3) := by decide +kernel
theorem dX0_holderFrom_23 : decode cX0_holderFrom 23 = .ok (.iload_n 2, 1) := by decide +kernel
theorem dX0_holderFrom_24 : decode cX0_holderFrom 24 = .ok (.iconst 4, 1) := by decide +kernel
theorem dX0_holderFrom_25 : decode cX0_holderFrom 25 = .ok (.imul, 1) := by decide +kernel
theorem dX0_holderFrom_26 : decode cX0_holderFrom 26 = .ok (.iload_n 1, 1) := by decide +kernel
theorem dX0_holderFrom_27 : decode cX0_holderFrom 27 = .ok (.iadd, 1) := by decide +kernel
theorem dX0_holderFrom_28 : decode cX0_holderFrom 28 = .ok (.iaload, 1) := by decide +kernel
theorem dX0_holderFrom_29 : decode cX0_holderFrom 29 = .ok (.ifCond .eq 5, 3) := by decide +kernel
theorem dX0_holderFrom_32 : decode cX0_holderFrom 32 = .ok (.iload_n 2, 1) := by decide +kernel
theorem dX0_holderFrom_33 : decode cX0_holderFrom 33 = .ok (.ireturn, 1) := by decide +kernel
theorem dX0_holderFrom_34 : decode cX0_holderFrom 34 = .ok (.getstatic 31, 3) := by decide +kernel
theorem dX0_holderFrom_37 : decode cX0_holderFrom 37 = .ok (.iload_n 2, 1) := by decide +kernel
theorem dX0_holderFrom_38 : decode cX0_holderFrom 38 = .ok (.iaload, 1) := by decide +kernel
theorem dX0_holderFrom_39 : decode cX0_holderFrom 39 = .ok (.istore_n 2, 1) := by decide +kernel
theorem dX0_holderFrom_40 : decode cX0_holderFrom 40 = .ok (.iinc 3 1, 3) := by decide +kernel
theorem dX0_holderFrom_43 : decode cX0_holderFrom 43 = .ok (.goto (-39), 3) := by decide +kernel
theorem dX0_holderFrom_46 : decode cX0_holderFrom 46 = .ok (.iconst (-1), 1) := by decide +kernel
theorem dX0_holderFrom_47 : decode cX0_holderFrom 47 = .ok (.ireturn, 1) := by decide +kernel
theorem dX0_note_0 : decode cX0_note 0 = .ok (.aload_n 0, 1) := by decide +kernel
theorem dX0_note_1 : decode cX0_note 1 = .ok (.getfield 22, 3) := by decide +kernel
theorem dX0_note_4 : decode cX0_note 4 = .ok (.bipush 24, 2) := by decide +kernel
theorem dX0_note_6 : decode cX0_note 6 = .ok (.if_icmp .ge 13, 3) := by decide +kernel
theorem dX0_note_9 : decode cX0_note 9 = .ok (.aload_n 0, 1) := by decide +kernel
theorem dX0_note_10 : decode cX0_note 10 = .ok (.getfield 15, 3) := by decide +kernel
theorem dX0_note_13 : decode cX0_note 13 = .ok (.aload_n 0, 1) := by decide +kernel
theorem dX0_note_14 : decode cX0_note 14 = .ok (.getfield 22, 3) := by decide +kernel
theorem dX0_note_17 : decode cX0_note 17 = .ok (.iload_n 1, 1) := by decide +kernel
theorem dX0_note_18 : decode cX0_note 18 = .ok (.iastore, 1) := by decide +kernel
theorem dX0_note_19 : decode cX0_note 19 = .ok (.aload_n 0, 1) := by decide +kernel
theorem dX0_note_20 : decode cX0_note 20 = .ok (.dup, 1) := by decide +kernel
theorem dX0_note_21 : decode cX0_note 21 = .ok (.getfield 22, 3) := by decide +kernel
theorem dX0_note_24 : decode cX0_note 24 = .ok (.iconst 1, 1) := by decide +kernel
theorem dX0_note_25 : decode cX0_note 25 = .ok (.iadd, 1) := by decide +kernel
theorem dX0_note_26 : decode cX0_note 26 = .ok (.putfield 22, 3) := by decide +kernel
theorem dX0_note_29 : decode cX0_note 29 = .ok (.return_, 1) := by decide +kernel
theorem dX0_run_0 : decode cX0_run 0 = .ok (.iload_n 1, 1) := by decide +kernel
theorem dX0_run_1 : decode cX0_run 1 = .ok (.iload_n 2, 1) := by decide +kernel
theorem dX0_run_2 : decode cX0_run 2 = .ok (.invokestatic 52, 3) := by decide +kernel
theorem dX0_run_5 : decode cX0_run 5 = .ok (.istore 5, 2) := by decide +kernel
theorem dX0_run_7 : decode cX0_run 7 = .ok (.iload 5, 2) := by decide +kernel
theorem dX0_run_9 : decode cX0_run 9 = .ok (.ifCond .lt 10, 3) := by decide +kernel
theorem dX0_run_12 : decode cX0_run 12 = .ok (.iload 4, 2) := by decide +kernel
theorem dX0_run_14 : decode cX0_run 14 = .ok (.bipush 40, 2) := by decide +kernel
theorem dX0_run_16 : decode cX0_run 16 = .ok (.if_icmp .le 5, 3) := by decide +kernel
theorem dX0_run_19 : decode cX0_run 19 = .ok (.iconst 0, 1) := by decide +kernel
theorem dX0_run_20 : decode cX0_run 20 = .ok (.ireturn, 1) := by decide +kernel
theorem dX0_run_21 : decode cX0_run 21 = .ok (.getstatic 49, 3) := by decide +kernel
theorem dX0_run_24 : decode cX0_run 24 = .ok (.iload 5, 2) := by decide +kernel
theorem dX0_run_26 : decode cX0_run 26 = .ok (.iconst 4, 1) := by decide +kernel
theorem dX0_run_27 : decode cX0_run 27 = .ok (.imul, 1) := by decide +kernel
theorem dX0_run_28 : decode cX0_run 28 = .ok (.iload_n 2, 1) := by decide +kernel
theorem dX0_run_29 : decode cX0_run 29 = .ok (.iadd, 1) := by decide +kernel
theorem dX0_run_30 : decode cX0_run 30 = .ok (.iaload, 1) := by decide +kernel
theorem dX0_run_31 : decode cX0_run 31 = .ok (.istore 6, 2) := by decide +kernel
theorem dX0_run_33 : decode cX0_run 33 = .ok (.getstatic 31, 3) := by decide +kernel
theorem dX0_run_36 : decode cX0_run 36 = .ok (.iload 5, 2) := by decide +kernel
theorem dX0_run_38 : decode cX0_run 38 = .ok (.iaload, 1) := by decide +kernel
theorem dX0_run_39 : decode cX0_run 39 = .ok (.istore 7, 2) := by decide +kernel
theorem dX0_run_41 : decode cX0_run 41 = .ok (.aload_n 0, 1) := by decide +kernel
theorem dX0_run_42 : decode cX0_run 42 = .ok (.iload 6, 2) := by decide +kernel
theorem dX0_run_44 : decode cX0_run 44 = .ok (.invokevirtual 55, 3) := by decide +kernel
theorem dX0_run_47 : decode cX0_run 47 = .ok (.iload 6, 2) := by decide +kernel
theorem dX0_run_49 : decode cX0_run 49 = .ok (.lookupswitch 329 #[(1, 123), (2, 130), (10, 148), (11, 159), (20, 166), (30, 181), (40, 195), (41, 210), (50, 225), (60, 240), (61, 262), (70, 277), (80, 292), (81, 314)], 123) := by decide +kernel
theorem dX0_run_172 : decode cX0_run 172 = .ok (.iload_n 3, 1) := by decide +kernel
theorem dX0_run_173 : decode cX0_run 173 = .ok (.aload_n 0, 1) := by decide +kernel
theorem dX0_run_174 : decode cX0_run 174 = .ok (.getfield 38, 3) := by decide +kernel
theorem dX0_run_177 : decode cX0_run 177 = .ok (.iadd, 1) := by decide +kernel
theorem dX0_run_178 : decode cX0_run 178 = .ok (.ireturn, 1) := by decide +kernel
theorem dX0_run_179 : decode cX0_run 179 = .ok (.aload_n 0, 1) := by decide +kernel
theorem dX0_run_180 : decode cX0_run 180 = .ok (.iconst 1, 1) := by decide +kernel
theorem dX0_run_181 : decode cX0_run 181 = .ok (.iload_n 3, 1) := by decide +kernel
theorem dX0_run_182 : decode cX0_run 182 = .ok (.iload 4, 2) := by decide +kernel
theorem dX0_run_184 : decode cX0_run 184 = .ok (.invokevirtual 41, 3) := by decide +kernel
theorem dX0_run_187 : decode cX0_run 187 = .ok (.aload_n 0, 1) := by decide +kernel
theorem dX0_run_188 : decode cX0_run 188 = .ok (.iconst 2, 1) := by decide +kernel
theorem dX0_run_189 : decode cX0_run 189 = .ok (.iconst 1, 1) := by decide +kernel
theorem dX0_run_190 : decode cX0_run 190 = .ok (.iload 4, 2) := by decide +kernel
theorem dX0_run_192 : decode cX0_run 192 = .ok (.invokevirtual 41, 3) := by decide +kernel
theorem dX0_run_195 : decode cX0_run 195 = .ok (.isub, 1) := by decide +kernel
theorem dX0_run_196 : decode cX0_run 196 = .ok (.ireturn, 1) := by decide +kernel
theorem dX0_run_197 : decode cX0_run 197 = .ok (.aload_n 0, 1) := by decide +kernel
theorem dX0_run_198 : decode cX0_run 198 = .ok (.iconst 0, 1) := by decide +kernel
theorem dX0_run_199 : decode cX0_run 199 = .ok (.iload_n 3, 1) := by decide +kernel
theorem dX0_run_200 : decode cX0_run 200 = .ok (.iload 4, 2) := by decide +kernel
theorem dX0_run_202 : decode cX0_run 202 = .ok (.invokevirtual 41, 3) := by decide +kernel
theorem dX0_run_205 : decode cX0_run 205 = .ok (.iconst 2, 1) := by decide +kernel
theorem dX0_run_206 : decode cX0_run 206 = .ok (.imul, 1) := by decide +kernel
theorem dX0_run_207 : decode cX0_run 207 = .ok (.ireturn, 1) := by decide +kernel
theorem dX0_run_208 : decode cX0_run 208 = .ok (.iload_n 3, 1) := by decide +kernel
theorem dX0_run_209 : decode cX0_run 209 = .ok (.aload_n 0, 1) := by decide +kernel
theorem dX0_run_210 : decode cX0_run 210 = .ok (.getfield 38, 3) := by decide +kernel
theorem dX0_run_213 : decode cX0_run 213 = .ok (.ixor, 1) := by decide +kernel
theorem dX0_run_214 : decode cX0_run 214 = .ok (.ireturn, 1) := by decide +kernel
theorem dX0_run_215 : decode cX0_run 215 = .ok (.aload_n 0, 1) := by decide +kernel
theorem dX0_run_216 : decode cX0_run 216 = .ok (.iload 7, 2) := by decide +kernel
theorem dX0_run_218 : decode cX0_run 218 = .ok (.iload_n 2, 1) := by decide +kernel
theorem dX0_run_219 : decode cX0_run 219 = .ok (.iload_n 3, 1) := by decide +kernel
theorem dX0_run_220 : decode cX0_run 220 = .ok (.iload 4, 2) := by decide +kernel
theorem dX0_run_222 : decode cX0_run 222 = .ok (.iconst 1, 1) := by decide +kernel
theorem dX0_run_223 : decode cX0_run 223 = .ok (.iadd, 1) := by decide +kernel
theorem dX0_run_224 : decode cX0_run 224 = .ok (.invokevirtual 45, 3) := by decide +kernel
theorem dX0_run_227 : decode cX0_run 227 = .ok (.iconst 3, 1) := by decide +kernel
theorem dX0_run_228 : decode cX0_run 228 = .ok (.iadd, 1) := by decide +kernel
theorem dX0_run_229 : decode cX0_run 229 = .ok (.ireturn, 1) := by decide +kernel
theorem dX0_run_230 : decode cX0_run 230 = .ok (.aload_n 0, 1) := by decide +kernel
theorem dX0_run_231 : decode cX0_run 231 = .ok (.iload 7, 2) := by decide +kernel
theorem dX0_run_233 : decode cX0_run 233 = .ok (.iload_n 2, 1) := by decide +kernel
theorem dX0_run_234 : decode cX0_run 234 = .ok (.iload_n 3, 1) := by decide +kernel
theorem dX0_run_235 : decode cX0_run 235 = .ok (.iload 4, 2) := by decide +kernel
theorem dX0_run_237 : decode cX0_run 237 = .ok (.iconst 1, 1) := by decide +kernel
theorem dX0_run_238 : decode cX0_run 238 = .ok (.iadd, 1) := by decide +kernel
theorem dX0_run_239 : decode cX0_run 239 = .ok (.invokevirtual 45, 3) := by decide +kernel
theorem dX0_run_242 : decode cX0_run 242 = .ok (.ineg, 1) := by decide +kernel
theorem dX0_run_243 : decode cX0_run 243 = .ok (.ireturn, 1) := by decide +kernel
theorem dX0_run_244 : decode cX0_run 244 = .ok (.aload_n 0, 1) := by decide +kernel
theorem dX0_run_245 : decode cX0_run 245 = .ok (.iload 7, 2) := by decide +kernel
theorem dX0_run_247 : decode cX0_run 247 = .ok (.iload_n 2, 1) := by decide +kernel
theorem dX0_run_248 : decode cX0_run 248 = .ok (.iload_n 3, 1) := by decide +kernel
theorem dX0_run_249 : decode cX0_run 249 = .ok (.iload 4, 2) := by decide +kernel
theorem dX0_run_251 : decode cX0_run 251 = .ok (.iconst 1, 1) := by decide +kernel
theorem dX0_run_252 : decode cX0_run 252 = .ok (.iadd, 1) := by decide +kernel
theorem dX0_run_253 : decode cX0_run 253 = .ok (.invokevirtual 45, 3) := by decide +kernel
theorem dX0_run_256 : decode cX0_run 256 = .ok (.iconst 3, 1) := by decide +kernel
theorem dX0_run_257 : decode cX0_run 257 = .ok (.imul, 1) := by decide +kernel
theorem dX0_run_258 : decode cX0_run 258 = .ok (.ireturn, 1) := by decide +kernel
theorem dX0_run_259 : decode cX0_run 259 = .ok (.aload_n 0, 1) := by decide +kernel
theorem dX0_run_260 : decode cX0_run 260 = .ok (.iload 7, 2) := by decide +kernel
theorem dX0_run_262 : decode cX0_run 262 = .ok (.iload_n 2, 1) := by decide +kernel
theorem dX0_run_263 : decode cX0_run 263 = .ok (.iload_n 3, 1) := by decide +kernel
theorem dX0_run_264 : decode cX0_run 264 = .ok (.iconst 1, 1) := by decide +kernel
theorem dX0_run_265 : decode cX0_run 265 = .ok (.iadd, 1) := by decide +kernel
theorem dX0_run_266 : decode cX0_run 266 = .ok (.iload 4, 2) := by decide +kernel
theorem dX0_run_268 : decode cX0_run 268 = .ok (.iconst 1, 1) := by decide +kernel
theorem dX0_run_269 : decode cX0_run 269 = .ok (.iadd, 1) := by decide +kernel
theorem dX0_run_270 : decode cX0_run 270 = .ok (.invokevirtual 45, 3) := by decide +kernel
theorem dX0_run_273 : decode cX0_run 273 = .ok (.ireturn, 1) := by decide +kernel
theorem dX0_run_274 : decode cX0_run 274 = .ok (.aload_n 0, 1) := by decide +kernel
theorem dX0_run_275 : decode cX0_run 275 = .ok (.iload 7, 2) := by decide +kernel
theorem dX0_run_277 : decode cX0_run 277 = .ok (.iload_n 2, 1) := by decide +kernel
theorem dX0_run_278 : decode cX0_run 278 = .ok (.iload_n 3, 1) := by decide +kernel
theorem dX0_run_279 : decode cX0_run 279 = .ok (.iload 4, 2) := by decide +kernel
theorem dX0_run_281 : decode cX0_run 281 = .ok (.iconst 1, 1) := by decide +kernel
theorem dX0_run_282 : decode cX0_run 282 = .ok (.iadd, 1) := by decide +kernel
theorem dX0_run_283 : decode cX0_run 283 = .ok (.invokevirtual 45, 3) := by decide +kernel
theorem dX0_run_286 : decode cX0_run 286 = .ok (.iconst 5, 1) := by decide +kernel
theorem dX0_run_287 : decode cX0_run 287 = .ok (.ixor, 1) := by decide +kernel
theorem dX0_run_288 : decode cX0_run 288 = .ok (.ireturn, 1) := by decide +kernel
theorem dX0_run_289 : decode cX0_run 289 = .ok (.aload_n 0, 1) := by decide +kernel
theorem dX0_run_290 : decode cX0_run 290 = .ok (.iload 7, 2) := by decide +kernel
theorem dX0_run_292 : decode cX0_run 292 = .ok (.iload_n 2, 1) := by decide +kernel
theorem dX0_run_293 : decode cX0_run 293 = .ok (.iload_n 3, 1) := by decide +kernel
theorem dX0_run_294 : decode cX0_run 294 = .ok (.iload 4, 2) := by decide +kernel
theorem dX0_run_296 : decode cX0_run 296 = .ok (.iconst 1, 1) := by decide +kernel
theorem dX0_run_297 : decode cX0_run 297 = .ok (.iadd, 1) := by decide +kernel
theorem dX0_run_298 : decode cX0_run 298 = .ok (.invokevirtual 45, 3) := by decide +kernel
theorem dX0_run_301 : decode cX0_run 301 = .ok (.aload_n 0, 1) := by decide +kernel
theorem dX0_run_302 : decode cX0_run 302 = .ok (.iconst 0, 1) := by decide +kernel
theorem dX0_run_303 : decode cX0_run 303 = .ok (.iconst 2, 1) := by decide +kernel
theorem dX0_run_304 : decode cX0_run 304 = .ok (.iload 4, 2) := by decide +kernel
theorem dX0_run_306 : decode cX0_run 306 = .ok (.invokevirtual 41, 3) := by decide +kernel
theorem dX0_run_309 : decode cX0_run 309 = .ok (.isub, 1) := by decide +kernel
theorem dX0_run_310 : decode cX0_run 310 = .ok (.ireturn, 1) := by decide +kernel
theorem dX0_run_311 : decode cX0_run 311 = .ok (.aload_n 0, 1) := by decide +kernel
theorem dX0_run_312 : decode cX0_run 312 = .ok (.iload 7, 2) := by decide +kernel
theorem dX0_run_314 : decode cX0_run 314 = .ok (.iload_n 2, 1) := by decide +kernel
theorem dX0_run_315 : decode cX0_run 315 = .ok (.iload_n 3, 1) := by decide +kernel
theorem dX0_run_316 : decode cX0_run 316 = .ok (.iload 4, 2) := by decide +kernel
theorem dX0_run_318 : decode cX0_run 318 = .ok (.iconst 1, 1) := by decide +kernel
theorem dX0_run_319 : decode cX0_run 319 = .ok (.iadd, 1) := by decide +kernel
theorem dX0_run_320 : decode cX0_run 320 = .ok (.invokevirtual 45, 3) := by decide +kernel
theorem dX0_run_323 : decode cX0_run 323 = .ok (.iconst 1, 1) := by decide +kernel
theorem dX0_run_324 : decode cX0_run 324 = .ok (.iadd, 1) := by decide +kernel
theorem dX0_run_325 : decode cX0_run 325 = .ok (.ireturn, 1) := by decide +kernel
theorem dX0_run_326 : decode cX0_run 326 = .ok (.aload_n 0, 1) := by decide +kernel
theorem dX0_run_327 : decode cX0_run 327 = .ok (.iload 7, 2) := by decide +kernel
theorem dX0_run_329 : decode cX0_run 329 = .ok (.iload_n 2, 1) := by decide +kernel
theorem dX0_run_330 : decode cX0_run 330 = .ok (.iload_n 3, 1) := by decide +kernel
theorem dX0_run_331 : decode cX0_run 331 = .ok (.iload 4, 2) := by decide +kernel
theorem dX0_run_333 : decode cX0_run 333 = .ok (.iconst 1, 1) := by decide +kernel
theorem dX0_run_334 : decode cX0_run 334 = .ok (.iadd, 1) := by decide +kernel
theorem dX0_run_335 : decode cX0_run 335 = .ok (.invokevirtual 45, 3) := by decide +kernel
theorem dX0_run_338 : decode cX0_run 338 = .ok (.iconst 2, 1) := by decide +kernel
theorem dX0_run_339 : decode cX0_run 339 = .ok (.imul, 1) := by decide +kernel
theorem dX0_run_340 : decode cX0_run 340 = .ok (.ireturn, 1) := by decide +kernel
theorem dX0_run_341 : decode cX0_run 341 = .ok (.aload_n 0, 1) := by decide +kernel
theorem dX0_run_342 : decode cX0_run 342 = .ok (.iload 7, 2) := by decide +kernel
theorem dX0_run_344 : decode cX0_run 344 = .ok (.iload_n 2, 1) := by decide +kernel
theorem dX0_run_345 : decode cX0_run 345 = .ok (.iload_n 3, 1) := by decide +kernel
theorem dX0_run_346 : decode cX0_run 346 = .ok (.iload 4, 2) := by decide +kernel
theorem dX0_run_348 : decode cX0_run 348 = .ok (.iconst 1, 1) := by decide +kernel
theorem dX0_run_349 : decode cX0_run 349 = .ok (.iadd, 1) := by decide +kernel
theorem dX0_run_350 : decode cX0_run 350 = .ok (.invokevirtual 45, 3) := by decide +kernel
theorem dX0_run_353 : decode cX0_run 353 = .ok (.aload_n 0, 1) := by decide +kernel
theorem dX0_run_354 : decode cX0_run 354 = .ok (.iconst 2, 1) := by decide +kernel
theorem dX0_run_355 : decode cX0_run 355 = .ok (.iconst 2, 1) := by decide +kernel
theorem dX0_run_356 : decode cX0_run 356 = .ok (.iload 4, 2) := by decide +kernel
theorem dX0_run_358 : decode cX0_run 358 = .ok (.invokevirtual 41, 3) := by decide +kernel
theorem dX0_run_361 : decode cX0_run 361 = .ok (.iadd, 1) := by decide +kernel
theorem dX0_run_362 : decode cX0_run 362 = .ok (.ireturn, 1) := by decide +kernel
theorem dX0_run_363 : decode cX0_run 363 = .ok (.aload_n 0, 1) := by decide +kernel
theorem dX0_run_364 : decode cX0_run 364 = .ok (.iload 7, 2) := by decide +kernel
theorem dX0_run_366 : decode cX0_run 366 = .ok (.iload_n 2, 1) := by decide +kernel
theorem dX0_run_367 : decode cX0_run 367 = .ok (.iload_n 3, 1) := by decide +kernel
theorem dX0_run_368 : decode cX0_run 368 = .ok (.iload 4, 2) := by decide +kernel
theorem dX0_run_370 : decode cX0_run 370 = .ok (.iconst 1, 1) := by decide +kernel
theorem dX0_run_371 : decode cX0_run 371 = .ok (.iadd, 1) := by decide +kernel
theorem dX0_run_372 : decode cX0_run 372 = .ok (.invokevirtual 45, 3) := by decide +kernel
theorem dX0_run_375 : decode cX0_run 375 = .ok (.iconst 1, 1) := by decide +kernel
theorem dX0_run_376 : decode cX0_run 376 = .ok (.isub, 1) := by decide +kernel
theorem dX0_run_377 : decode cX0_run 377 = .ok (.ireturn, 1) := by decide +kernel
theorem dX0_run_378 : decode cX0_run 378 = .ok (.iconst 0, 1) := by decide +kernel
theorem dX0_run_379 : decode cX0_run 379 = .ok (.ireturn, 1) := by decide +kernel
theorem dX1_init_0 : decode cX1_init 0 = .ok (.aload_n 0, 1) := by decide +kernel
theorem dX1_init_1 : decode cX1_init 1 = .ok (.invokespecial 1, 3) := by decide +kernel
theorem dX1_init_4 : decode cX1_init 4 = .ok (.aload_n 0, 1) := by decide +kernel
theorem dX1_init_5 : decode cX1_init 5 = .ok (.bipush 40, 2) := by decide +kernel
theorem dX1_init_7 : decode cX1_init 7 = .ok (.newarray .int, 2) := by decide +kernel
theorem dX1_init_9 : decode cX1_init 9 = .ok (.putfield 9, 3) := by decide +kernel
theorem dX1_init_12 : decode cX1_init 12 = .ok (.aload_n 0, 1) := by decide +kernel
theorem dX1_init_13 : decode cX1_init 13 = .ok (.bipush 40, 2) := by decide +kernel
theorem dX1_init_15 : decode cX1_init 15 = .ok (.newarray .int, 2) := by decide +kernel
theorem dX1_init_17 : decode cX1_init 17 = .ok (.putfield 13, 3) := by decide +kernel
theorem dX1_init_20 : decode cX1_init 20 = .ok (.aload_n 0, 1) := by decide +kernel
theorem dX1_init_21 : decode cX1_init 21 = .ok (.bipush 40, 2) := by decide +kernel
theorem dX1_init_23 : decode cX1_init 23 = .ok (.newarray .int, 2) := by decide +kernel
theorem dX1_init_25 : decode cX1_init 25 = .ok (.putfield 16, 3) := by decide +kernel
theorem dX1_init_28 : decode cX1_init 28 = .ok (.aload_n 0, 1) := by decide +kernel
theorem dX1_init_29 : decode cX1_init 29 = .ok (.bipush 40, 2) := by decide +kernel
theorem dX1_init_31 : decode cX1_init 31 = .ok (.newarray .int, 2) := by decide +kernel
theorem dX1_init_33 : decode cX1_init 33 = .ok (.putfield 19, 3) := by decide +kernel
theorem dX1_init_36 : decode cX1_init 36 = .ok (.aload_n 0, 1) := by decide +kernel
theorem dX1_init_37 : decode cX1_init 37 = .ok (.aload_n 1, 1) := by decide +kernel
theorem dX1_init_38 : decode cX1_init 38 = .ok (.putfield 22, 3) := by decide +kernel
theorem dX1_init_41 : decode cX1_init 41 = .ok (.return_, 1) := by decide +kernel
theorem dX1_add_0 : decode cX1_add 0 = .ok (.aload_n 0, 1) := by decide +kernel
theorem dX1_add_1 : decode cX1_add 1 = .ok (.getfield 26, 3) := by decide +kernel
theorem dX1_add_4 : decode cX1_add 4 = .ok (.bipush 40, 2) := by decide +kernel
theorem dX1_add_6 : decode cX1_add 6 = .ok (.if_icmp .lt 7, 3) := by decide +kernel
theorem dX1_add_9 : decode cX1_add 9 = .ok (.aload_n 0, 1) := by decide +kernel
theorem dX1_add_10 : decode cX1_add 10 = .ok (.invokevirtual 30, 3) := by decide +kernel
theorem dX1_add_13 : decode cX1_add 13 = .ok (.aload_n 0, 1) := by decide +kernel
theorem dX1_add_14 : decode cX1_add 14 = .ok (.getfield 9, 3) := by decide +kernel
theorem dX1_add_17 : decode cX1_add 17 = .ok (.aload_n 0, 1) := by decide +kernel
theorem dX1_add_18 : decode cX1_add 18 = .ok (.getfield 26, 3) := by decide +kernel
theorem dX1_add_21 : decode cX1_add 21 = .ok (.iload_n 1, 1) := by decide +kernel
theorem dX1_add_22 : decode cX1_add 22 = .ok (.iastore, 1) := by decide +kernel
theorem dX1_add_23 : decode cX1_add 23 = .ok (.aload_n 0, 1) := by decide +kernel
theorem dX1_add_24 : decode cX1_add 24 = .ok (.getfield 13, 3) := by decide +kernel
theorem dX1_add_27 : decode cX1_add 27 = .ok (.aload_n 0, 1) := by decide +kernel
theorem dX1_add_28 : decode cX1_add 28 = .ok (.getfield 26, 3) := by decide +kernel
theorem dX1_add_31 : decode cX1_add 31 = .ok (.iload_n 2, 1) := by decide +kernel
theorem dX1_add_32 : decode cX1_add 32 = .ok (.iastore, 1) := by decide +kernel
theorem dX1_add_33 : decode cX1_add 33 = .ok (.aload_n 0, 1) := by decide +kernel
theorem dX1_add_34 : decode cX1_add 34 = .ok (.getfield 16, 3) := by decide +kernel
theorem dX1_add_37 : decode cX1_add 37 = .ok (.aload_n 0, 1) := by decide +kernel
theorem dX1_add_38 : decode cX1_add 38 = .ok (.getfield 26, 3) := by decide +kernel
theorem dX1_add_41 : decode cX1_add 41 = .ok (.iload_n 3, 1) := by decide +kernel
theorem dX1_add_42 : decode cX1_add 42 = .ok (.iastore, 1) := by decide +kernel
theorem dX1_add_43 : decode cX1_add 43 = .ok (.aload_n 0, 1) := by decide +kernel
theorem dX1_add_44 : decode cX1_add 44 = .ok (.getfield 19, 3) := by decide +kernel
theorem dX1_add_47 : decode cX1_add 47 = .ok (.aload_n 0, 1) := by decide +kernel
theorem dX1_add_48 : decode cX1_add 48 = .ok (.getfield 26, 3) := by decide +kernel
theorem dX1_add_51 : decode cX1_add 51 = .ok (.iload 4, 2) := by decide +kernel
theorem dX1_add_53 : decode cX1_add 53 = .ok (.iastore, 1) := by decide +kernel
theorem dX1_add_54 : decode cX1_add 54 = .ok (.aload_n 0, 1) := by decide +kernel
theorem dX1_add_55 : decode cX1_add 55 = .ok (.dup, 1) := by decide +kernel
theorem dX1_add_56 : decode cX1_add 56 = .ok (.getfield 26, 3) := by decide +kernel
theorem dX1_add_59 : decode cX1_add 59 = .ok (.iconst 1, 1) := by decide +kernel
theorem dX1_add_60 : decode cX1_add 60 = .ok (.iadd, 1) := by decide +kernel
theorem dX1_add_61 : decode cX1_add 61 = .ok (.putfield 26, 3) := by decide +kernel
theorem dX1_add_64 : decode cX1_add 64 = .ok (.aload_n 0, 1) := by decide +kernel
theorem dX1_add_65 : decode cX1_add 65 = .ok (.aload_n 0, 1) := by decide +kernel
theorem dX1_add_66 : decode cX1_add 66 = .ok (.getfield 26, 3) := by decide +kernel
theorem dX1_add_69 : decode cX1_add 69 = .ok (.putfield 33, 3) := by decide +kernel
theorem dX1_add_72 : decode cX1_add 72 = .ok (.return_, 1) := by decide +kernel
theorem dX1_forgetOldest_0 : decode cX1_forgetOldest 0 = .ok (.aload_n 0, 1) := by decide +kernel
theorem dX1_forgetOldest_1 : decode cX1_forgetOldest 1 = .ok (.getfield 9, 3) := by decide +kernel
theorem dX1_forgetOldest_4 : decode cX1_forgetOldest 4 = .ok (.iconst 1, 1) := by decide +kernel
theorem dX1_forgetOldest_5 : decode cX1_forgetOldest 5 = .ok (.aload_n 0, 1) := by decide +kernel
theorem dX1_forgetOldest_6 : decode cX1_forgetOldest 6 = .ok (.getfield 9, 3) := by decide +kernel
theorem dX1_forgetOldest_9 : decode cX1_forgetOldest 9 = .ok (.iconst 0, 1) := by decide +kernel
theorem dX1_forgetOldest_10 : decode cX1_forgetOldest 10 = .ok (.bipush 39, 2) := by decide +kernel
theorem dX1_forgetOldest_12 : decode cX1_forgetOldest 12 = .ok (.invokestatic 36, 3) := by decide +kernel
theorem dX1_forgetOldest_15 : decode cX1_forgetOldest 15 = .ok (.aload_n 0, 1) := by decide +kernel
theorem dX1_forgetOldest_16 : decode cX1_forgetOldest 16 = .ok (.getfield 13, 3) := by decide +kernel
theorem dX1_forgetOldest_19 : decode cX1_forgetOldest 19 = .ok (.iconst 1, 1) := by decide +kernel
theorem dX1_forgetOldest_20 : decode cX1_forgetOldest 20 = .ok (.aload_n 0, 1) := by decide +kernel
theorem dX1_forgetOldest_21 : decode cX1_forgetOldest 21 = .ok (.getfield 13, 3) := by decide +kernel
theorem dX1_forgetOldest_24 : decode cX1_forgetOldest 24 = .ok (.iconst 0, 1) := by decide +kernel
theorem dX1_forgetOldest_25 : decode cX1_forgetOldest 25 = .ok (.bipush 39, 2) := by decide +kernel
theorem dX1_forgetOldest_27 : decode cX1_forgetOldest 27 = .ok (.invokestatic 36, 3) := by decide +kernel
theorem dX1_forgetOldest_30 : decode cX1_forgetOldest 30 = .ok (.aload_n 0, 1) := by decide +kernel
theorem dX1_forgetOldest_31 : decode cX1_forgetOldest 31 = .ok (.getfield 16, 3) := by decide +kernel
theorem dX1_forgetOldest_34 : decode cX1_forgetOldest 34 = .ok (.iconst 1, 1) := by decide +kernel
theorem dX1_forgetOldest_35 : decode cX1_forgetOldest 35 = .ok (.aload_n 0, 1) := by decide +kernel
theorem dX1_forgetOldest_36 : decode cX1_forgetOldest 36 = .ok (.getfield 16, 3) := by decide +kernel
theorem dX1_forgetOldest_39 : decode cX1_forgetOldest 39 = .ok (.iconst 0, 1) := by decide +kernel
theorem dX1_forgetOldest_40 : decode cX1_forgetOldest 40 = .ok (.bipush 39, 2) := by decide +kernel
theorem dX1_forgetOldest_42 : decode cX1_forgetOldest 42 = .ok (.invokestatic 36, 3) := by decide +kernel
theorem dX1_forgetOldest_45 : decode cX1_forgetOldest 45 = .ok (.aload_n 0, 1) := by decide +kernel
theorem dX1_forgetOldest_46 : decode cX1_forgetOldest 46 = .ok (.getfield 19, 3) := by decide +kernel
theorem dX1_forgetOldest_49 : decode cX1_forgetOldest 49 = .ok (.iconst 1, 1) := by decide +kernel
theorem dX1_forgetOldest_50 : decode cX1_forgetOldest 50 = .ok (.aload_n 0, 1) := by decide +kernel
theorem dX1_forgetOldest_51 : decode cX1_forgetOldest 51 = .ok (.getfield 19, 3) := by decide +kernel
theorem dX1_forgetOldest_54 : decode cX1_forgetOldest 54 = .ok (.iconst 0, 1) := by decide +kernel
theorem dX1_forgetOldest_55 : decode cX1_forgetOldest 55 = .ok (.bipush 39, 2) := by decide +kernel
theorem dX1_forgetOldest_57 : decode cX1_forgetOldest 57 = .ok (.invokestatic 36, 3) := by decide +kernel
theorem dX1_forgetOldest_60 : decode cX1_forgetOldest 60 = .ok (.aload_n 0, 1) := by decide +kernel
theorem dX1_forgetOldest_61 : decode cX1_forgetOldest 61 = .ok (.bipush 39, 2) := by decide +kernel
theorem dX1_forgetOldest_63 : decode cX1_forgetOldest 63 = .ok (.putfield 26, 3) := by decide +kernel
theorem dX1_forgetOldest_66 : decode cX1_forgetOldest 66 = .ok (.return_, 1) := by decide +kernel
theorem dX1_takeBack_0 : decode cX1_takeBack 0 = .ok (.aload_n 0, 1) := by decide +kernel
theorem dX1_takeBack_1 : decode cX1_takeBack 1 = .ok (.getfield 26, 3) := by decide +kernel
theorem dX1_takeBack_4 : decode cX1_takeBack 4 = .ok (.ifCond .gt 5, 3) := by decide +kernel
theorem dX1_takeBack_7 : decode cX1_takeBack 7 = .ok (.iconst 0, 1) := by decide +kernel
theorem dX1_takeBack_8 : decode cX1_takeBack 8 = .ok (.ireturn, 1) := by decide +kernel
theorem dX1_takeBack_9 : decode cX1_takeBack 9 = .ok (.aload_n 0, 1) := by decide +kernel
theorem dX1_takeBack_10 : decode cX1_takeBack 10 = .ok (.dup, 1) := by decide +kernel
theorem dX1_takeBack_11 : decode cX1_takeBack 11 = .ok (.getfield 26, 3) := by decide +kernel
theorem dX1_takeBack_14 : decode cX1_takeBack 14 = .ok (.iconst 1, 1) := by decide +kernel
theorem dX1_takeBack_15 : decode cX1_takeBack 15 = .ok (.isub, 1) := by decide +kernel
theorem dX1_takeBack_16 : decode cX1_takeBack 16 = .ok (.putfield 26, 3) := by decide +kernel
theorem dX1_takeBack_19 : decode cX1_takeBack 19 = .ok (.aload_n 0, 1) := by decide +kernel
theorem dX1_takeBack_20 : decode cX1_takeBack 20 = .ok (.getfield 22, 3) := by decide +kernel
theorem dX1_takeBack_23 : decode cX1_takeBack 23 = .ok (.aload_n 0, 1) := by decide +kernel
theorem dX1_takeBack_24 : decode cX1_takeBack 24 = .ok (.getfield 9, 3) := by decide +kernel
theorem dX1_takeBack_27 : decode cX1_takeBack 27 = .ok (.aload_n 0, 1) := by decide +kernel
theorem dX1_takeBack_28 : decode cX1_takeBack 28 = .ok (.getfield 26, 3) := by decide +kernel
theorem dX1_takeBack_31 : decode cX1_takeBack 31 = .ok (.iaload, 1) := by decide +kernel
theorem dX1_takeBack_32 : decode cX1_takeBack 32 = .ok (.aload_n 0, 1) := by decide +kernel
theorem dX1_takeBack_33 : decode cX1_takeBack 33 = .ok (.getfield 13, 3) := by decide +kernel
theorem dX1_takeBack_36 : decode cX1_takeBack 36 = .ok (.aload_n 0, 1) := by decide +kernel
theorem dX1_takeBack_37 : decode cX1_takeBack 37 = .ok (.getfield 26, 3) := by decide +kernel
theorem dX1_takeBack_40 : decode cX1_takeBack 40 = .ok (.iaload, 1) := by decide +kernel
theorem dX1_takeBack_41 : decode cX1_takeBack 41 = .ok (.aload_n 0, 1) := by decide +kernel
theorem dX1_takeBack_42 : decode cX1_takeBack 42 = .ok (.getfield 16, 3) := by decide +kernel
theorem dX1_takeBack_45 : decode cX1_takeBack 45 = .ok (.aload_n 0, 1) := by decide +kernel
theorem dX1_takeBack_46 : decode cX1_takeBack 46 = .ok (.getfield 26, 3) := by decide +kernel
theorem dX1_takeBack_49 : decode cX1_takeBack 49 = .ok (.iaload, 1) := by decide +kernel
theorem dX1_takeBack_50 : decode cX1_takeBack 50 = .ok (.invokevirtual 42, 3) := by decide +kernel
theorem dX1_takeBack_53 : decode cX1_takeBack 53 = .ok (.iconst 1, 1) := by decide +kernel
theorem dX1_takeBack_54 : decode cX1_takeBack 54 = .ok (.ireturn, 1) := by decide +kernel
theorem dX1_doAgain_0 : decode cX1_doAgain 0 = .ok (.aload_n 0, 1) := by decide +kernel
theorem dX1_doAgain_1 : decode cX1_doAgain 1 = .ok (.getfield 26, 3) := by decide +kernel
theorem dX1_doAgain_4 : decode cX1_doAgain 4 = .ok (.aload_n 0, 1) := by decide +kernel
theorem dX1_doAgain_5 : decode cX1_doAgain 5 = .ok (.getfield 33, 3) := by decide +kernel
theorem dX1_doAgain_8 : decode cX1_doAgain 8 = .ok (.if_icmp .ge 12, 3) := by decide +kernel
theorem dX1_doAgain_11 : decode cX1_doAgain 11 = .ok (.aload_n 0, 1) := by decide +kernel
theorem dX1_doAgain_12 : decode cX1_doAgain 12 = .ok (.getfield 26, 3) := by decide +kernel
theorem dX1_doAgain_15 : decode cX1_doAgain 15 = .ok (.bipush 40, 2) := by decide +kernel
theorem dX1_doAgain_17 : decode cX1_doAgain 17 = .ok (.if_icmp .lt 5, 3) := by decide +kernel
theorem dX1_doAgain_20 : decode cX1_doAgain 20 = .ok (.iconst 0, 1) := by decide +kernel
theorem dX1_doAgain_21 : decode cX1_doAgain 21 = .ok (.ireturn, 1) := by decide +kernel
theorem dX1_doAgain_22 : decode cX1_doAgain 22 = .ok (.aload_n 0, 1) := by decide +kernel
theorem dX1_doAgain_23 : decode cX1_doAgain 23 = .ok (.getfield 22, 3) := by decide +kernel
theorem dX1_doAgain_26 : decode cX1_doAgain 26 = .ok (.aload_n 0, 1) := by decide +kernel
theorem dX1_doAgain_27 : decode cX1_doAgain 27 = .ok (.getfield 9, 3) := by decide +kernel
theorem dX1_doAgain_30 : decode cX1_doAgain 30 = .ok (.aload_n 0, 1) := by decide +kernel
theorem dX1_doAgain_31 : decode cX1_doAgain 31 = .ok (.getfield 26, 3) := by decide +kernel
theorem dX1_doAgain_34 : decode cX1_doAgain 34 = .ok (.iaload, 1) := by decide +kernel
theorem dX1_doAgain_35 : decode cX1_doAgain 35 = .ok (.aload_n 0, 1) := by decide +kernel
theorem dX1_doAgain_36 : decode cX1_doAgain 36 = .ok (.getfield 13, 3) := by decide +kernel
theorem dX1_doAgain_39 : decode cX1_doAgain 39 = .ok (.aload_n 0, 1) := by decide +kernel
theorem dX1_doAgain_40 : decode cX1_doAgain 40 = .ok (.getfield 26, 3) := by decide +kernel
theorem dX1_doAgain_43 : decode cX1_doAgain 43 = .ok (.iaload, 1) := by decide +kernel
theorem dX1_doAgain_44 : decode cX1_doAgain 44 = .ok (.aload_n 0, 1) := by decide +kernel
theorem dX1_doAgain_45 : decode cX1_doAgain 45 = .ok (.getfield 19, 3) := by decide +kernel
theorem dX1_doAgain_48 : decode cX1_doAgain 48 = .ok (.aload_n 0, 1) := by decide +kernel
theorem dX1_doAgain_49 : decode cX1_doAgain 49 = .ok (.getfield 26, 3) := by decide +kernel
theorem dX1_doAgain_52 : decode cX1_doAgain 52 = .ok (.iaload, 1) := by decide +kernel
theorem dX1_doAgain_53 : decode cX1_doAgain 53 = .ok (.invokevirtual 42, 3) := by decide +kernel
theorem dX1_doAgain_56 : decode cX1_doAgain 56 = .ok (.aload_n 0, 1) := by decide +kernel
theorem dX1_doAgain_57 : decode cX1_doAgain 57 = .ok (.dup, 1) := by decide +kernel
theorem dX1_doAgain_58 : decode cX1_doAgain 58 = .ok (.getfield 26, 3) := by decide +kernel
theorem dX1_doAgain_61 : decode cX1_doAgain 61 = .ok (.iconst 1, 1) := by decide +kernel
theorem dX1_doAgain_62 : decode cX1_doAgain 62 = .ok (.iadd, 1) := by decide +kernel
theorem dX1_doAgain_63 : decode cX1_doAgain 63 = .ok (.putfield 26, 3) := by decide +kernel
theorem dX1_doAgain_66 : decode cX1_doAgain 66 = .ok (.iconst 1, 1) := by decide +kernel
theorem dX1_doAgain_67 : decode cX1_doAgain 67 = .ok (.ireturn, 1) := by decide +kernel
theorem dX2_init_0 : decode cX2_init 0 = .ok (.aload_n 0, 1) := by decide +kernel
theorem dX2_init_1 : decode cX2_init 1 = .ok (.invokespecial 3, 3) := by decide +kernel
theorem dX2_init_4 : decode cX2_init 4 = .ok (.aload_n 0, 1) := by decide +kernel
theorem dX2_init_5 : decode cX2_init 5 = .ok (.bipush 7, 2) := by decide +kernel
theorem dX2_init_7 : decode cX2_init 7 = .ok (.newarray .int, 2) := by decide +kernel
theorem dX2_init_9 : decode cX2_init 9 = .ok (.putfield 9, 3) := by decide +kernel
theorem dX2_init_12 : decode cX2_init 12 = .ok (.aload_n 0, 1) := by decide +kernel
theorem dX2_init_13 : decode cX2_init 13 = .ok (.bipush 10, 2) := by decide +kernel
theorem dX2_init_15 : decode cX2_init 15 = .ok (.newarray .int, 2) := by decide +kernel
theorem dX2_init_17 : decode cX2_init 17 = .ok (.putfield 15, 3) := by decide +kernel
theorem dX2_init_20 : decode cX2_init 20 = .ok (.aload_n 0, 1) := by decide +kernel
theorem dX2_init_21 : decode cX2_init 21 = .ok (.bipush 10, 2) := by decide +kernel
theorem dX2_init_23 : decode cX2_init 23 = .ok (.newarray .int, 2) := by decide +kernel
theorem dX2_init_25 : decode cX2_init 25 = .ok (.putfield 18, 3) := by decide +kernel
theorem dX2_init_28 : decode cX2_init 28 = .ok (.aload_n 0, 1) := by decide +kernel
theorem dX2_init_29 : decode cX2_init 29 = .ok (.bipush 6, 2) := by decide +kernel
theorem dX2_init_31 : decode cX2_init 31 = .ok (.newarray .int, 2) := by decide +kernel
theorem dX2_init_33 : decode cX2_init 33 = .ok (.putfield 21, 3) := by decide +kernel
theorem dX2_init_36 : decode cX2_init 36 = .ok (.aload_n 0, 1) := by decide +kernel
theorem dX2_init_37 : decode cX2_init 37 = .ok (.aload_n 1, 1) := by decide +kernel
theorem dX2_init_38 : decode cX2_init 38 = .ok (.putfield 24, 3) := by decide +kernel
theorem dX2_init_41 : decode cX2_init 41 = .ok (.return_, 1) := by decide +kernel
theorem dX2_take_0 : decode cX2_take 0 = .ok (.aload_n 1, 1) := by decide +kernel
theorem dX2_take_1 : decode cX2_take 1 = .ok (.getfield 9, 3) := by decide +kernel
theorem dX2_take_4 : decode cX2_take 4 = .ok (.iconst 0, 1) := by decide +kernel
theorem dX2_take_5 : decode cX2_take 5 = .ok (.aload_n 0, 1) := by decide +kernel
theorem dX2_take_6 : decode cX2_take 6 = .ok (.getfield 9, 3) := by decide +kernel
theorem dX2_take_9 : decode cX2_take 9 = .ok (.iconst 0, 1) := by decide +kernel
theorem dX2_take_10 : decode cX2_take 10 = .ok (.iconst 0, 1) := by decide +kernel
theorem dX2_take_11 : decode cX2_take 11 = .ok (.iload_n 2, 1) := by decide +kernel
theorem dX2_take_12 : decode cX2_take 12 = .ok (.bipush 7, 2) := by decide +kernel
theorem dX2_take_14 : decode cX2_take 14 = .ok (.invokestatic 28, 3) := by decide +kernel
theorem dX2_take_17 : decode cX2_take 17 = .ok (.invokestatic 34, 3) := by decide +kernel
theorem dX2_take_20 : decode cX2_take 20 = .ok (.invokestatic 37, 3) := by decide +kernel
theorem dX2_take_23 : decode cX2_take 23 = .ok (.aload_n 1, 1) := by decide +kernel
theorem dX2_take_24 : decode cX2_take 24 = .ok (.getfield 15, 3) := by decide +kernel
theorem dX2_take_27 : decode cX2_take 27 = .ok (.iconst 0, 1) := by decide +kernel
theorem dX2_take_28 : decode cX2_take 28 = .ok (.aload_n 0, 1) := by decide +kernel
theorem dX2_take_29 : decode cX2_take 29 = .ok (.getfield 15, 3) := by decide +kernel
theorem dX2_take_32 : decode cX2_take 32 = .ok (.iconst 0, 1) := by decide +kernel
theorem dX2_take_33 : decode cX2_take 33 = .ok (.iconst 0, 1) := by decide +kernel
theorem dX2_take_34 : decode cX2_take 34 = .ok (.iload_n 3, 1) := by decide +kernel
theorem dX2_take_35 : decode cX2_take 35 = .ok (.bipush 10, 2) := by decide +kernel
theorem dX2_take_37 : decode cX2_take 37 = .ok (.invokestatic 28, 3) := by decide +kernel
theorem dX2_take_40 : decode cX2_take 40 = .ok (.invokestatic 34, 3) := by decide +kernel
theorem dX2_take_43 : decode cX2_take 43 = .ok (.invokestatic 37, 3) := by decide +kernel
theorem dX2_take_46 : decode cX2_take 46 = .ok (.aload_n 1, 1) := by decide +kernel
theorem dX2_take_47 : decode cX2_take 47 = .ok (.getfield 18, 3) := by decide +kernel
theorem dX2_take_50 : decode cX2_take 50 = .ok (.iconst 0, 1) := by decide +kernel
theorem dX2_take_51 : decode cX2_take 51 = .ok (.aload_n 0, 1) := by decide +kernel
theorem dX2_take_52 : decode cX2_take 52 = .ok (.getfield 18, 3) := by decide +kernel
theorem dX2_take_55 : decode cX2_take 55 = .ok (.iconst 0, 1) := by decide +kernel
theorem dX2_take_56 : decode cX2_take 56 = .ok (.iconst 0, 1) := by decide +kernel
theorem dX2_take_57 : decode cX2_take 57 = .ok (.iload_n 3, 1) := by decide +kernel
theorem dX2_take_58 : decode cX2_take 58 = .ok (.bipush 10, 2) := by decide +kernel
theorem dX2_take_60 : decode cX2_take 60 = .ok (.invokestatic 28, 3) := by decide +kernel
theorem dX2_take_63 : decode cX2_take 63 = .ok (.invokestatic 34, 3) := by decide +kernel
theorem dX2_take_66 : decode cX2_take 66 = .ok (.invokestatic 37, 3) := by decide +kernel
theorem dX2_take_69 : decode cX2_take 69 = .ok (.aload_n 1, 1) := by decide +kernel
theorem dX2_take_70 : decode cX2_take 70 = .ok (.getfield 21, 3) := by decide +kernel
theorem dX2_take_73 : decode cX2_take 73 = .ok (.iconst 0, 1) := by decide +kernel
theorem dX2_take_74 : decode cX2_take 74 = .ok (.aload_n 0, 1) := by decide +kernel
theorem dX2_take_75 : decode cX2_take 75 = .ok (.getfield 21, 3) := by decide +kernel
theorem dX2_take_78 : decode cX2_take 78 = .ok (.iconst 0, 1) := by decide +kernel
theorem dX2_take_79 : decode cX2_take 79 = .ok (.bipush 6, 2) := by decide +kernel
theorem dX2_take_81 : decode cX2_take 81 = .ok (.invokestatic 37, 3) := by decide +kernel
theorem dX2_take_84 : decode cX2_take 84 = .ok (.aload_n 0, 1) := by decide +kernel
theorem dX2_take_85 : decode cX2_take 85 = .ok (.aload_n 1, 1) := by decide +kernel
theorem dX2_take_86 : decode cX2_take 86 = .ok (.getfield 43, 3) := by decide +kernel
theorem dX2_take_89 : decode cX2_take 89 = .ok (.putfield 43, 3) := by decide +kernel
theorem dX2_take_92 : decode cX2_take 92 = .ok (.aload_n 0, 1) := by decide +kernel
theorem dX2_take_93 : decode cX2_take 93 = .ok (.aload_n 1, 1) := by decide +kernel
theorem dX2_take_94 : decode cX2_take 94 = .ok (.getfield 47, 3) := by decide +kernel
theorem dX2_take_97 : decode cX2_take 97 = .ok (.putfield 47, 3) := by decide +kernel
theorem dX2_take_100 : decode cX2_take 100 = .ok (.return_, 1) := by decide +kernel
theorem dX2_houseOfJoy_0 : decode cX2_houseOfJoy 0 = .ok (.aload_n 0, 1) := by decide +kernel
theorem dX2_houseOfJoy_1 : decode cX2_houseOfJoy 1 = .ok (.getfield 24, 3) := by decide +kernel
theorem dX2_houseOfJoy_4 : decode cX2_houseOfJoy 4 = .ok (.getfield 50, 3) := by decide +kernel
theorem dX2_houseOfJoy_7 : decode cX2_houseOfJoy 7 = .ok (.iload_n 1, 1) := by decide +kernel
theorem dX2_houseOfJoy_8 : decode cX2_houseOfJoy 8 = .ok (.iaload, 1) := by decide +kernel
theorem dX2_houseOfJoy_9 : decode cX2_houseOfJoy 9 = .ok (.istore_n 2, 1) := by decide +kernel
theorem dX2_houseOfJoy_10 : decode cX2_houseOfJoy 10 = .ok (.iload_n 2, 1) := by decide +kernel
theorem dX2_houseOfJoy_11 : decode cX2_houseOfJoy 11 = .ok (.ifCond .lt 18, 3) := by decide +kernel
theorem dX2_houseOfJoy_14 : decode cX2_houseOfJoy 14 = .ok (.iload_n 2, 1) := by decide +kernel
theorem dX2_houseOfJoy_15 : decode cX2_houseOfJoy 15 = .ok (.bipush 7, 2) := by decide +kernel
theorem dX2_houseOfJoy_17 : decode cX2_houseOfJoy 17 = .ok (.if_icmp .ge 12, 3) := by decide +kernel
theorem dX2_houseOfJoy_20 : decode cX2_houseOfJoy 20 = .ok (.aload_n 0, 1) := by decide +kernel
theorem dX2_houseOfJoy_21 : decode cX2_houseOfJoy 21 = .ok (.getfield 9, 3) := by decide +kernel
theorem dX2_houseOfJoy_24 : decode cX2_houseOfJoy 24 = .ok (.iload_n 2, 1) := by decide +kernel
theorem dX2_houseOfJoy_25 : decode cX2_houseOfJoy 25 = .ok (.iaload, 1) := by decide +kernel
theorem dX2_houseOfJoy_26 : decode cX2_houseOfJoy 26 = .ok (.goto 4, 3) := by decide +kernel
theorem dX2_houseOfJoy_29 : decode cX2_houseOfJoy 29 = .ok (.iconst 0, 1) := by decide +kernel
theorem dX2_houseOfJoy_30 : decode cX2_houseOfJoy 30 = .ok (.ireturn, 1) := by decide +kernel
theorem dX2_sideOfJoy_0 : decode cX2_sideOfJoy 0 = .ok (.aload_n 0, 1) := by decide +kernel
theorem dX2_sideOfJoy_1 : decode cX2_sideOfJoy 1 = .ok (.iload_n 1, 1) := by decide +kernel
theorem dX2_sideOfJoy_2 : decode cX2_sideOfJoy 2 = .ok (.invokevirtual 55, 3) := by decide +kernel
theorem dX2_sideOfJoy_5 : decode cX2_sideOfJoy 5 = .ok (.iconst 2, 1) := by decide +kernel
theorem dX2_sideOfJoy_6 : decode cX2_sideOfJoy 6 = .ok (.irem, 1) := by decide +kernel
theorem dX2_sideOfJoy_7 : decode cX2_sideOfJoy 7 = .ok (.ireturn, 1) := by decide +kernel
theorem dX2_runs_0 : decode cX2_runs 0 = .ok (.aload_n 0, 1) := by decide +kernel
theorem dX2_runs_1 : decode cX2_runs 1 = .ok (.getfield 18, 3) := by decide +kernel
theorem dX2_runs_4 : decode cX2_runs 4 = .ok (.iload_n 1, 1) := by decide +kernel
theorem dX2_runs_5 : decode cX2_runs 5 = .ok (.iaload, 1) := by decide +kernel
theorem dX2_runs_6 : decode cX2_runs 6 = .ok (.ifCond .ne 34, 3) := by decide +kernel
theorem dX2_runs_9 : decode cX2_runs 9 = .ok (.aload_n 0, 1) := by decide +kernel
theorem dX2_runs_10 : decode cX2_runs 10 = .ok (.getfield 15, 3) := by decide +kernel
theorem dX2_runs_13 : decode cX2_runs 13 = .ok (.iload_n 1, 1) := by decide +kernel
theorem dX2_runs_14 : decode cX2_runs 14 = .ok (.iaload, 1) := by decide +kernel
theorem dX2_runs_15 : decode cX2_runs 15 = .ok (.ifCond .le 25, 3) := by decide +kernel
theorem dX2_runs_18 : decode cX2_runs 18 = .ok (.aload_n 0, 1) := by decide +kernel
theorem dX2_runs_19 : decode cX2_runs 19 = .ok (.getfield 15, 3) := by decide +kernel
theorem dX2_runs_22 : decode cX2_runs 22 = .ok (.iload_n 1, 1) := by decide +kernel
theorem dX2_runs_23 : decode cX2_runs 23 = .ok (.iaload, 1) := by decide +kernel
theorem dX2_runs_24 : decode cX2_runs 24 = .ok (.aload_n 0, 1) := by decide +kernel
theorem dX2_runs_25 : decode cX2_runs 25 = .ok (.getfield 24, 3) := by decide +kernel
theorem dX2_runs_28 : decode cX2_runs 28 = .ok (.getfield 59, 3) := by decide +kernel
theorem dX2_runs_31 : decode cX2_runs 31 = .ok (.iload_n 1, 1) := by decide +kernel
theorem dX2_runs_32 : decode cX2_runs 32 = .ok (.iaload, 1) := by decide +kernel
theorem dX2_runs_33 : decode cX2_runs 33 = .ok (.if_icmp .ge 7, 3) := by decide +kernel
theorem dX2_runs_36 : decode cX2_runs 36 = .ok (.iconst 1, 1) := by decide +kernel
theorem dX2_runs_37 : decode cX2_runs 37 = .ok (.goto 4, 3) := by decide +kernel
theorem dX2_runs_40 : decode cX2_runs 40 = .ok (.iconst 0, 1) := by decide +kernel
theorem dX2_runs_41 : decode cX2_runs 41 = .ok (.ireturn, 1) := by decide +kernel
theorem dX2_waits_0 : decode cX2_waits 0 = .ok (.aload_n 0, 1) := by decide +kernel
theorem dX2_waits_1 : decode cX2_waits 1 = .ok (.getfield 18, 3) := by decide +kernel
theorem dX2_waits_4 : decode cX2_waits 4 = .ok (.iload_n 1, 1) := by decide +kernel
theorem dX2_waits_5 : decode cX2_waits 5 = .ok (.iaload, 1) := by decide +kernel
theorem dX2_waits_6 : decode cX2_waits 6 = .ok (.ifCond .ne 32, 3) := by decide +kernel
theorem dX2_waits_9 : decode cX2_waits 9 = .ok (.aload_n 0, 1) := by decide +kernel
theorem dX2_waits_10 : decode cX2_waits 10 = .ok (.getfield 15, 3) := by decide +kernel
theorem dX2_waits_13 : decode cX2_waits 13 = .ok (.iload_n 1, 1) := by decide +kernel
theorem dX2_waits_14 : decode cX2_waits 14 = .ok (.iaload, 1) := by decide +kernel
theorem dX2_waits_15 : decode cX2_waits 15 = .ok (.ifCond .ne 23, 3) := by decide +kernel
theorem dX2_waits_18 : decode cX2_waits 18 = .ok (.aload_n 0, 1) := by decide +kernel
theorem dX2_waits_19 : decode cX2_waits 19 = .ok (.getfield 47, 3) := by decide +kernel
theorem dX2_waits_22 : decode cX2_waits 22 = .ok (.aload_n 0, 1) := by decide +kernel
theorem dX2_waits_23 : decode cX2_waits 23 = .ok (.getfield 24, 3) := by decide +kernel
theorem dX2_waits_26 : decode cX2_waits 26 = .ok (.getfield 62, 3) := by decide +kernel
theorem dX2_waits_29 : decode cX2_waits 29 = .ok (.iload_n 1, 1) := by decide +kernel
theorem dX2_waits_30 : decode cX2_waits 30 = .ok (.iaload, 1) := by decide +kernel
theorem dX2_waits_31 : decode cX2_waits 31 = .ok (.if_icmp .lt 7, 3) := by decide +kernel
theorem dX2_waits_34 : decode cX2_waits 34 = .ok (.iconst 1, 1) := by decide +kernel
theorem dX2_waits_35 : decode cX2_waits 35 = .ok (.goto 4, 3) := by decide +kernel
theorem dX2_waits_38 : decode cX2_waits 38 = .ok (.iconst 0, 1) := by decide +kernel
theorem dX2_waits_39 : decode cX2_waits 39 = .ok (.ireturn, 1) := by decide +kernel
theorem dX2_had_0 : decode cX2_had 0 = .ok (.aload_n 0, 1) := by decide +kernel
theorem dX2_had_1 : decode cX2_had 1 = .ok (.getfield 18, 3) := by decide +kernel
theorem dX2_had_4 : decode cX2_had 4 = .ok (.iload_n 1, 1) := by decide +kernel
theorem dX2_had_5 : decode cX2_had 5 = .ok (.iaload, 1) := by decide +kernel
theorem dX2_had_6 : decode cX2_had 6 = .ok (.ifCond .ne 25, 3) := by decide +kernel
theorem dX2_had_9 : decode cX2_had 9 = .ok (.aload_n 0, 1) := by decide +kernel
theorem dX2_had_10 : decode cX2_had 10 = .ok (.getfield 15, 3) := by decide +kernel
theorem dX2_had_13 : decode cX2_had 13 = .ok (.iload_n 1, 1) := by decide +kernel
theorem dX2_had_14 : decode cX2_had 14 = .ok (.iaload, 1) := by decide +kernel
theorem dX2_had_15 : decode cX2_had 15 = .ok (.aload_n 0, 1) := by decide +kernel
theorem dX2_had_16 : decode cX2_had 16 = .ok (.getfield 24, 3) := by decide +kernel
theorem dX2_had_19 : decode cX2_had 19 = .ok (.getfield 59, 3) := by decide +kernel
theorem dX2_had_22 : decode cX2_had 22 = .ok (.iload_n 1, 1) := by decide +kernel
theorem dX2_had_23 : decode cX2_had 23 = .ok (.iaload, 1) := by decide +kernel
theorem dX2_had_24 : decode cX2_had 24 = .ok (.if_icmp .lt 7, 3) := by decide +kernel
theorem dX2_had_27 : decode cX2_had 27 = .ok (.iconst 1, 1) := by decide +kernel
theorem dX2_had_28 : decode cX2_had 28 = .ok (.goto 4, 3) := by decide +kernel
theorem dX2_had_31 : decode cX2_had 31 = .ok (.iconst 0, 1) := by decide +kernel
theorem dX2_had_32 : decode cX2_had 32 = .ok (.ireturn, 1) := by decide +kernel
theorem dX2_isIn_0 : decode cX2_isIn 0 = .ok (.iload_n 2, 1) := by decide +kernel
theorem dX2_isIn_1 : decode cX2_isIn 1 = .ok (.tableswitch 45 0 2 #[27, 33, 39], 27) := by decide +kernel
theorem dX2_isIn_28 : decode cX2_isIn 28 = .ok (.aload_n 0, 1) := by decide +kernel
theorem dX2_isIn_29 : decode cX2_isIn 29 = .ok (.iload_n 1, 1) := by decide +kernel
theorem dX2_isIn_30 : decode cX2_isIn 30 = .ok (.invokevirtual 65, 3) := by decide +kernel
theorem dX2_isIn_33 : decode cX2_isIn 33 = .ok (.ireturn, 1) := by decide +kernel
theorem dX2_isIn_34 : decode cX2_isIn 34 = .ok (.aload_n 0, 1) := by decide +kernel
theorem dX2_isIn_35 : decode cX2_isIn 35 = .ok (.iload_n 1, 1) := by decide +kernel
theorem dX2_isIn_36 : decode cX2_isIn 36 = .ok (.invokevirtual 69, 3) := by decide +kernel
theorem dX2_isIn_39 : decode cX2_isIn 39 = .ok (.ireturn, 1) := by decide +kernel
theorem dX2_isIn_40 : decode cX2_isIn 40 = .ok (.aload_n 0, 1) := by decide +kernel
theorem dX2_isIn_41 : decode cX2_isIn 41 = .ok (.iload_n 1, 1) := by decide +kernel
theorem dX2_isIn_42 : decode cX2_isIn 42 = .ok (.invokevirtual 72, 3) := by decide +kernel
theorem dX2_isIn_45 : decode cX2_isIn 45 = .ok (.ireturn, 1) := by decide +kernel
theorem dX2_isIn_46 : decode cX2_isIn 46 = .ok (.aload_n 0, 1) := by decide +kernel
theorem dX2_isIn_47 : decode cX2_isIn 47 = .ok (.getfield 18, 3) := by decide +kernel
theorem dX2_isIn_50 : decode cX2_isIn 50 = .ok (.iload_n 1, 1) := by decide +kernel
theorem dX2_isIn_51 : decode cX2_isIn 51 = .ok (.iaload, 1) := by decide +kernel
theorem dX2_isIn_52 : decode cX2_isIn 52 = .ok (.ifCond .eq 7, 3) := by decide +kernel
theorem dX2_isIn_55 : decode cX2_isIn 55 = .ok (.iconst 1, 1) := by decide +kernel
theorem dX2_isIn_56 : decode cX2_isIn 56 = .ok (.goto 4, 3) := by decide +kernel
theorem dX2_isIn_59 : decode cX2_isIn 59 = .ok (.iconst 0, 1) := by decide +kernel
theorem dX2_isIn_60 : decode cX2_isIn 60 = .ok (.ireturn, 1) := by decide +kernel
theorem dX2_joysThat_0 : decode cX2_joysThat 0 = .ok (.iconst 0, 1) := by decide +kernel
theorem dX2_joysThat_1 : decode cX2_joysThat 1 = .ok (.istore_n 2, 1) := by decide +kernel
theorem dX2_joysThat_2 : decode cX2_joysThat 2 = .ok (.iconst 0, 1) := by decide +kernel
theorem dX2_joysThat_3 : decode cX2_joysThat 3 = .ok (.istore_n 3, 1) := by decide +kernel
theorem dX2_joysThat_4 : decode cX2_joysThat 4 = .ok (.iload_n 3, 1) := by decide +kernel
theorem dX2_joysThat_5 : decode cX2_joysThat 5 = .ok (.aload_n 0, 1) := by decide +kernel
theorem dX2_joysThat_6 : decode cX2_joysThat 6 = .ok (.getfield 24, 3) := by decide +kernel
theorem dX2_joysThat_9 : decode cX2_joysThat 9 = .ok (.getfield 75, 3) := by decide +kernel
theorem dX2_joysThat_12 : decode cX2_joysThat 12 = .ok (.if_icmp .ge 24, 3) := by decide +kernel
theorem dX2_joysThat_15 : decode cX2_joysThat 15 = .ok (.aload_n 0, 1) := by decide +kernel
theorem dX2_joysThat_16 : decode cX2_joysThat 16 = .ok (.iload_n 3, 1) := by decide +kernel
theorem dX2_joysThat_17 : decode cX2_joysThat 17 = .ok (.iload_n 1, 1) := by decide +kernel
theorem dX2_joysThat_18 : decode cX2_joysThat 18 = .ok (.invokevirtual 78, 3) := by decide +kernel
theorem dX2_joysThat_21 : decode cX2_joysThat 21 = .ok (.ifCond .eq 9, 3) := by decide +kernel
theorem dX2_joysThat_24 : decode cX2_joysThat 24 = .ok (.iload_n 2, 1) := by decide +kernel
theorem dX2_joysThat_25 : decode cX2_joysThat 25 = .ok (.iconst 1, 1) := by decide +kernel
theorem dX2_joysThat_26 : decode cX2_joysThat 26 = .ok (.iload_n 3, 1) := by decide +kernel
theorem dX2_joysThat_27 : decode cX2_joysThat 27 = .ok (.ishl, 1) := by decide +kernel
theorem dX2_joysThat_28 : decode cX2_joysThat 28 = .ok (.ior, 1) := by decide +kernel
theorem dX2_joysThat_29 : decode cX2_joysThat 29 = .ok (.istore_n 2, 1) := by decide +kernel
theorem dX2_joysThat_30 : decode cX2_joysThat 30 = .ok (.iinc 3 1, 3) := by decide +kernel
theorem dX2_joysThat_33 : decode cX2_joysThat 33 = .ok (.goto (-29), 3) := by decide +kernel
theorem dX2_joysThat_36 : decode cX2_joysThat 36 = .ok (.iload_n 2, 1) := by decide +kernel
theorem dX2_joysThat_37 : decode cX2_joysThat 37 = .ok (.ireturn, 1) := by decide +kernel
theorem dX2_isGlad_0 : decode cX2_isGlad 0 = .ok (.aload_n 0, 1) := by decide +kernel
theorem dX2_isGlad_1 : decode cX2_isGlad 1 = .ok (.getfield 9, 3) := by decide +kernel
theorem dX2_isGlad_4 : decode cX2_isGlad 4 = .ok (.iload_n 1, 1) := by decide +kernel
theorem dX2_isGlad_5 : decode cX2_isGlad 5 = .ok (.iaload, 1) := by decide +kernel
theorem dX2_isGlad_6 : decode cX2_isGlad 6 = .ok (.iconst 2, 1) := by decide +kernel
theorem dX2_isGlad_7 : decode cX2_isGlad 7 = .ok (.irem, 1) := by decide +kernel
theorem dX2_isGlad_8 : decode cX2_isGlad 8 = .ok (.aload_n 0, 1) := by decide +kernel
theorem dX2_isGlad_9 : decode cX2_isGlad 9 = .ok (.getfield 43, 3) := by decide +kernel
theorem dX2_isGlad_12 : decode cX2_isGlad 12 = .ok (.if_icmp .eq 5, 3) := by decide +kernel
theorem dX2_isGlad_15 : decode cX2_isGlad 15 = .ok (.iconst 0, 1) := by decide +kernel
theorem dX2_isGlad_16 : decode cX2_isGlad 16 = .ok (.ireturn, 1) := by decide +kernel
theorem dX2_isGlad_17 : decode cX2_isGlad 17 = .ok (.iconst 0, 1) := by decide +kernel
theorem dX2_isGlad_18 : decode cX2_isGlad 18 = .ok (.istore_n 2, 1) := by decide +kernel
theorem dX2_isGlad_19 : decode cX2_isGlad 19 = .ok (.iload_n 2, 1) := by decide +kernel
theorem dX2_isGlad_20 : decode cX2_isGlad 20 = .ok (.aload_n 0, 1) := by decide +kernel
theorem dX2_isGlad_21 : decode cX2_isGlad 21 = .ok (.getfield 24, 3) := by decide +kernel
theorem dX2_isGlad_24 : decode cX2_isGlad 24 = .ok (.getfield 75, 3) := by decide +kernel
theorem dX2_isGlad_27 : decode cX2_isGlad 27 = .ok (.if_icmp .ge 32, 3) := by decide +kernel
theorem dX2_isGlad_30 : decode cX2_isGlad 30 = .ok (.aload_n 0, 1) := by decide +kernel
theorem dX2_isGlad_31 : decode cX2_isGlad 31 = .ok (.getfield 24, 3) := by decide +kernel
theorem dX2_isGlad_34 : decode cX2_isGlad 34 = .ok (.getfield 50, 3) := by decide +kernel
theorem dX2_isGlad_37 : decode cX2_isGlad 37 = .ok (.iload_n 2, 1) := by decide +kernel
theorem dX2_isGlad_38 : decode cX2_isGlad 38 = .ok (.iaload, 1) := by decide +kernel
theorem dX2_isGlad_39 : decode cX2_isGlad 39 = .ok (.iload_n 1, 1) := by decide +kernel
theorem dX2_isGlad_40 : decode cX2_isGlad 40 = .ok (.if_icmp .ne 13, 3) := by decide +kernel
theorem dX2_isGlad_43 : decode cX2_isGlad 43 = .ok (.aload_n 0, 1) := by decide +kernel
theorem dX2_isGlad_44 : decode cX2_isGlad 44 = .ok (.iload_n 2, 1) := by decide +kernel
theorem dX2_isGlad_45 : decode cX2_isGlad 45 = .ok (.invokevirtual 69, 3) := by decide +kernel
theorem dX2_isGlad_48 : decode cX2_isGlad 48 = .ok (.ifCond .eq 5, 3) := by decide +kernel
theorem dX2_isGlad_51 : decode cX2_isGlad 51 = .ok (.iconst 1, 1) := by decide +kernel
theorem dX2_isGlad_52 : decode cX2_isGlad 52 = .ok (.ireturn, 1) := by decide +kernel
theorem dX2_isGlad_53 : decode cX2_isGlad 53 = .ok (.iinc 2 1, 3) := by decide +kernel
theorem dX2_isGlad_56 : decode cX2_isGlad 56 = .ok (.goto (-37), 3) := by decide +kernel
theorem dX2_isGlad_59 : decode cX2_isGlad 59 = .ok (.iconst 0, 1) := by decide +kernel
theorem dX2_isGlad_60 : decode cX2_isGlad 60 = .ok (.ireturn, 1) := by decide +kernel
theorem dX2_gladPeople_0 : decode cX2_gladPeople 0 = .ok (.iconst 0, 1) := by decide +kernel
theorem dX2_gladPeople_1 : decode cX2_gladPeople 1 = .ok (.istore_n 1, 1) := by decide +kernel
theorem dX2_gladPeople_2 : decode cX2_gladPeople 2 = .ok (.iconst 0, 1) := by decide +kernel
theorem dX2_gladPeople_3 : decode cX2_gladPeople 3 = .ok (.istore_n 2, 1) := by decide +kernel
theorem dX2_gladPeople_4 : decode cX2_gladPeople 4 = .ok (.iload_n 2, 1) := by decide +kernel
theorem dX2_gladPeople_5 : decode cX2_gladPeople 5 = .ok (.aload_n 0, 1) := by decide +kernel
theorem dX2_gladPeople_6 : decode cX2_gladPeople 6 = .ok (.getfield 24, 3) := by decide +kernel
theorem dX2_gladPeople_9 : decode cX2_gladPeople 9 = .ok (.getfield 82, 3) := by decide +kernel
theorem dX2_gladPeople_12 : decode cX2_gladPeople 12 = .ok (.if_icmp .ge 23, 3) := by decide +kernel
theorem dX2_gladPeople_15 : decode cX2_gladPeople 15 = .ok (.aload_n 0, 1) := by decide +kernel
theorem dX2_gladPeople_16 : decode cX2_gladPeople 16 = .ok (.iload_n 2, 1) := by decide +kernel
theorem dX2_gladPeople_17 : decode cX2_gladPeople 17 = .ok (.invokevirtual 85, 3) := by decide +kernel
theorem dX2_gladPeople_20 : decode cX2_gladPeople 20 = .ok (.ifCond .eq 9, 3) := by decide +kernel
theorem dX2_gladPeople_23 : decode cX2_gladPeople 23 = .ok (.iload_n 1, 1) := by decide +kernel
theorem dX2_gladPeople_24 : decode cX2_gladPeople 24 = .ok (.iconst 1, 1) := by decide +kernel
theorem dX2_gladPeople_25 : decode cX2_gladPeople 25 = .ok (.iload_n 2, 1) := by decide +kernel
theorem dX2_gladPeople_26 : decode cX2_gladPeople 26 = .ok (.ishl, 1) := by decide +kernel
theorem dX2_gladPeople_27 : decode cX2_gladPeople 27 = .ok (.ior, 1) := by decide +kernel
theorem dX2_gladPeople_28 : decode cX2_gladPeople 28 = .ok (.istore_n 1, 1) := by decide +kernel
theorem dX2_gladPeople_29 : decode cX2_gladPeople 29 = .ok (.iinc 2 1, 3) := by decide +kernel
theorem dX2_gladPeople_32 : decode cX2_gladPeople 32 = .ok (.goto (-28), 3) := by decide +kernel
theorem dX2_gladPeople_35 : decode cX2_gladPeople 35 = .ok (.iload_n 1, 1) := by decide +kernel
theorem dX2_gladPeople_36 : decode cX2_gladPeople 36 = .ok (.ireturn, 1) := by decide +kernel
theorem dX2_worthOfHad_0 : decode cX2_worthOfHad 0 = .ok (.iconst 0, 1) := by decide +kernel
theorem dX2_worthOfHad_1 : decode cX2_worthOfHad 1 = .ok (.istore_n 1, 1) := by decide +kernel
theorem dX2_worthOfHad_2 : decode cX2_worthOfHad 2 = .ok (.iconst 0, 1) := by decide +kernel
theorem dX2_worthOfHad_3 : decode cX2_worthOfHad 3 = .ok (.istore_n 2, 1) := by decide +kernel
theorem dX2_worthOfHad_4 : decode cX2_worthOfHad 4 = .ok (.iload_n 2, 1) := by decide +kernel
theorem dX2_worthOfHad_5 : decode cX2_worthOfHad 5 = .ok (.aload_n 0, 1) := by decide +kernel
theorem dX2_worthOfHad_6 : decode cX2_worthOfHad 6 = .ok (.getfield 24, 3) := by decide +kernel
theorem dX2_worthOfHad_9 : decode cX2_worthOfHad 9 = .ok (.getfield 75, 3) := by decide +kernel
theorem dX2_worthOfHad_12 : decode cX2_worthOfHad 12 = .ok (.if_icmp .ge 29, 3) := by decide +kernel
theorem dX2_worthOfHad_15 : decode cX2_worthOfHad 15 = .ok (.aload_n 0, 1) := by decide +kernel
theorem dX2_worthOfHad_16 : decode cX2_worthOfHad 16 = .ok (.iload_n 2, 1) := by decide +kernel
theorem dX2_worthOfHad_17 : decode cX2_worthOfHad 17 = .ok (.invokevirtual 72, 3) := by decide +kernel
theorem dX2_worthOfHad_20 : decode cX2_worthOfHad 20 = .ok (.ifCond .eq 15, 3) := by decide +kernel
theorem dX2_worthOfHad_23 : decode cX2_worthOfHad 23 = .ok (.iload_n 1, 1) := by decide +kernel
theorem dX2_worthOfHad_24 : decode cX2_worthOfHad 24 = .ok (.aload_n 0, 1) := by decide +kernel
theorem dX2_worthOfHad_25 : decode cX2_worthOfHad 25 = .ok (.getfield 24, 3) := by decide +kernel
theorem dX2_worthOfHad_28 : decode cX2_worthOfHad 28 = .ok (.getfield 88, 3) := by decide +kernel
theorem dX2_worthOfHad_31 : decode cX2_worthOfHad 31 = .ok (.iload_n 2, 1) := by decide +kernel
theorem dX2_worthOfHad_32 : decode cX2_worthOfHad 32 = .ok (.iaload, 1) := by decide +kernel
theorem dX2_worthOfHad_33 : decode cX2_worthOfHad 33 = .ok (.iadd, 1) := by decide +kernel
theorem dX2_worthOfHad_34 : decode cX2_worthOfHad 34 = .ok (.istore_n 1, 1) := by decide +kernel
theorem dX2_worthOfHad_35 : decode cX2_worthOfHad 35 = .ok (.iinc 2 1, 3) := by decide +kernel
theorem dX2_worthOfHad_38 : decode cX2_worthOfHad 38 = .ok (.goto (-34), 3) := by decide +kernel
theorem dX2_worthOfHad_41 : decode cX2_worthOfHad 41 = .ok (.iload_n 1, 1) := by decide +kernel
theorem dX2_worthOfHad_42 : decode cX2_worthOfHad 42 = .ok (.ireturn, 1) := by decide +kernel
theorem dX2_worthOfHadBy_0 : decode cX2_worthOfHadBy 0 = .ok (.iconst 0, 1) := by decide +kernel
theorem dX2_worthOfHadBy_1 : decode cX2_worthOfHadBy 1 = .ok (.istore_n 2, 1) := by decide +kernel
theorem dX2_worthOfHadBy_2 : decode cX2_worthOfHadBy 2 = .ok (.iconst 0, 1) := by decide +kernel
theorem dX2_worthOfHadBy_3 : decode cX2_worthOfHadBy 3 = .ok (.istore_n 3, 1) := by decide +kernel
theorem dX2_worthOfHadBy_4 : decode cX2_worthOfHadBy 4 = .ok (.iload_n 3, 1) := by decide +kernel
theorem dX2_worthOfHadBy_5 : decode cX2_worthOfHadBy 5 = .ok (.aload_n 0, 1) := by decide +kernel
theorem dX2_worthOfHadBy_6 : decode cX2_worthOfHadBy 6 = .ok (.getfield 24, 3) := by decide +kernel
theorem dX2_worthOfHadBy_9 : decode cX2_worthOfHadBy 9 = .ok (.getfield 75, 3) := by decide +kernel
theorem dX2_worthOfHadBy_12 : decode cX2_worthOfHadBy 12 = .ok (.if_icmp .ge 42, 3) := by decide +kernel
theorem dX2_worthOfHadBy_15 : decode cX2_worthOfHadBy 15 = .ok (.aload_n 0, 1) := by decide +kernel
theorem dX2_worthOfHadBy_16 : decode cX2_worthOfHadBy 16 = .ok (.getfield 24, 3) := by decide +kernel
theorem dX2_worthOfHadBy_19 : decode cX2_worthOfHadBy 19 = .ok (.getfield 50, 3) := by decide +kernel
theorem dX2_worthOfHadBy_22 : decode cX2_worthOfHadBy 22 = .ok (.iload_n 3, 1) := by decide +kernel
theorem dX2_worthOfHadBy_23 : decode cX2_worthOfHadBy 23 = .ok (.iaload, 1) := by decide +kernel
theorem dX2_worthOfHadBy_24 : decode cX2_worthOfHadBy 24 = .ok (.iload_n 1, 1) := by decide +kernel
theorem dX2_worthOfHadBy_25 : decode cX2_worthOfHadBy 25 = .ok (.if_icmp .ne 23, 3) := by decide +kernel
theorem dX2_worthOfHadBy_28 : decode cX2_worthOfHadBy 28 = .ok (.aload_n 0, 1) := by decide +kernel
theorem dX2_worthOfHadBy_29 : decode cX2_worthOfHadBy 29 = .ok (.iload_n 3, 1) := by decide +kernel
theorem dX2_worthOfHadBy_30 : decode cX2_worthOfHadBy 30 = .ok (.invokevirtual 72, 3) := by decide +kernel
theorem dX2_worthOfHadBy_33 : decode cX2_worthOfHadBy 33 = .ok (.ifCond .eq 15, 3) := by decide +kernel
theorem dX2_worthOfHadBy_36 : decode cX2_worthOfHadBy 36 = .ok (.iload_n 2, 1) := by decide +kernel
theorem dX2_worthOfHadBy_37 : decode cX2_worthOfHadBy 37 = .ok (.aload_n 0, 1) := by decide +kernel
theorem dX2_worthOfHadBy_38 : decode cX2_worthOfHadBy 38 = .ok (.getfield 24, 3) := by decide +kernel
theorem dX2_worthOfHadBy_41 : decode cX2_worthOfHadBy 41 = .ok (.getfield 88, 3) := by decide +kernel
theorem dX2_worthOfHadBy_44 : decode cX2_worthOfHadBy 44 = .ok (.iload_n 3, 1) := by decide +kernel
theorem dX2_worthOfHadBy_45 : decode cX2_worthOfHadBy 45 = .ok (.iaload, 1) := by decide +kernel
theorem dX2_worthOfHadBy_46 : decode cX2_worthOfHadBy 46 = .ok (.iadd, 1) := by decide +kernel
theorem dX2_worthOfHadBy_47 : decode cX2_worthOfHadBy 47 = .ok (.istore_n 2, 1) := by decide +kernel
theorem dX2_worthOfHadBy_48 : decode cX2_worthOfHadBy 48 = .ok (.iinc 3 1, 3) := by decide +kernel
theorem dX2_worthOfHadBy_51 : decode cX2_worthOfHadBy 51 = .ok (.goto (-47), 3) := by decide +kernel
theorem dX2_worthOfHadBy_54 : decode cX2_worthOfHadBy 54 = .ok (.iload_n 2, 1) := by decide +kernel
theorem dX2_worthOfHadBy_55 : decode cX2_worthOfHadBy 55 = .ok (.ireturn, 1) := by decide +kernel
theorem dX2_worthOfLost_0 : decode cX2_worthOfLost 0 = .ok (.iconst 0, 1) := by decide +kernel
theorem dX2_worthOfLost_1 : decode cX2_worthOfLost 1 = .ok (.istore_n 1, 1) := by decide +kernel
theorem dX2_worthOfLost_2 : decode cX2_worthOfLost 2 = .ok (.iconst 0, 1) := by decide +kernel
theorem dX2_worthOfLost_3 : decode cX2_worthOfLost 3 = .ok (.istore_n 2, 1) := by decide +kernel
theorem dX2_worthOfLost_4 : decode cX2_worthOfLost 4 = .ok (.iload_n 2, 1) := by decide +kernel
theorem dX2_worthOfLost_5 : decode cX2_worthOfLost 5 = .ok (.aload_n 0, 1) := by decide +kernel
theorem dX2_worthOfLost_6 : decode cX2_worthOfLost 6 = .ok (.getfield 24, 3) := by decide +kernel
theorem dX2_worthOfLost_9 : decode cX2_worthOfLost 9 = .ok (.getfield 75, 3) := by decide +kernel
theorem dX2_worthOfLost_12 : decode cX2_worthOfLost 12 = .ok (.if_icmp .ge 30, 3) := by decide +kernel
theorem dX2_worthOfLost_15 : decode cX2_worthOfLost 15 = .ok (.aload_n 0, 1) := by decide +kernel
theorem dX2_worthOfLost_16 : decode cX2_worthOfLost 16 = .ok (.getfield 18, 3) := by decide +kernel
theorem dX2_worthOfLost_19 : decode cX2_worthOfLost 19 = .ok (.iload_n 2, 1) := by decide +kernel
theorem dX2_worthOfLost_20 : decode cX2_worthOfLost 20 = .ok (.iaload, 1) := by decide +kernel
theorem dX2_worthOfLost_21 : decode cX2_worthOfLost 21 = .ok (.ifCond .eq 15, 3) := by decide +kernel
theorem dX2_worthOfLost_24 : decode cX2_worthOfLost 24 = .ok (.iload_n 1, 1) := by decide +kernel
theorem dX2_worthOfLost_25 : decode cX2_worthOfLost 25 = .ok (.aload_n 0, 1) := by decide +kernel
theorem dX2_worthOfLost_26 : decode cX2_worthOfLost 26 = .ok (.getfield 24, 3) := by decide +kernel
theorem dX2_worthOfLost_29 : decode cX2_worthOfLost 29 = .ok (.getfield 88, 3) := by decide +kernel
theorem dX2_worthOfLost_32 : decode cX2_worthOfLost 32 = .ok (.iload_n 2, 1) := by decide +kernel
theorem dX2_worthOfLost_33 : decode cX2_worthOfLost 33 = .ok (.iaload, 1) := by decide +kernel
theorem dX2_worthOfLost_34 : decode cX2_worthOfLost 34 = .ok (.iadd, 1) := by decide +kernel
theorem dX2_worthOfLost_35 : decode cX2_worthOfLost 35 = .ok (.istore_n 1, 1) := by decide +kernel
theorem dX2_worthOfLost_36 : decode cX2_worthOfLost 36 = .ok (.iinc 2 1, 3) := by decide +kernel
theorem dX2_worthOfLost_39 : decode cX2_worthOfLost 39 = .ok (.goto (-35), 3) := by decide +kernel
theorem dX2_worthOfLost_42 : decode cX2_worthOfLost 42 = .ok (.iload_n 1, 1) := by decide +kernel
theorem dX2_worthOfLost_43 : decode cX2_worthOfLost 43 = .ok (.ireturn, 1) := by decide +kernel
theorem dX2_leadOfSide0_0 : decode cX2_leadOfSide0 0 = .ok (.iconst 0, 1) := by decide +kernel
theorem dX2_leadOfSide0_1 : decode cX2_leadOfSide0 1 = .ok (.istore_n 1, 1) := by decide +kernel
theorem dX2_leadOfSide0_2 : decode cX2_leadOfSide0 2 = .ok (.iconst 0, 1) := by decide +kernel
theorem dX2_leadOfSide0_3 : decode cX2_leadOfSide0 3 = .ok (.istore_n 2, 1) := by decide +kernel
theorem dX2_leadOfSide0_4 : decode cX2_leadOfSide0 4 = .ok (.iload_n 2, 1) := by decide +kernel
theorem dX2_leadOfSide0_5 : decode cX2_leadOfSide0 5 = .ok (.aload_n 0, 1) := by decide +kernel
theorem dX2_leadOfSide0_6 : decode cX2_leadOfSide0 6 = .ok (.getfield 24, 3) := by decide +kernel
theorem dX2_leadOfSide0_9 : decode cX2_leadOfSide0 9 = .ok (.getfield 82, 3) := by decide +kernel
theorem dX2_leadOfSide0_12 : decode cX2_leadOfSide0 12 = .ok (.if_icmp .ge 28, 3) := by decide +kernel
theorem dX2_leadOfSide0_15 : decode cX2_leadOfSide0 15 = .ok (.iload_n 1, 1) := by decide +kernel
theorem dX2_leadOfSide0_16 : decode cX2_leadOfSide0 16 = .ok (.aload_n 0, 1) := by decide +kernel
theorem dX2_leadOfSide0_17 : decode cX2_leadOfSide0 17 = .ok (.getfield 9, 3) := by decide +kernel
theorem dX2_leadOfSide0_20 : decode cX2_leadOfSide0 20 = .ok (.iload_n 2, 1) := by decide +kernel
theorem dX2_leadOfSide0_21 : decode cX2_leadOfSide0 21 = .ok (.iaload, 1) := by decide +kernel
theorem dX2_leadOfSide0_22 : decode cX2_leadOfSide0 22 = .ok (.iconst 2, 1) := by decide +kernel
theorem dX2_leadOfSide0_23 : decode cX2_leadOfSide0 23 = .ok (.irem, 1) := by decide +kernel
theorem dX2_leadOfSide0_24 : decode cX2_leadOfSide0 24 = .ok (.ifCond .ne 7, 3) := by decide +kernel
theorem dX2_leadOfSide0_27 : decode cX2_leadOfSide0 27 = .ok (.iconst 1, 1) := by decide +kernel
theorem dX2_leadOfSide0_28 : decode cX2_leadOfSide0 28 = .ok (.goto 4, 3) := by decide +kernel
theorem dX2_leadOfSide0_31 : decode cX2_leadOfSide0 31 = .ok (.iconst (-1), 1) := by decide +kernel
theorem dX2_leadOfSide0_32 : decode cX2_leadOfSide0 32 = .ok (.iadd, 1) := by decide +kernel
theorem dX2_leadOfSide0_33 : decode cX2_leadOfSide0 33 = .ok (.istore_n 1, 1) := by decide +kernel
theorem dX2_leadOfSide0_34 : decode cX2_leadOfSide0 34 = .ok (.iinc 2 1, 3) := by decide +kernel
theorem dX2_leadOfSide0_37 : decode cX2_leadOfSide0 37 = .ok (.goto (-33), 3) := by decide +kernel
theorem dX2_leadOfSide0_40 : decode cX2_leadOfSide0 40 = .ok (.iload_n 1, 1) := by decide +kernel
theorem dX2_leadOfSide0_41 : decode cX2_leadOfSide0 41 = .ok (.ireturn, 1) := by decide +kernel
theorem dX2_pass_0 : decode cX2_pass 0 = .ok (.aload_n 0, 1) := by decide +kernel
theorem dX2_pass_1 : decode cX2_pass 1 = .ok (.getfield 47, 3) := by decide +kernel
theorem dX2_pass_4 : decode cX2_pass 4 = .ok (.ifCond .le 32, 3) := by decide +kernel
theorem dX2_pass_7 : decode cX2_pass 7 = .ok (.aload_n 0, 1) := by decide +kernel
theorem dX2_pass_8 : decode cX2_pass 8 = .ok (.getfield 24, 3) := by decide +kernel
theorem dX2_pass_11 : decode cX2_pass 11 = .ok (.getfield 91, 3) := by decide +kernel
theorem dX2_pass_14 : decode cX2_pass 14 = .ok (.ifCond .le 22, 3) := by decide +kernel
theorem dX2_pass_17 : decode cX2_pass 17 = .ok (.aload_n 0, 1) := by decide +kernel
theorem dX2_pass_18 : decode cX2_pass 18 = .ok (.getfield 47, 3) := by decide +kernel
theorem dX2_pass_21 : decode cX2_pass 21 = .ok (.aload_n 0, 1) := by decide +kernel
theorem dX2_pass_22 : decode cX2_pass 22 = .ok (.getfield 24, 3) := by decide +kernel
theorem dX2_pass_25 : decode cX2_pass 25 = .ok (.getfield 91, 3) := by decide +kernel
theorem dX2_pass_28 : decode cX2_pass 28 = .ok (.irem, 1) := by decide +kernel
theorem dX2_pass_29 : decode cX2_pass 29 = .ok (.ifCond .ne 7, 3) := by decide +kernel
theorem dX2_pass_32 : decode cX2_pass 32 = .ok (.aload_n 0, 1) := by decide +kernel
theorem dX2_pass_33 : decode cX2_pass 33 = .ok (.invokevirtual 94, 3) := by decide +kernel
theorem dX2_pass_36 : decode cX2_pass 36 = .ok (.iconst 0, 1) := by decide +kernel
theorem dX2_pass_37 : decode cX2_pass 37 = .ok (.istore_n 1, 1) := by decide +kernel
theorem dX2_pass_38 : decode cX2_pass 38 = .ok (.iload_n 1, 1) := by decide +kernel
theorem dX2_pass_39 : decode cX2_pass 39 = .ok (.aload_n 0, 1) := by decide +kernel
theorem dX2_pass_40 : decode cX2_pass 40 = .ok (.getfield 24, 3) := by decide +kernel
theorem dX2_pass_43 : decode cX2_pass 43 = .ok (.getfield 75, 3) := by decide +kernel
theorem dX2_pass_46 : decode cX2_pass 46 = .ok (.if_icmp .ge 14, 3) := by decide +kernel
theorem dX2_pass_49 : decode cX2_pass 49 = .ok (.aload_n 0, 1) := by decide +kernel
theorem dX2_pass_50 : decode cX2_pass 50 = .ok (.iload_n 1, 1) := by decide +kernel
theorem dX2_pass_51 : decode cX2_pass 51 = .ok (.invokevirtual 97, 3) := by decide +kernel
theorem dX2_pass_54 : decode cX2_pass 54 = .ok (.iinc 1 1, 3) := by decide +kernel
theorem dX2_pass_57 : decode cX2_pass 57 = .ok (.goto (-19), 3) := by decide +kernel
theorem dX2_pass_60 : decode cX2_pass 60 = .ok (.aload_n 0, 1) := by decide +kernel
theorem dX2_pass_61 : decode cX2_pass 61 = .ok (.getfield 47, 3) := by decide +kernel
theorem dX2_pass_64 : decode cX2_pass 64 = .ok (.sipush 199, 3) := by decide +kernel
theorem dX2_pass_67 : decode cX2_pass 67 = .ok (.if_icmp .ge 13, 3) := by decide +kernel
theorem dX2_pass_70 : decode cX2_pass 70 = .ok (.aload_n 0, 1) := by decide +kernel
theorem dX2_pass_71 : decode cX2_pass 71 = .ok (.dup, 1) := by decide +kernel
theorem dX2_pass_72 : decode cX2_pass 72 = .ok (.getfield 47, 3) := by decide +kernel
theorem dX2_pass_75 : decode cX2_pass 75 = .ok (.iconst 1, 1) := by decide +kernel
theorem dX2_pass_76 : decode cX2_pass 76 = .ok (.iadd, 1) := by decide +kernel
theorem dX2_pass_77 : decode cX2_pass 77 = .ok (.putfield 47, 3) := by decide +kernel
theorem dX2_pass_80 : decode cX2_pass 80 = .ok (.aload_n 0, 1) := by decide +kernel
theorem dX2_pass_81 : decode cX2_pass 81 = .ok (.getfield 21, 3) := by decide +kernel
theorem dX2_pass_84 : decode cX2_pass 84 = .ok (.iconst 1, 1) := by decide +kernel
theorem dX2_pass_85 : decode cX2_pass 85 = .ok (.dup2, 1) := by decide +kernel
theorem dX2_pass_86 : decode cX2_pass 86 = .ok (.iaload, 1) := by decide +kernel
theorem dX2_pass_87 : decode cX2_pass 87 = .ok (.iconst 1, 1) := by decide +kernel
theorem dX2_pass_88 : decode cX2_pass 88 = .ok (.iadd, 1) := by decide +kernel
theorem dX2_pass_89 : decode cX2_pass 89 = .ok (.iastore, 1) := by decide +kernel
theorem dX2_pass_90 : decode cX2_pass 90 = .ok (.return_, 1) := by decide +kernel
theorem dX2_holdVote_0 : decode cX2_holdVote 0 = .ok (.aload_n 0, 1) := by decide +kernel
theorem dX2_holdVote_1 : decode cX2_holdVote 1 = .ok (.invokevirtual 101, 3) := by decide +kernel
theorem dX2_holdVote_4 : decode cX2_holdVote 4 = .ok (.istore_n 1, 1) := by decide +kernel
theorem dX2_holdVote_5 : decode cX2_holdVote 5 = .ok (.iload_n 1, 1) := by decide +kernel
theorem dX2_holdVote_6 : decode cX2_holdVote 6 = .ok (.ifCond .ne 10, 3) := by decide +kernel
theorem dX2_holdVote_9 : decode cX2_holdVote 9 = .ok (.aload_n 0, 1) := by decide +kernel
theorem dX2_holdVote_10 : decode cX2_holdVote 10 = .ok (.getfield 43, 3) := by decide +kernel
theorem dX2_holdVote_13 : decode cX2_holdVote 13 = .ok (.goto 12, 3) := by decide +kernel
theorem dX2_holdVote_16 : decode cX2_holdVote 16 = .ok (.iload_n 1, 1) := by decide +kernel
theorem dX2_holdVote_17 : decode cX2_holdVote 17 = .ok (.ifCond .le 7, 3) := by decide +kernel
theorem dX2_holdVote_20 : decode cX2_holdVote 20 = .ok (.iconst 0, 1) := by decide +kernel
theorem dX2_holdVote_21 : decode cX2_holdVote 21 = .ok (.goto 4, 3) := by decide +kernel
theorem dX2_holdVote_24 : decode cX2_holdVote 24 = .ok (.iconst 1, 1) := by decide +kernel
theorem dX2_holdVote_25 : decode cX2_holdVote 25 = .ok (.istore_n 2, 1) := by decide +kernel
theorem dX2_holdVote_26 : decode cX2_holdVote 26 = .ok (.iload_n 2, 1) := by decide +kernel
theorem dX2_holdVote_27 : decode cX2_holdVote 27 = .ok (.aload_n 0, 1) := by decide +kernel
theorem dX2_holdVote_28 : decode cX2_holdVote 28 = .ok (.getfield 43, 3) := by decide +kernel
theorem dX2_holdVote_31 : decode cX2_holdVote 31 = .ok (.if_icmp .eq 13, 3) := by decide +kernel
theorem dX2_holdVote_34 : decode cX2_holdVote 34 = .ok (.aload_n 0, 1) := by decide +kernel
theorem dX2_holdVote_35 : decode cX2_holdVote 35 = .ok (.getfield 21, 3) := by decide +kernel
theorem dX2_holdVote_38 : decode cX2_holdVote 38 = .ok (.iconst 3, 1) := by decide +kernel
theorem dX2_holdVote_39 : decode cX2_holdVote 39 = .ok (.dup2, 1) := by decide +kernel
theorem dX2_holdVote_40 : decode cX2_holdVote 40 = .ok (.iaload, 1) := by decide +kernel
theorem dX2_holdVote_41 : decode cX2_holdVote 41 = .ok (.iconst 1, 1) := by decide +kernel
theorem dX2_holdVote_42 : decode cX2_holdVote 42 = .ok (.iadd, 1) := by decide +kernel
theorem dX2_holdVote_43 : decode cX2_holdVote 43 = .ok (.iastore, 1) := by decide +kernel
theorem dX2_holdVote_44 : decode cX2_holdVote 44 = .ok (.aload_n 0, 1) := by decide +kernel
theorem dX2_holdVote_45 : decode cX2_holdVote 45 = .ok (.iload_n 2, 1) := by decide +kernel
theorem dX2_holdVote_46 : decode cX2_holdVote 46 = .ok (.putfield 43, 3) := by decide +kernel
theorem dX2_holdVote_49 : decode cX2_holdVote 49 = .ok (.aload_n 0, 1) := by decide +kernel
theorem dX2_holdVote_50 : decode cX2_holdVote 50 = .ok (.getfield 21, 3) := by decide +kernel
theorem dX2_holdVote_53 : decode cX2_holdVote 53 = .ok (.iconst 2, 1) := by decide +kernel
theorem dX2_holdVote_54 : decode cX2_holdVote 54 = .ok (.dup2, 1) := by decide +kernel
theorem dX2_holdVote_55 : decode cX2_holdVote 55 = .ok (.iaload, 1) := by decide +kernel
theorem dX2_holdVote_56 : decode cX2_holdVote 56 = .ok (.iconst 1, 1) := by decide +kernel
theorem dX2_holdVote_57 : decode cX2_holdVote 57 = .ok (.iadd, 1) := by decide +kernel
theorem dX2_holdVote_58 : decode cX2_holdVote 58 = .ok (.iastore, 1) := by decide +kernel
theorem dX2_holdVote_59 : decode cX2_holdVote 59 = .ok (.return_, 1) := by decide +kernel
theorem dX2_passFor_0 : decode cX2_passFor 0 = .ok (.aload_n 0, 1) := by decide +kernel
theorem dX2_passFor_1 : decode cX2_passFor 1 = .ok (.iload_n 1, 1) := by decide +kernel
theorem dX2_passFor_2 : decode cX2_passFor 2 = .ok (.invokevirtual 105, 3) := by decide +kernel
theorem dX2_passFor_5 : decode cX2_passFor 5 = .ok (.aload_n 0, 1) := by decide +kernel
theorem dX2_passFor_6 : decode cX2_passFor 6 = .ok (.getfield 43, 3) := by decide +kernel
theorem dX2_passFor_9 : decode cX2_passFor 9 = .ok (.if_icmp .ne 7, 3) := by decide +kernel
theorem dX2_passFor_12 : decode cX2_passFor 12 = .ok (.iconst 1, 1) := by decide +kernel
theorem dX2_passFor_13 : decode cX2_passFor 13 = .ok (.goto 4, 3) := by decide +kernel
theorem dX2_passFor_16 : decode cX2_passFor 16 = .ok (.iconst 0, 1) := by decide +kernel
theorem dX2_passFor_17 : decode cX2_passFor 17 = .ok (.istore_n 2, 1) := by decide +kernel
theorem dX2_passFor_18 : decode cX2_passFor 18 = .ok (.aload_n 0, 1) := by decide +kernel
theorem dX2_passFor_19 : decode cX2_passFor 19 = .ok (.iload_n 1, 1) := by decide +kernel
theorem dX2_passFor_20 : decode cX2_passFor 20 = .ok (.invokevirtual 69, 3) := by decide +kernel
theorem dX2_passFor_23 : decode cX2_passFor 23 = .ok (.ifCond .eq 15, 3) := by decide +kernel
theorem dX2_passFor_26 : decode cX2_passFor 26 = .ok (.iload_n 2, 1) := by decide +kernel
theorem dX2_passFor_27 : decode cX2_passFor 27 = .ok (.ifCond .eq 64, 3) := by decide +kernel
theorem dX2_passFor_30 : decode cX2_passFor 30 = .ok (.aload_n 0, 1) := by decide +kernel
theorem dX2_passFor_31 : decode cX2_passFor 31 = .ok (.iload_n 1, 1) := by decide +kernel
theorem dX2_passFor_32 : decode cX2_passFor 32 = .ok (.invokevirtual 108, 3) := by decide +kernel
theorem dX2_passFor_35 : decode cX2_passFor 35 = .ok (.goto 56, 3) := by decide +kernel
theorem dX2_passFor_38 : decode cX2_passFor 38 = .ok (.aload_n 0, 1) := by decide +kernel
theorem dX2_passFor_39 : decode cX2_passFor 39 = .ok (.iload_n 1, 1) := by decide +kernel
theorem dX2_passFor_40 : decode cX2_passFor 40 = .ok (.invokevirtual 65, 3) := by decide +kernel
theorem dX2_passFor_43 : decode cX2_passFor 43 = .ok (.ifCond .eq 48, 3) := by decide +kernel
theorem dX2_passFor_46 : decode cX2_passFor 46 = .ok (.iload_n 2, 1) := by decide +kernel
theorem dX2_passFor_47 : decode cX2_passFor 47 = .ok (.ifCond .eq 11, 3) := by decide +kernel
theorem dX2_passFor_50 : decode cX2_passFor 50 = .ok (.aload_n 0, 1) := by decide +kernel
theorem dX2_passFor_51 : decode cX2_passFor 51 = .ok (.iload_n 1, 1) := by decide +kernel
theorem dX2_passFor_52 : decode cX2_passFor 52 = .ok (.invokevirtual 108, 3) := by decide +kernel
theorem dX2_passFor_55 : decode cX2_passFor 55 = .ok (.goto 36, 3) := by decide +kernel
theorem dX2_passFor_58 : decode cX2_passFor 58 = .ok (.aload_n 0, 1) := by decide +kernel
theorem dX2_passFor_59 : decode cX2_passFor 59 = .ok (.getfield 47, 3) := by decide +kernel
theorem dX2_passFor_62 : decode cX2_passFor 62 = .ok (.aload_n 0, 1) := by decide +kernel
theorem dX2_passFor_63 : decode cX2_passFor 63 = .ok (.getfield 24, 3) := by decide +kernel
theorem dX2_passFor_66 : decode cX2_passFor 66 = .ok (.getfield 62, 3) := by decide +kernel
theorem dX2_passFor_69 : decode cX2_passFor 69 = .ok (.iload_n 1, 1) := by decide +kernel
theorem dX2_passFor_70 : decode cX2_passFor 70 = .ok (.iaload, 1) := by decide +kernel
theorem dX2_passFor_71 : decode cX2_passFor 71 = .ok (.aload_n 0, 1) := by decide +kernel
theorem dX2_passFor_72 : decode cX2_passFor 72 = .ok (.getfield 24, 3) := by decide +kernel
theorem dX2_passFor_75 : decode cX2_passFor 75 = .ok (.getfield 111, 3) := by decide +kernel
theorem dX2_passFor_78 : decode cX2_passFor 78 = .ok (.iload_n 1, 1) := by decide +kernel
theorem dX2_passFor_79 : decode cX2_passFor 79 = .ok (.iaload, 1) := by decide +kernel
theorem dX2_passFor_80 : decode cX2_passFor 80 = .ok (.iadd, 1) := by decide +kernel
theorem dX2_passFor_81 : decode cX2_passFor 81 = .ok (.if_icmp .lt 10, 3) := by decide +kernel
theorem dX2_passFor_84 : decode cX2_passFor 84 = .ok (.aload_n 0, 1) := by decide +kernel
theorem dX2_passFor_85 : decode cX2_passFor 85 = .ok (.getfield 18, 3) := by decide +kernel
theorem dX2_passFor_88 : decode cX2_passFor 88 = .ok (.iload_n 1, 1) := by decide +kernel
theorem dX2_passFor_89 : decode cX2_passFor 89 = .ok (.iconst 1, 1) := by decide +kernel
theorem dX2_passFor_90 : decode cX2_passFor 90 = .ok (.iastore, 1) := by decide +kernel
theorem dX2_passFor_91 : decode cX2_passFor 91 = .ok (.return_, 1) := by decide +kernel
theorem dX2_runOn_0 : decode cX2_runOn 0 = .ok (.aload_n 0, 1) := by decide +kernel
theorem dX2_runOn_1 : decode cX2_runOn 1 = .ok (.getfield 15, 3) := by decide +kernel
theorem dX2_runOn_4 : decode cX2_runOn 4 = .ok (.iload_n 1, 1) := by decide +kernel
theorem dX2_runOn_5 : decode cX2_runOn 5 = .ok (.dup2, 1) := by decide +kernel
theorem dX2_runOn_6 : decode cX2_runOn 6 = .ok (.iaload, 1) := by decide +kernel
theorem dX2_runOn_7 : decode cX2_runOn 7 = .ok (.iconst 1, 1) := by decide +kernel
theorem dX2_runOn_8 : decode cX2_runOn 8 = .ok (.iadd, 1) := by decide +kernel
theorem dX2_runOn_9 : decode cX2_runOn 9 = .ok (.iastore, 1) := by decide +kernel
theorem dX2_runOn_10 : decode cX2_runOn 10 = .ok (.aload_n 0, 1) := by decide +kernel
theorem dX2_runOn_11 : decode cX2_runOn 11 = .ok (.iload_n 1, 1) := by decide +kernel
theorem dX2_runOn_12 : decode cX2_runOn 12 = .ok (.invokevirtual 72, 3) := by decide +kernel
theorem dX2_runOn_15 : decode cX2_runOn 15 = .ok (.ifCond .eq 13, 3) := by decide +kernel
theorem dX2_runOn_18 : decode cX2_runOn 18 = .ok (.aload_n 0, 1) := by decide +kernel
theorem dX2_runOn_19 : decode cX2_runOn 19 = .ok (.getfield 21, 3) := by decide +kernel
theorem dX2_runOn_22 : decode cX2_runOn 22 = .ok (.iconst 5, 1) := by decide +kernel
theorem dX2_runOn_23 : decode cX2_runOn 23 = .ok (.dup2, 1) := by decide +kernel
theorem dX2_runOn_24 : decode cX2_runOn 24 = .ok (.iaload, 1) := by decide +kernel
theorem dX2_runOn_25 : decode cX2_runOn 25 = .ok (.iconst 1, 1) := by decide +kernel
theorem dX2_runOn_26 : decode cX2_runOn 26 = .ok (.iadd, 1) := by decide +kernel
theorem dX2_runOn_27 : decode cX2_runOn 27 = .ok (.iastore, 1) := by decide +kernel
theorem dX2_runOn_28 : decode cX2_runOn 28 = .ok (.return_, 1) := by decide +kernel
theorem dX3_init_0 : decode cX3_init 0 = .ok (.aload_n 0, 1) := by decide +kernel
theorem dX3_init_1 : decode cX3_init 1 = .ok (.invokespecial 1, 3) := by decide +kernel
theorem dX3_init_4 : decode cX3_init 4 = .ok (.aload_n 0, 1) := by decide +kernel
theorem dX3_init_5 : decode cX3_init 5 = .ok (.bipush 6, 2) := by decide +kernel
theorem dX3_init_7 : decode cX3_init 7 = .ok (.newarray .int, 2) := by decide +kernel
theorem dX3_init_9 : decode cX3_init 9 = .ok (.putfield 9, 3) := by decide +kernel
theorem dX3_init_12 : decode cX3_init 12 = .ok (.aload_n 0, 1) := by decide +kernel
theorem dX3_init_13 : decode cX3_init 13 = .ok (.sipush 128, 3) := by decide +kernel
theorem dX3_init_16 : decode cX3_init 16 = .ok (.newarray .int, 2) := by decide +kernel
theorem dX3_init_18 : decode cX3_init 18 = .ok (.putfield 13, 3) := by decide +kernel
theorem dX3_init_21 : decode cX3_init 21 = .ok (.aload_n 0, 1) := by decide +kernel
theorem dX3_init_22 : decode cX3_init 22 = .ok (.sipush 128, 3) := by decide +kernel
theorem dX3_init_25 : decode cX3_init 25 = .ok (.newarray .int, 2) := by decide +kernel
theorem dX3_init_27 : decode cX3_init 27 = .ok (.putfield 16, 3) := by decide +kernel
theorem dX3_init_30 : decode cX3_init 30 = .ok (.aload_n 0, 1) := by decide +kernel
theorem dX3_init_31 : decode cX3_init 31 = .ok (.sipush 128, 3) := by decide +kernel
theorem dX3_init_34 : decode cX3_init 34 = .ok (.newarray .int, 2) := by decide +kernel
theorem dX3_init_36 : decode cX3_init 36 = .ok (.putfield 19, 3) := by decide +kernel
theorem dX3_init_39 : decode cX3_init 39 = .ok (.return_, 1) := by decide +kernel
theorem dX3_clear_0 : decode cX3_clear 0 = .ok (.aload_n 0, 1) := by decide +kernel
theorem dX3_clear_1 : decode cX3_clear 1 = .ok (.iconst 0, 1) := by decide +kernel
theorem dX3_clear_2 : decode cX3_clear 2 = .ok (.putfield 22, 3) := by decide +kernel
theorem dX3_clear_5 : decode cX3_clear 5 = .ok (.return_, 1) := by decide +kernel
theorem dX3_isTold_0 : decode cX3_isTold 0 = .ok (.aload_n 0, 1) := by decide +kernel
theorem dX3_isTold_1 : decode cX3_isTold 1 = .ok (.getfield 22, 3) := by decide +kernel
theorem dX3_isTold_4 : decode cX3_isTold 4 = .ok (.ifCond .le 7, 3) := by decide +kernel
theorem dX3_isTold_7 : decode cX3_isTold 7 = .ok (.iconst 1, 1) := by decide +kernel
theorem dX3_isTold_8 : decode cX3_isTold 8 = .ok (.goto 4, 3) := by decide +kernel
theorem dX3_isTold_11 : decode cX3_isTold 11 = .ok (.iconst 0, 1) := by decide +kernel
theorem dX3_isTold_12 : decode cX3_isTold 12 = .ok (.ireturn, 1) := by decide +kernel
theorem dX3_take_0 : decode cX3_take 0 = .ok (.aload_n 1, 1) := by decide +kernel
theorem dX3_take_1 : decode cX3_take 1 = .ok (.getfield 13, 3) := by decide +kernel
theorem dX3_take_4 : decode cX3_take 4 = .ok (.iconst 0, 1) := by decide +kernel
theorem dX3_take_5 : decode cX3_take 5 = .ok (.aload_n 0, 1) := by decide +kernel
theorem dX3_take_6 : decode cX3_take 6 = .ok (.getfield 13, 3) := by decide +kernel
theorem dX3_take_9 : decode cX3_take 9 = .ok (.iconst 0, 1) := by decide +kernel
theorem dX3_take_10 : decode cX3_take 10 = .ok (.sipush 128, 3) := by decide +kernel
theorem dX3_take_13 : decode cX3_take 13 = .ok (.invokestatic 26, 3) := by decide +kernel
theorem dX3_take_16 : decode cX3_take 16 = .ok (.aload_n 1, 1) := by decide +kernel
theorem dX3_take_17 : decode cX3_take 17 = .ok (.getfield 16, 3) := by decide +kernel
theorem dX3_take_20 : decode cX3_take 20 = .ok (.iconst 0, 1) := by decide +kernel
theorem dX3_take_21 : decode cX3_take 21 = .ok (.aload_n 0, 1) := by decide +kernel
theorem dX3_take_22 : decode cX3_take 22 = .ok (.getfield 16, 3) := by decide +kernel
theorem dX3_take_25 : decode cX3_take 25 = .ok (.iconst 0, 1) := by decide +kernel
theorem dX3_take_26 : decode cX3_take 26 = .ok (.sipush 128, 3) := by decide +kernel
theorem dX3_take_29 : decode cX3_take 29 = .ok (.invokestatic 26, 3) := by decide +kernel
theorem dX3_take_32 : decode cX3_take 32 = .ok (.aload_n 0, 1) := by decide +kernel
theorem dX3_take_33 : decode cX3_take 33 = .ok (.aload_n 1, 1) := by decide +kernel
theorem dX3_take_34 : decode cX3_take 34 = .ok (.getfield 22, 3) := by decide +kernel
theorem dX3_take_37 : decode cX3_take 37 = .ok (.putfield 22, 3) := by decide +kernel
theorem dX3_take_40 : decode cX3_take 40 = .ok (.return_, 1) := by decide +kernel
theorem dX3_add_0 : decode cX3_add 0 = .ok (.aload_n 0, 1) := by decide +kernel
theorem dX3_add_1 : decode cX3_add 1 = .ok (.getfield 22, 3) := by decide +kernel
theorem dX3_add_4 : decode cX3_add 4 = .ok (.sipush 128, 3) := by decide +kernel
theorem dX3_add_7 : decode cX3_add 7 = .ok (.if_icmp .lt 6, 3) := by decide +kernel
theorem dX3_add_10 : decode cX3_add 10 = .ok (.bipush 127, 2) := by decide +kernel
theorem dX3_add_12 : decode cX3_add 12 = .ok (.ireturn, 1) := by decide +kernel
theorem dX3_add_13 : decode cX3_add 13 = .ok (.aload_n 0, 1) := by decide +kernel
theorem dX3_add_14 : decode cX3_add 14 = .ok (.getfield 13, 3) := by decide +kernel
theorem dX3_add_17 : decode cX3_add 17 = .ok (.aload_n 0, 1) := by decide +kernel
theorem dX3_add_18 : decode cX3_add 18 = .ok (.getfield 22, 3) := by decide +kernel
theorem dX3_add_21 : decode cX3_add 21 = .ok (.iload_n 1, 1) := by decide +kernel
theorem dX3_add_22 : decode cX3_add 22 = .ok (.iastore, 1) := by decide +kernel
theorem dX3_add_23 : decode cX3_add 23 = .ok (.aload_n 0, 1) := by decide +kernel
theorem dX3_add_24 : decode cX3_add 24 = .ok (.getfield 16, 3) := by decide +kernel
theorem dX3_add_27 : decode cX3_add 27 = .ok (.aload_n 0, 1) := by decide +kernel
theorem dX3_add_28 : decode cX3_add 28 = .ok (.getfield 22, 3) := by decide +kernel
theorem dX3_add_31 : decode cX3_add 31 = .ok (.iload_n 2, 1) := by decide +kernel
theorem dX3_add_32 : decode cX3_add 32 = .ok (.iastore, 1) := by decide +kernel
theorem dX3_add_33 : decode cX3_add 33 = .ok (.aload_n 0, 1) := by decide +kernel
theorem dX3_add_34 : decode cX3_add 34 = .ok (.dup, 1) := by decide +kernel
theorem dX3_add_35 : decode cX3_add 35 = .ok (.getfield 22, 3) := by decide +kernel
theorem dX3_add_38 : decode cX3_add 38 = .ok (.dup_x1, 1) := by decide +kernel
theorem dX3_add_39 : decode cX3_add 39 = .ok (.iconst 1, 1) := by decide +kernel
theorem dX3_add_40 : decode cX3_add 40 = .ok (.iadd, 1) := by decide +kernel
theorem dX3_add_41 : decode cX3_add 41 = .ok (.putfield 22, 3) := by decide +kernel
theorem dX3_add_44 : decode cX3_add 44 = .ok (.ireturn, 1) := by decide +kernel
theorem dX3_aimTest_0 : decode cX3_aimTest 0 = .ok (.iload_n 1, 1) := by decide +kernel
theorem dX3_aimTest_1 : decode cX3_aimTest 1 = .ok (.ifCond .lt 23, 3) := by decide +kernel
theorem dX3_aimTest_4 : decode cX3_aimTest 4 = .ok (.iload_n 1, 1) := by decide +kernel
theorem dX3_aimTest_5 : decode cX3_aimTest 5 = .ok (.aload_n 0, 1) := by decide +kernel
theorem dX3_aimTest_6 : decode cX3_aimTest 6 = .ok (.getfield 22, 3) := by decide +kernel
theorem dX3_aimTest_9 : decode cX3_aimTest 9 = .ok (.if_icmp .ge 15, 3) := by decide +kernel
theorem dX3_aimTest_12 : decode cX3_aimTest 12 = .ok (.aload_n 0, 1) := by decide +kernel
theorem dX3_aimTest_13 : decode cX3_aimTest 13 = .ok (.getfield 16, 3) := by decide +kernel
theorem dX3_aimTest_16 : decode cX3_aimTest 16 = .ok (.iload_n 1, 1) := by decide +kernel
theorem dX3_aimTest_17 : decode cX3_aimTest 17 = .ok (.aload_n 0, 1) := by decide +kernel
theorem dX3_aimTest_18 : decode cX3_aimTest 18 = .ok (.getfield 22, 3) := by decide +kernel
theorem dX3_aimTest_21 : decode cX3_aimTest 21 = .ok (.iconst 1, 1) := by decide +kernel
theorem dX3_aimTest_22 : decode cX3_aimTest 22 = .ok (.isub, 1) := by decide +kernel
theorem dX3_aimTest_23 : decode cX3_aimTest 23 = .ok (.iastore, 1) := by decide +kernel
theorem dX3_aimTest_24 : decode cX3_aimTest 24 = .ok (.return_, 1) := by decide +kernel
theorem dX3_workOut_0 : decode cX3_workOut 0 = .ok (.iconst 0, 1) := by decide +kernel
theorem dX3_workOut_1 : decode cX3_workOut 1 = .ok (.istore_n 1, 1) := by decide +kernel
theorem dX3_workOut_2 : decode cX3_workOut 2 = .ok (.iconst 0, 1) := by decide +kernel
theorem dX3_workOut_3 : decode cX3_workOut 3 = .ok (.istore_n 2, 1) := by decide +kernel
theorem dX3_workOut_4 : decode cX3_workOut 4 = .ok (.iload_n 2, 1) := by decide +kernel
theorem dX3_workOut_5 : decode cX3_workOut 5 = .ok (.aload_n 0, 1) := by decide +kernel
theorem dX3_workOut_6 : decode cX3_workOut 6 = .ok (.getfield 22, 3) := by decide +kernel
theorem dX3_workOut_9 : decode cX3_workOut 9 = .ok (.if_icmp .ge 219, 3) := by decide +kernel
theorem dX3_workOut_12 : decode cX3_workOut 12 = .ok (.aload_n 0, 1) := by decide +kernel
theorem dX3_workOut_13 : decode cX3_workOut 13 = .ok (.getfield 13, 3) := by decide +kernel
theorem dX3_workOut_16 : decode cX3_workOut 16 = .ok (.iload_n 2, 1) := by decide +kernel
theorem dX3_workOut_17 : decode cX3_workOut 17 = .ok (.iaload, 1) := by decide +kernel
theorem dX3_workOut_18 : decode cX3_workOut 18 = .ok (.istore_n 3, 1) := by decide +kernel
theorem dX3_workOut_19 : decode cX3_workOut 19 = .ok (.iload_n 3, 1) := by decide +kernel
theorem dX3_workOut_20 : decode cX3_workOut 20 = .ok (.bipush 35, 2) := by decide +kernel
theorem dX3_workOut_22 : decode cX3_workOut 22 = .ok (.if_icmp .eq 9, 3) := by decide +kernel
theorem dX3_workOut_25 : decode cX3_workOut 25 = .ok (.iload_n 3, 1) := by decide +kernel
theorem dX3_workOut_26 : decode cX3_workOut 26 = .ok (.bipush 36, 2) := by decide +kernel
theorem dX3_workOut_28 : decode cX3_workOut 28 = .ok (.if_icmp .ne 47, 3) := by decide +kernel
theorem dX3_workOut_31 : decode cX3_workOut 31 = .ok (.iload_n 1, 1) := by decide +kernel
theorem dX3_workOut_32 : decode cX3_workOut 32 = .ok (.sipush 128, 3) := by decide +kernel
theorem dX3_workOut_35 : decode cX3_workOut 35 = .ok (.if_icmp .ge 187, 3) := by decide +kernel
theorem dX3_workOut_38 : decode cX3_workOut 38 = .ok (.aload_n 0, 1) := by decide +kernel
theorem dX3_workOut_39 : decode cX3_workOut 39 = .ok (.getfield 19, 3) := by decide +kernel
theorem dX3_workOut_42 : decode cX3_workOut 42 = .ok (.iload_n 1, 1) := by decide +kernel
theorem dX3_workOut_43 : decode cX3_workOut 43 = .ok (.iinc 1 1, 3) := by decide +kernel
theorem dX3_workOut_46 : decode cX3_workOut 46 = .ok (.iload_n 3, 1) := by decide +kernel
theorem dX3_workOut_47 : decode cX3_workOut 47 = .ok (.bipush 35, 2) := by decide +kernel
theorem dX3_workOut_49 : decode cX3_workOut 49 = .ok (.if_icmp .ne 12, 3) := by decide +kernel
theorem dX3_workOut_52 : decode cX3_workOut 52 = .ok (.aload_n 0, 1) := by decide +kernel
theorem dX3_workOut_53 : decode cX3_workOut 53 = .ok (.getfield 16, 3) := by decide +kernel
theorem dX3_workOut_56 : decode cX3_workOut 56 = .ok (.iload_n 2, 1) := by decide +kernel
theorem dX3_workOut_57 : decode cX3_workOut 57 = .ok (.iaload, 1) := by decide +kernel
theorem dX3_workOut_58 : decode cX3_workOut 58 = .ok (.goto 13, 3) := by decide +kernel
theorem dX3_workOut_61 : decode cX3_workOut 61 = .ok (.aload_n 0, 1) := by decide +kernel
theorem dX3_workOut_62 : decode cX3_workOut 62 = .ok (.aload_n 0, 1) := by decide +kernel
theorem dX3_workOut_63 : decode cX3_workOut 63 = .ok (.getfield 16, 3) := by decide +kernel
theorem dX3_workOut_66 : decode cX3_workOut 66 = .ok (.iload_n 2, 1) := by decide +kernel
theorem dX3_workOut_67 : decode cX3_workOut 67 = .ok (.iaload, 1) := by decide +kernel
theorem dX3_workOut_68 : decode cX3_workOut 68 = .ok (.invokevirtual 32, 3) := by decide +kernel
theorem dX3_workOut_71 : decode cX3_workOut 71 = .ok (.iastore, 1) := by decide +kernel
theorem dX3_workOut_72 : decode cX3_workOut 72 = .ok (.goto 150, 3) := by decide +kernel
theorem dX3_workOut_75 : decode cX3_workOut 75 = .ok (.iload_n 1, 1) := by decide +kernel
theorem dX3_workOut_76 : decode cX3_workOut 76 = .ok (.iconst 1, 1) := by decide +kernel
theorem dX3_workOut_77 : decode cX3_workOut 77 = .ok (.if_icmp .ge 5, 3) := by decide +kernel
theorem dX3_workOut_80 : decode cX3_workOut 80 = .ok (.iconst 0, 1) := by decide +kernel
theorem dX3_workOut_81 : decode cX3_workOut 81 = .ok (.ireturn, 1) := by decide +kernel
theorem dX3_workOut_82 : decode cX3_workOut 82 = .ok (.iload_n 3, 1) := by decide +kernel
theorem dX3_workOut_83 : decode cX3_workOut 83 = .ok (.bipush 59, 2) := by decide +kernel
theorem dX3_workOut_85 : decode cX3_workOut 85 = .ok (.if_icmp .ne 12, 3) := by decide +kernel
theorem dX3_workOut_88 : decode cX3_workOut 88 = .ok (.aload_n 0, 1) := by decide +kernel
theorem dX3_workOut_89 : decode cX3_workOut 89 = .ok (.getfield 19, 3) := by decide +kernel
theorem dX3_workOut_92 : decode cX3_workOut 92 = .ok (.iload_n 1, 1) := by decide +kernel
theorem dX3_workOut_93 : decode cX3_workOut 93 = .ok (.iconst 1, 1) := by decide +kernel
theorem dX3_workOut_94 : decode cX3_workOut 94 = .ok (.isub, 1) := by decide +kernel
theorem dX3_workOut_95 : decode cX3_workOut 95 = .ok (.iaload, 1) := by decide +kernel
theorem dX3_workOut_96 : decode cX3_workOut 96 = .ok (.ireturn, 1) := by decide +kernel
theorem dX3_workOut_97 : decode cX3_workOut 97 = .ok (.iload_n 3, 1) := by decide +kernel
theorem dX3_workOut_98 : decode cX3_workOut 98 = .ok (.bipush 63, 2) := by decide +kernel
theorem dX3_workOut_100 : decode cX3_workOut 100 = .ok (.if_icmp .ne 29, 3) := by decide +kernel
theorem dX3_workOut_103 : decode cX3_workOut 103 = .ok (.iinc 1 (-1), 3) := by decide +kernel
theorem dX3_workOut_106 : decode cX3_workOut 106 = .ok (.aload_n 0, 1) := by decide +kernel
theorem dX3_workOut_107 : decode cX3_workOut 107 = .ok (.getfield 19, 3) := by decide +kernel
theorem dX3_workOut_110 : decode cX3_workOut 110 = .ok (.iload_n 1, 1) := by decide +kernel
theorem dX3_workOut_111 : decode cX3_workOut 111 = .ok (.iaload, 1) := by decide +kernel
theorem dX3_workOut_112 : decode cX3_workOut 112 = .ok (.ifCond .ne 110, 3) := by decide +kernel
theorem dX3_workOut_115 : decode cX3_workOut 115 = .ok (.iload_n 2, 1) := by decide +kernel
theorem dX3_workOut_116 : decode cX3_workOut 116 = .ok (.aload_n 0, 1) := by decide +kernel
theorem dX3_workOut_117 : decode cX3_workOut 117 = .ok (.getfield 16, 3) := by decide +kernel
theorem dX3_workOut_120 : decode cX3_workOut 120 = .ok (.iload_n 2, 1) := by decide +kernel
theorem dX3_workOut_121 : decode cX3_workOut 121 = .ok (.iaload, 1) := by decide +kernel
theorem dX3_workOut_122 : decode cX3_workOut 122 = .ok (.invokestatic 36, 3) := by decide +kernel
theorem dX3_workOut_125 : decode cX3_workOut 125 = .ok (.istore_n 2, 1) := by decide +kernel
theorem dX3_workOut_126 : decode cX3_workOut 126 = .ok (.goto 96, 3) := by decide +kernel
theorem dX3_workOut_129 : decode cX3_workOut 129 = .ok (.iload_n 3, 1) := by decide +kernel
theorem dX3_workOut_130 : decode cX3_workOut 130 = .ok (.bipush 33, 2) := by decide +kernel
theorem dX3_workOut_132 : decode cX3_workOut 132 = .ok (.if_icmp .ne 30, 3) := by decide +kernel
theorem dX3_workOut_135 : decode cX3_workOut 135 = .ok (.aload_n 0, 1) := by decide +kernel
theorem dX3_workOut_136 : decode cX3_workOut 136 = .ok (.getfield 19, 3) := by decide +kernel
theorem dX3_workOut_139 : decode cX3_workOut 139 = .ok (.iload_n 1, 1) := by decide +kernel
theorem dX3_workOut_140 : decode cX3_workOut 140 = .ok (.iconst 1, 1) := by decide +kernel
theorem dX3_workOut_141 : decode cX3_workOut 141 = .ok (.isub, 1) := by decide +kernel
theorem dX3_workOut_142 : decode cX3_workOut 142 = .ok (.aload_n 0, 1) := by decide +kernel
theorem dX3_workOut_143 : decode cX3_workOut 143 = .ok (.getfield 19, 3) := by decide +kernel
theorem dX3_workOut_146 : decode cX3_workOut 146 = .ok (.iload_n 1, 1) := by decide +kernel
theorem dX3_workOut_147 : decode cX3_workOut 147 = .ok (.iconst 1, 1) := by decide +kernel
theorem dX3_workOut_148 : decode cX3_workOut 148 = .ok (.isub, 1) := by decide +kernel
theorem dX3_workOut_149 : decode cX3_workOut 149 = .ok (.iaload, 1) := by decide +kernel
theorem dX3_workOut_150 : decode cX3_workOut 150 = .ok (.ifCond .ne 7, 3) := by decide +kernel
theorem dX3_workOut_153 : decode cX3_workOut 153 = .ok (.iconst 1, 1) := by decide +kernel
theorem dX3_workOut_154 : decode cX3_workOut 154 = .ok (.goto 4, 3) := by decide +kernel
theorem dX3_workOut_157 : decode cX3_workOut 157 = .ok (.iconst 0, 1) := by decide +kernel
theorem dX3_workOut_158 : decode cX3_workOut 158 = .ok (.iastore, 1) := by decide +kernel
theorem dX3_workOut_159 : decode cX3_workOut 159 = .ok (.goto 63, 3) := by decide +kernel
theorem dX3_workOut_162 : decode cX3_workOut 162 = .ok (.iload_n 3, 1) := by decide +kernel
theorem dX3_workOut_163 : decode cX3_workOut 163 = .ok (.bipush 126, 2) := by decide +kernel
theorem dX3_workOut_165 : decode cX3_workOut 165 = .ok (.if_icmp .ne 23, 3) := by decide +kernel
theorem dX3_workOut_168 : decode cX3_workOut 168 = .ok (.aload_n 0, 1) := by decide +kernel
theorem dX3_workOut_169 : decode cX3_workOut 169 = .ok (.getfield 19, 3) := by decide +kernel
theorem dX3_workOut_172 : decode cX3_workOut 172 = .ok (.iload_n 1, 1) := by decide +kernel
theorem dX3_workOut_173 : decode cX3_workOut 173 = .ok (.iconst 1, 1) := by decide +kernel
theorem dX3_workOut_174 : decode cX3_workOut 174 = .ok (.isub, 1) := by decide +kernel
theorem dX3_workOut_175 : decode cX3_workOut 175 = .ok (.aload_n 0, 1) := by decide +kernel
theorem dX3_workOut_176 : decode cX3_workOut 176 = .ok (.getfield 19, 3) := by decide +kernel
theorem dX3_workOut_179 : decode cX3_workOut 179 = .ok (.iload_n 1, 1) := by decide +kernel
theorem dX3_workOut_180 : decode cX3_workOut 180 = .ok (.iconst 1, 1) := by decide +kernel
theorem dX3_workOut_181 : decode cX3_workOut 181 = .ok (.isub, 1) := by decide +kernel
theorem dX3_workOut_182 : decode cX3_workOut 182 = .ok (.iaload, 1) := by decide +kernel
theorem dX3_workOut_183 : decode cX3_workOut 183 = .ok (.ineg, 1) := by decide +kernel
theorem dX3_workOut_184 : decode cX3_workOut 184 = .ok (.iastore, 1) := by decide +kernel
theorem dX3_workOut_185 : decode cX3_workOut 185 = .ok (.goto 37, 3) := by decide +kernel
theorem dX3_workOut_188 : decode cX3_workOut 188 = .ok (.iload_n 1, 1) := by decide +kernel
theorem dX3_workOut_189 : decode cX3_workOut 189 = .ok (.iconst 1, 1) := by decide +kernel
theorem dX3_workOut_190 : decode cX3_workOut 190 = .ok (.if_icmp .le 32, 3) := by decide +kernel
theorem dX3_workOut_193 : decode cX3_workOut 193 = .ok (.iinc 1 (-1), 3) := by decide +kernel
theorem dX3_workOut_196 : decode cX3_workOut 196 = .ok (.aload_n 0, 1) := by decide +kernel
theorem dX3_workOut_197 : decode cX3_workOut 197 = .ok (.getfield 19, 3) := by decide +kernel
theorem dX3_workOut_200 : decode cX3_workOut 200 = .ok (.iload_n 1, 1) := by decide +kernel
theorem dX3_workOut_201 : decode cX3_workOut 201 = .ok (.iconst 1, 1) := by decide +kernel
theorem dX3_workOut_202 : decode cX3_workOut 202 = .ok (.isub, 1) := by decide +kernel
theorem dX3_workOut_203 : decode cX3_workOut 203 = .ok (.iload_n 3, 1) := by decide +kernel
theorem dX3_workOut_204 : decode cX3_workOut 204 = .ok (.aload_n 0, 1) := by decide +kernel
theorem dX3_workOut_205 : decode cX3_workOut 205 = .ok (.getfield 19, 3) := by decide +kernel
theorem dX3_workOut_208 : decode cX3_workOut 208 = .ok (.iload_n 1, 1) := by decide +kernel
theorem dX3_workOut_209 : decode cX3_workOut 209 = .ok (.iconst 1, 1) := by decide +kernel
theorem dX3_workOut_210 : decode cX3_workOut 210 = .ok (.isub, 1) := by decide +kernel
theorem dX3_workOut_211 : decode cX3_workOut 211 = .ok (.iaload, 1) := by decide +kernel
theorem dX3_workOut_212 : decode cX3_workOut 212 = .ok (.aload_n 0, 1) := by decide +kernel
theorem dX3_workOut_213 : decode cX3_workOut 213 = .ok (.getfield 19, 3) := by decide +kernel
theorem dX3_workOut_216 : decode cX3_workOut 216 = .ok (.iload_n 1, 1) := by decide +kernel
theorem dX3_workOut_217 : decode cX3_workOut 217 = .ok (.iaload, 1) := by decide +kernel
theorem dX3_workOut_218 : decode cX3_workOut 218 = .ok (.invokestatic 42, 3) := by decide +kernel
theorem dX3_workOut_221 : decode cX3_workOut 221 = .ok (.iastore, 1) := by decide +kernel
theorem dX3_workOut_222 : decode cX3_workOut 222 = .ok (.iinc 2 1, 3) := by decide +kernel
theorem dX3_workOut_225 : decode cX3_workOut 225 = .ok (.goto (-221), 3) := by decide +kernel
theorem dX3_workOut_228 : decode cX3_workOut 228 = .ok (.iconst 0, 1) := by decide +kernel
theorem dX3_workOut_229 : decode cX3_workOut 229 = .ok (.ireturn, 1) := by decide +kernel
theorem dX3_valueOf_0 : decode cX3_valueOf 0 = .ok (.iload_n 1, 1) := by decide +kernel
theorem dX3_valueOf_1 : decode cX3_valueOf 1 = .ok (.ifCond .lt 18, 3) := by decide +kernel
theorem dX3_valueOf_4 : decode cX3_valueOf 4 = .ok (.iload_n 1, 1) := by decide +kernel
theorem dX3_valueOf_5 : decode cX3_valueOf 5 = .ok (.bipush 6, 2) := by decide +kernel
theorem dX3_valueOf_7 : decode cX3_valueOf 7 = .ok (.if_icmp .ge 12, 3) := by decide +kernel
theorem dX3_valueOf_10 : decode cX3_valueOf 10 = .ok (.aload_n 0, 1) := by decide +kernel
theorem dX3_valueOf_11 : decode cX3_valueOf 11 = .ok (.getfield 9, 3) := by decide +kernel
theorem dX3_valueOf_14 : decode cX3_valueOf 14 = .ok (.iload_n 1, 1) := by decide +kernel
theorem dX3_valueOf_15 : decode cX3_valueOf 15 = .ok (.iaload, 1) := by decide +kernel
theorem dX3_valueOf_16 : decode cX3_valueOf 16 = .ok (.goto 4, 3) := by decide +kernel
theorem dX3_valueOf_19 : decode cX3_valueOf 19 = .ok (.iconst 0, 1) := by decide +kernel
theorem dX3_valueOf_20 : decode cX3_valueOf 20 = .ok (.ireturn, 1) := by decide +kernel
theorem dX3_join_0 : decode cX3_join 0 = .ok (.iload_n 0, 1) := by decide +kernel
theorem dX3_join_1 : decode cX3_join 1 = .ok (.lookupswitch 168 #[(38, 97), (42, 152), (43, 144), (45, 148), (47, 156), (60, 111), (61, 122), (62, 133), (124, 83)], 83) := by decide +kernel
theorem dX3_join_84 : decode cX3_join 84 = .ok (.iload_n 1, 1) := by decide +kernel
theorem dX3_join_85 : decode cX3_join 85 = .ok (.ifCond .ne 7, 3) := by decide +kernel
theorem dX3_join_88 : decode cX3_join 88 = .ok (.iload_n 2, 1) := by decide +kernel
theorem dX3_join_89 : decode cX3_join 89 = .ok (.ifCond .eq 7, 3) := by decide +kernel
theorem dX3_join_92 : decode cX3_join 92 = .ok (.iconst 1, 1) := by decide +kernel
theorem dX3_join_93 : decode cX3_join 93 = .ok (.goto 4, 3) := by decide +kernel
theorem dX3_join_96 : decode cX3_join 96 = .ok (.iconst 0, 1) := by decide +kernel
theorem dX3_join_97 : decode cX3_join 97 = .ok (.ireturn, 1) := by decide +kernel
theorem dX3_join_98 : decode cX3_join 98 = .ok (.iload_n 1, 1) := by decide +kernel
theorem dX3_join_99 : decode cX3_join 99 = .ok (.ifCond .eq 11, 3) := by decide +kernel
theorem dX3_join_102 : decode cX3_join 102 = .ok (.iload_n 2, 1) := by decide +kernel
theorem dX3_join_103 : decode cX3_join 103 = .ok (.ifCond .eq 7, 3) := by decide +kernel
theorem dX3_join_106 : decode cX3_join 106 = .ok (.iconst 1, 1) := by decide +kernel
theorem dX3_join_107 : decode cX3_join 107 = .ok (.goto 4, 3) := by decide +kernel
theorem dX3_join_110 : decode cX3_join 110 = .ok (.iconst 0, 1) := by decide +kernel
theorem dX3_join_111 : decode cX3_join 111 = .ok (.ireturn, 1) := by decide +kernel
theorem dX3_join_112 : decode cX3_join 112 = .ok (.iload_n 1, 1) := by decide +kernel
theorem dX3_join_113 : decode cX3_join 113 = .ok (.iload_n 2, 1) := by decide +kernel
theorem dX3_join_114 : decode cX3_join 114 = .ok (.if_icmp .ge 7, 3) := by decide +kernel
theorem dX3_join_117 : decode cX3_join 117 = .ok (.iconst 1, 1) := by decide +kernel
theorem dX3_join_118 : decode cX3_join 118 = .ok (.goto 4, 3) := by decide +kernel
theorem dX3_join_121 : decode cX3_join 121 = .ok (.iconst 0, 1) := by decide +kernel
theorem dX3_join_122 : decode cX3_join 122 = .ok (.ireturn, 1) := by decide +kernel
theorem dX3_join_123 : decode cX3_join 123 = .ok (.iload_n 1, 1) := by decide +kernel
theorem dX3_join_124 : decode cX3_join 124 = .ok (.iload_n 2, 1) := by decide +kernel
theorem dX3_join_125 : decode cX3_join 125 = .ok (.if_icmp .ne 7, 3) := by decide +kernel
theorem dX3_join_128 : decode cX3_join 128 = .ok (.iconst 1, 1) := by decide +kernel
theorem dX3_join_129 : decode cX3_join 129 = .ok (.goto 4, 3) := by decide +kernel
theorem dX3_join_132 : decode cX3_join 132 = .ok (.iconst 0, 1) := by decide +kernel
theorem dX3_join_133 : decode cX3_join 133 = .ok (.ireturn, 1) := by decide +kernel
theorem dX3_join_134 : decode cX3_join 134 = .ok (.iload_n 1, 1) := by decide +kernel
theorem dX3_join_135 : decode cX3_join 135 = .ok (.iload_n 2, 1) := by decide +kernel
theorem dX3_join_136 : decode cX3_join 136 = .ok (.if_icmp .le 7, 3) := by decide +kernel
theorem dX3_join_139 : decode cX3_join 139 = .ok (.iconst 1, 1) := by decide +kernel
theorem dX3_join_140 : decode cX3_join 140 = .ok (.goto 4, 3) := by decide +kernel
theorem dX3_join_143 : decode cX3_join 143 = .ok (.iconst 0, 1) := by decide +kernel
theorem dX3_join_144 : decode cX3_join 144 = .ok (.ireturn, 1) := by decide +kernel
theorem dX3_join_145 : decode cX3_join 145 = .ok (.iload_n 1, 1) := by decide +kernel
theorem dX3_join_146 : decode cX3_join 146 = .ok (.iload_n 2, 1) := by decide +kernel
theorem dX3_join_147 : decode cX3_join 147 = .ok (.iadd, 1) := by decide +kernel
theorem dX3_join_148 : decode cX3_join 148 = .ok (.ireturn, 1) := by decide +kernel
theorem dX3_join_149 : decode cX3_join 149 = .ok (.iload_n 1, 1) := by decide +kernel
theorem dX3_join_150 : decode cX3_join 150 = .ok (.iload_n 2, 1) := by decide +kernel
theorem dX3_join_151 : decode cX3_join 151 = .ok (.isub, 1) := by decide +kernel
theorem dX3_join_152 : decode cX3_join 152 = .ok (.ireturn, 1) := by decide +kernel
theorem dX3_join_153 : decode cX3_join 153 = .ok (.iload_n 1, 1) := by decide +kernel
theorem dX3_join_154 : decode cX3_join 154 = .ok (.iload_n 2, 1) := by decide +kernel
theorem dX3_join_155 : decode cX3_join 155 = .ok (.imul, 1) := by decide +kernel
theorem dX3_join_156 : decode cX3_join 156 = .ok (.ireturn, 1) := by decide +kernel
theorem dX3_join_157 : decode cX3_join 157 = .ok (.iload_n 2, 1) := by decide +kernel
theorem dX3_join_158 : decode cX3_join 158 = .ok (.ifCond .ne 7, 3) := by decide +kernel
theorem dX3_join_161 : decode cX3_join 161 = .ok (.iconst 0, 1) := by decide +kernel
theorem dX3_join_162 : decode cX3_join 162 = .ok (.goto 6, 3) := by decide +kernel
theorem dX3_join_165 : decode cX3_join 165 = .ok (.iload_n 1, 1) := by decide +kernel
theorem dX3_join_166 : decode cX3_join 166 = .ok (.iload_n 2, 1) := by decide +kernel
theorem dX3_join_167 : decode cX3_join 167 = .ok (.idiv, 1) := by decide +kernel
theorem dX3_join_168 : decode cX3_join 168 = .ok (.ireturn, 1) := by decide +kernel
theorem dX3_join_169 : decode cX3_join 169 = .ok (.iload_n 2, 1) := by decide +kernel
theorem dX3_join_170 : decode cX3_join 170 = .ok (.ifCond .ne 7, 3) := by decide +kernel
theorem dX3_join_173 : decode cX3_join 173 = .ok (.iconst 0, 1) := by decide +kernel
theorem dX3_join_174 : decode cX3_join 174 = .ok (.goto 6, 3) := by decide +kernel
theorem dX3_join_177 : decode cX3_join 177 = .ok (.iload_n 1, 1) := by decide +kernel
theorem dX3_join_178 : decode cX3_join 178 = .ok (.iload_n 2, 1) := by decide +kernel
theorem dX3_join_179 : decode cX3_join 179 = .ok (.irem, 1) := by decide +kernel
theorem dX3_join_180 : decode cX3_join 180 = .ok (.ireturn, 1) := by decide +kernel
theorem dX4_init_0 : decode cX4_init 0 = .ok (.aload_n 0, 1) := by decide +kernel
theorem dX4_init_1 : decode cX4_init 1 = .ok (.invokespecial 3, 3) := by decide +kernel
theorem dX4_init_4 : decode cX4_init 4 = .ok (.aload_n 0, 1) := by decide +kernel
theorem dX4_init_5 : decode cX4_init 5 = .ok (.aload_n 1, 1) := by decide +kernel
theorem dX4_init_6 : decode cX4_init 6 = .ok (.putfield 9, 3) := by decide +kernel
theorem dX4_init_9 : decode cX4_init 9 = .ok (.aload_n 0, 1) := by decide +kernel
theorem dX4_init_10 : decode cX4_init 10 = .ok (.aload_n 2, 1) := by decide +kernel
theorem dX4_init_11 : decode cX4_init 11 = .ok (.putfield 15, 3) := by decide +kernel
theorem dX4_init_14 : decode cX4_init 14 = .ok (.return_, 1) := by decide +kernel
theorem dX4_mayBe_0 : decode cX4_mayBe 0 = .ok (.iload_n 0, 1) := by decide +kernel
theorem dX4_mayBe_1 : decode cX4_mayBe 1 = .ok (.ifCond .lt 41, 3) := by decide +kernel
theorem dX4_mayBe_4 : decode cX4_mayBe 4 = .ok (.iload_n 0, 1) := by decide +kernel
theorem dX4_mayBe_5 : decode cX4_mayBe 5 = .ok (.getstatic 19, 3) := by decide +kernel
theorem dX4_mayBe_8 : decode cX4_mayBe 8 = .ok (.arraylength, 1) := by decide +kernel
theorem dX4_mayBe_9 : decode cX4_mayBe 9 = .ok (.if_icmp .ge 33, 3) := by decide +kernel
theorem dX4_mayBe_12 : decode cX4_mayBe 12 = .ok (.iload_n 0, 1) := by decide +kernel
theorem dX4_mayBe_13 : decode cX4_mayBe 13 = .ok (.getstatic 23, 3) := by decide +kernel
theorem dX4_mayBe_16 : decode cX4_mayBe 16 = .ok (.arraylength, 1) := by decide +kernel
theorem dX4_mayBe_17 : decode cX4_mayBe 17 = .ok (.if_icmp .ge 25, 3) := by decide +kernel
theorem dX4_mayBe_20 : decode cX4_mayBe 20 = .ok (.iload_n 1, 1) := by decide +kernel
theorem dX4_mayBe_21 : decode cX4_mayBe 21 = .ok (.getstatic 19, 3) := by decide +kernel
theorem dX4_mayBe_24 : decode cX4_mayBe 24 = .ok (.iload_n 0, 1) := by decide +kernel
theorem dX4_mayBe_25 : decode cX4_mayBe 25 = .ok (.iaload, 1) := by decide +kernel
theorem dX4_mayBe_26 : decode cX4_mayBe 26 = .ok (.if_icmp .lt 16, 3) := by decide +kernel
theorem dX4_mayBe_29 : decode cX4_mayBe 29 = .ok (.iload_n 1, 1) := by decide +kernel
theorem dX4_mayBe_30 : decode cX4_mayBe 30 = .ok (.getstatic 23, 3) := by decide +kernel
theorem dX4_mayBe_33 : decode cX4_mayBe 33 = .ok (.iload_n 0, 1) := by decide +kernel
theorem dX4_mayBe_34 : decode cX4_mayBe 34 = .ok (.iaload, 1) := by decide +kernel
theorem dX4_mayBe_35 : decode cX4_mayBe 35 = .ok (.if_icmp .gt 7, 3) := by decide +kernel
theorem dX4_mayBe_38 : decode cX4_mayBe 38 = .ok (.iconst 1, 1) := by decide +kernel
theorem dX4_mayBe_39 : decode cX4_mayBe 39 = .ok (.goto 4, 3) := by decide +kernel
theorem dX4_mayBe_42 : decode cX4_mayBe 42 = .ok (.iconst 0, 1) := by decide +kernel
theorem dX4_mayBe_43 : decode cX4_mayBe 43 = .ok (.ireturn, 1) := by decide +kernel
theorem dX4_isThere_0 : decode cX4_isThere 0 = .ok (.iload_n 2, 1) := by decide +kernel
theorem dX4_isThere_1 : decode cX4_isThere 1 = .ok (.ifCond .lt 9, 3) := by decide +kernel
theorem dX4_isThere_4 : decode cX4_isThere 4 = .ok (.iload_n 2, 1) := by decide +kernel
theorem dX4_isThere_5 : decode cX4_isThere 5 = .ok (.bipush 11, 2) := by decide +kernel
theorem dX4_isThere_7 : decode cX4_isThere 7 = .ok (.if_icmp .le 5, 3) := by decide +kernel
theorem dX4_isThere_10 : decode cX4_isThere 10 = .ok (.iconst 0, 1) := by decide +kernel
theorem dX4_isThere_11 : decode cX4_isThere 11 = .ok (.ireturn, 1) := by decide +kernel
theorem dX4_isThere_12 : decode cX4_isThere 12 = .ok (.iload_n 2, 1) := by decide +kernel
theorem dX4_isThere_13 : decode cX4_isThere 13 = .ok (.ifCond .ne 12, 3) := by decide +kernel
theorem dX4_isThere_16 : decode cX4_isThere 16 = .ok (.aload_n 0, 1) := by decide +kernel
theorem dX4_isThere_17 : decode cX4_isThere 17 = .ok (.getfield 9, 3) := by decide +kernel
theorem dX4_isThere_20 : decode cX4_isThere 20 = .ok (.iload_n 1, 1) := by decide +kernel
theorem dX4_isThere_21 : decode cX4_isThere 21 = .ok (.invokevirtual 26, 3) := by decide +kernel
theorem dX4_isThere_24 : decode cX4_isThere 24 = .ok (.ireturn, 1) := by decide +kernel
theorem dX4_isThere_25 : decode cX4_isThere 25 = .ok (.iload_n 2, 1) := by decide +kernel
theorem dX4_isThere_26 : decode cX4_isThere 26 = .ok (.bipush 8, 2) := by decide +kernel
theorem dX4_isThere_28 : decode cX4_isThere 28 = .ok (.if_icmp .ge 14, 3) := by decide +kernel
theorem dX4_isThere_31 : decode cX4_isThere 31 = .ok (.aload_n 0, 1) := by decide +kernel
theorem dX4_isThere_32 : decode cX4_isThere 32 = .ok (.getfield 9, 3) := by decide +kernel
theorem dX4_isThere_35 : decode cX4_isThere 35 = .ok (.iload_n 1, 1) := by decide +kernel
theorem dX4_isThere_36 : decode cX4_isThere 36 = .ok (.invokevirtual 32, 3) := by decide +kernel
theorem dX4_isThere_39 : decode cX4_isThere 39 = .ok (.goto 12, 3) := by decide +kernel
theorem dX4_isThere_42 : decode cX4_isThere 42 = .ok (.iload_n 1, 1) := by decide +kernel
theorem dX4_isThere_43 : decode cX4_isThere 43 = .ok (.ifCond .ne 7, 3) := by decide +kernel
theorem dX4_isThere_46 : decode cX4_isThere 46 = .ok (.iconst 1, 1) := by decide +kernel
theorem dX4_isThere_47 : decode cX4_isThere 47 = .ok (.goto 4, 3) := by decide +kernel
theorem dX4_isThere_50 : decode cX4_isThere 50 = .ok (.iconst 0, 1) := by decide +kernel
theorem dX4_isThere_51 : decode cX4_isThere 51 = .ok (.ireturn, 1) := by decide +kernel
theorem dX4_read_0 : decode cX4_read 0 = .ok (.iload_n 2, 1) := by decide +kernel
theorem dX4_read_1 : decode cX4_read 1 = .ok (.tableswitch 63 8 11 #[31, 39, 47, 55], 31) := by decide +kernel
theorem dX4_read_32 : decode cX4_read 32 = .ok (.aload_n 0, 1) := by decide +kernel
theorem dX4_read_33 : decode cX4_read 33 = .ok (.getfield 15, 3) := by decide +kernel
theorem dX4_read_36 : decode cX4_read 36 = .ok (.getfield 35, 3) := by decide +kernel
theorem dX4_read_39 : decode cX4_read 39 = .ok (.ireturn, 1) := by decide +kernel
theorem dX4_read_40 : decode cX4_read 40 = .ok (.aload_n 0, 1) := by decide +kernel
theorem dX4_read_41 : decode cX4_read 41 = .ok (.getfield 9, 3) := by decide +kernel
theorem dX4_read_44 : decode cX4_read 44 = .ok (.getfield 41, 3) := by decide +kernel
theorem dX4_read_47 : decode cX4_read 47 = .ok (.ireturn, 1) := by decide +kernel
theorem dX4_read_48 : decode cX4_read 48 = .ok (.aload_n 0, 1) := by decide +kernel
theorem dX4_read_49 : decode cX4_read 49 = .ok (.getfield 9, 3) := by decide +kernel
theorem dX4_read_52 : decode cX4_read 52 = .ok (.getfield 44, 3) := by decide +kernel
theorem dX4_read_55 : decode cX4_read 55 = .ok (.ireturn, 1) := by decide +kernel
theorem dX4_read_56 : decode cX4_read 56 = .ok (.aload_n 0, 1) := by decide +kernel
theorem dX4_read_57 : decode cX4_read 57 = .ok (.getfield 15, 3) := by decide +kernel
theorem dX4_read_60 : decode cX4_read 60 = .ok (.getfield 47, 3) := by decide +kernel
theorem dX4_read_63 : decode cX4_read 63 = .ok (.ireturn, 1) := by decide +kernel
theorem dX4_read_64 : decode cX4_read 64 = .ok (.aload_n 0, 1) := by decide +kernel
theorem dX4_read_65 : decode cX4_read 65 = .ok (.iload_n 1, 1) := by decide +kernel
theorem dX4_read_66 : decode cX4_read 66 = .ok (.iload_n 2, 1) := by decide +kernel
theorem dX4_read_67 : decode cX4_read 67 = .ok (.invokevirtual 50, 3) := by decide +kernel
theorem dX4_read_70 : decode cX4_read 70 = .ok (.ifCond .eq 13, 3) := by decide +kernel
theorem dX4_read_73 : decode cX4_read 73 = .ok (.aload_n 0, 1) := by decide +kernel
theorem dX4_read_74 : decode cX4_read 74 = .ok (.iload_n 2, 1) := by decide +kernel
theorem dX4_read_75 : decode cX4_read 75 = .ok (.invokevirtual 54, 3) := by decide +kernel
theorem dX4_read_78 : decode cX4_read 78 = .ok (.iload_n 1, 1) := by decide +kernel
theorem dX4_read_79 : decode cX4_read 79 = .ok (.iaload, 1) := by decide +kernel
theorem dX4_read_80 : decode cX4_read 80 = .ok (.goto 4, 3) := by decide +kernel
theorem dX4_read_83 : decode cX4_read 83 = .ok (.iconst 0, 1) := by decide +kernel
theorem dX4_read_84 : decode cX4_read 84 = .ok (.ireturn, 1) := by decide +kernel
theorem dX4_write_0 : decode cX4_write 0 = .ok (.iload_n 2, 1) := by decide +kernel
theorem dX4_write_1 : decode cX4_write 1 = .ok (.tableswitch 75 8 11 #[31, 42, 53, 64], 31) := by decide +kernel
theorem dX4_write_32 : decode cX4_write 32 = .ok (.aload_n 0, 1) := by decide +kernel
theorem dX4_write_33 : decode cX4_write 33 = .ok (.getfield 15, 3) := by decide +kernel
theorem dX4_write_36 : decode cX4_write 36 = .ok (.iload_n 3, 1) := by decide +kernel
theorem dX4_write_37 : decode cX4_write 37 = .ok (.putfield 35, 3) := by decide +kernel
theorem dX4_write_40 : decode cX4_write 40 = .ok (.goto 53, 3) := by decide +kernel
theorem dX4_write_43 : decode cX4_write 43 = .ok (.aload_n 0, 1) := by decide +kernel
theorem dX4_write_44 : decode cX4_write 44 = .ok (.getfield 9, 3) := by decide +kernel
theorem dX4_write_47 : decode cX4_write 47 = .ok (.iload_n 3, 1) := by decide +kernel
theorem dX4_write_48 : decode cX4_write 48 = .ok (.putfield 41, 3) := by decide +kernel
theorem dX4_write_51 : decode cX4_write 51 = .ok (.goto 42, 3) := by decide +kernel
theorem dX4_write_54 : decode cX4_write 54 = .ok (.aload_n 0, 1) := by decide +kernel
theorem dX4_write_55 : decode cX4_write 55 = .ok (.getfield 9, 3) := by decide +kernel
theorem dX4_write_58 : decode cX4_write 58 = .ok (.iload_n 3, 1) := by decide +kernel
theorem dX4_write_59 : decode cX4_write 59 = .ok (.putfield 44, 3) := by decide +kernel
theorem dX4_write_62 : decode cX4_write 62 = .ok (.goto 31, 3) := by decide +kernel
theorem dX4_write_65 : decode cX4_write 65 = .ok (.aload_n 0, 1) := by decide +kernel
theorem dX4_write_66 : decode cX4_write 66 = .ok (.getfield 15, 3) := by decide +kernel
theorem dX4_write_69 : decode cX4_write 69 = .ok (.iload_n 3, 1) := by decide +kernel
theorem dX4_write_70 : decode cX4_write 70 = .ok (.putfield 47, 3) := by decide +kernel
theorem dX4_write_73 : decode cX4_write 73 = .ok (.goto 20, 3) := by decide +kernel
theorem dX4_write_76 : decode cX4_write 76 = .ok (.aload_n 0, 1) := by decide +kernel
theorem dX4_write_77 : decode cX4_write 77 = .ok (.iload_n 1, 1) := by decide +kernel
theorem dX4_write_78 : decode cX4_write 78 = .ok (.iload_n 2, 1) := by decide +kernel
theorem dX4_write_79 : decode cX4_write 79 = .ok (.invokevirtual 50, 3) := by decide +kernel
theorem dX4_write_82 : decode cX4_write 82 = .ok (.ifCond .eq 11, 3) := by decide +kernel
theorem dX4_write_85 : decode cX4_write 85 = .ok (.aload_n 0, 1) := by decide +kernel
theorem dX4_write_86 : decode cX4_write 86 = .ok (.iload_n 2, 1) := by decide +kernel
theorem dX4_write_87 : decode cX4_write 87 = .ok (.invokevirtual 54, 3) := by decide +kernel
theorem dX4_write_90 : decode cX4_write 90 = .ok (.iload_n 1, 1) := by decide +kernel
theorem dX4_write_91 : decode cX4_write 91 = .ok (.iload_n 3, 1) := by decide +kernel
theorem dX4_write_92 : decode cX4_write 92 = .ok (.iastore, 1) := by decide +kernel
theorem dX4_write_93 : decode cX4_write 93 = .ok (.return_, 1) := by decide +kernel
theorem dX4_listOf_0 : decode cX4_listOf 0 = .ok (.iload_n 1, 1) := by decide +kernel
theorem dX4_listOf_1 : decode cX4_listOf 1 = .ok (.tableswitch 99 0 6 #[43, 51, 59, 67, 75, 83, 91], 43) := by decide +kernel
theorem dX4_listOf_44 : decode cX4_listOf 44 = .ok (.aload_n 0, 1) := by decide +kernel
theorem dX4_listOf_45 : decode cX4_listOf 45 = .ok (.getfield 15, 3) := by decide +kernel
theorem dX4_listOf_48 : decode cX4_listOf 48 = .ok (.getfield 58, 3) := by decide +kernel
theorem dX4_listOf_51 : decode cX4_listOf 51 = .ok (.areturn, 1) := by decide +kernel
theorem dX4_listOf_52 : decode cX4_listOf 52 = .ok (.aload_n 0, 1) := by decide +kernel
theorem dX4_listOf_53 : decode cX4_listOf 53 = .ok (.getfield 9, 3) := by decide +kernel
theorem dX4_listOf_56 : decode cX4_listOf 56 = .ok (.getfield 61, 3) := by decide +kernel
theorem dX4_listOf_59 : decode cX4_listOf 59 = .ok (.areturn, 1) := by decide +kernel
theorem dX4_listOf_60 : decode cX4_listOf 60 = .ok (.aload_n 0, 1) := by decide +kernel
theorem dX4_listOf_61 : decode cX4_listOf 61 = .ok (.getfield 9, 3) := by decide +kernel
theorem dX4_listOf_64 : decode cX4_listOf 64 = .ok (.getfield 64, 3) := by decide +kernel
theorem dX4_listOf_67 : decode cX4_listOf 67 = .ok (.areturn, 1) := by decide +kernel
theorem dX4_listOf_68 : decode cX4_listOf 68 = .ok (.aload_n 0, 1) := by decide +kernel
theorem dX4_listOf_69 : decode cX4_listOf 69 = .ok (.getfield 9, 3) := by decide +kernel
theorem dX4_listOf_72 : decode cX4_listOf 72 = .ok (.getfield 67, 3) := by decide +kernel
theorem dX4_listOf_75 : decode cX4_listOf 75 = .ok (.areturn, 1) := by decide +kernel
theorem dX4_listOf_76 : decode cX4_listOf 76 = .ok (.aload_n 0, 1) := by decide +kernel
theorem dX4_listOf_77 : decode cX4_listOf 77 = .ok (.getfield 9, 3) := by decide +kernel
theorem dX4_listOf_80 : decode cX4_listOf 80 = .ok (.getfield 70, 3) := by decide +kernel
theorem dX4_listOf_83 : decode cX4_listOf 83 = .ok (.areturn, 1) := by decide +kernel
theorem dX4_listOf_84 : decode cX4_listOf 84 = .ok (.aload_n 0, 1) := by decide +kernel
theorem dX4_listOf_85 : decode cX4_listOf 85 = .ok (.getfield 9, 3) := by decide +kernel
theorem dX4_listOf_88 : decode cX4_listOf 88 = .ok (.getfield 73, 3) := by decide +kernel
theorem dX4_listOf_91 : decode cX4_listOf 91 = .ok (.areturn, 1) := by decide +kernel
theorem dX4_listOf_92 : decode cX4_listOf 92 = .ok (.aload_n 0, 1) := by decide +kernel
theorem dX4_listOf_93 : decode cX4_listOf 93 = .ok (.getfield 15, 3) := by decide +kernel
theorem dX4_listOf_96 : decode cX4_listOf 96 = .ok (.getfield 76, 3) := by decide +kernel
theorem dX4_listOf_99 : decode cX4_listOf 99 = .ok (.areturn, 1) := by decide +kernel
theorem dX4_listOf_100 : decode cX4_listOf 100 = .ok (.aload_n 0, 1) := by decide +kernel
theorem dX4_listOf_101 : decode cX4_listOf 101 = .ok (.getfield 15, 3) := by decide +kernel
theorem dX4_listOf_104 : decode cX4_listOf 104 = .ok (.getfield 79, 3) := by decide +kernel
theorem dX4_listOf_107 : decode cX4_listOf 107 = .ok (.areturn, 1) := by decide +kernel
theorem dX5_init_0 : decode cX5_init 0 = .ok (.aload_n 0, 1) := by decide +kernel
theorem dX5_init_1 : decode cX5_init 1 = .ok (.invokespecial 3, 3) := by decide +kernel
theorem dX5_init_4 : decode cX5_init 4 = .ok (.aload_n 0, 1) := by decide +kernel
theorem dX5_init_5 : decode cX5_init 5 = .ok (.bipush 6, 2) := by decide +kernel
theorem dX5_init_7 : decode cX5_init 7 = .ok (.newarray .int, 2) := by decide +kernel
theorem dX5_init_9 : decode cX5_init 9 = .ok (.putfield 11, 3) := by decide +kernel
theorem dX5_init_12 : decode cX5_init 12 = .ok (.aload_n 0, 1) := by decide +kernel
theorem dX5_init_13 : decode cX5_init 13 = .ok (.bipush 6, 2) := by decide +kernel
theorem dX5_init_15 : decode cX5_init 15 = .ok (.newarray .int, 2) := by decide +kernel
theorem dX5_init_17 : decode cX5_init 17 = .ok (.putfield 15, 3) := by decide +kernel
theorem dX5_init_20 : decode cX5_init 20 = .ok (.aload_n 0, 1) := by decide +kernel
theorem dX5_init_21 : decode cX5_init 21 = .ok (.sipush 360, 3) := by decide +kernel
theorem dX5_init_24 : decode cX5_init 24 = .ok (.newarray .long, 2) := by decide +kernel
theorem dX5_init_26 : decode cX5_init 26 = .ok (.putfield 18, 3) := by decide +kernel
theorem dX5_init_29 : decode cX5_init 29 = .ok (.iconst 0, 1) := by decide +kernel
theorem dX5_init_30 : decode cX5_init 30 = .ok (.istore_n 1, 1) := by decide +kernel
theorem dX5_init_31 : decode cX5_init 31 = .ok (.iload_n 1, 1) := by decide +kernel
theorem dX5_init_32 : decode cX5_init 32 = .ok (.bipush 6, 2) := by decide +kernel
theorem dX5_init_34 : decode cX5_init 34 = .ok (.if_icmp .ge 17, 3) := by decide +kernel
theorem dX5_init_37 : decode cX5_init 37 = .ok (.aload_n 0, 1) := by decide +kernel
theorem dX5_init_38 : decode cX5_init 38 = .ok (.getfield 11, 3) := by decide +kernel
theorem dX5_init_41 : decode cX5_init 41 = .ok (.iload_n 1, 1) := by decide +kernel
theorem dX5_init_42 : decode cX5_init 42 = .ok (.bipush 6, 2) := by decide +kernel
theorem dX5_init_44 : decode cX5_init 44 = .ok (.iastore, 1) := by decide +kernel
theorem dX5_init_45 : decode cX5_init 45 = .ok (.iinc 1 1, 3) := by decide +kernel
theorem dX5_init_48 : decode cX5_init 48 = .ok (.goto (-17), 3) := by decide +kernel
theorem dX5_init_51 : decode cX5_init 51 = .ok (.return_, 1) := by decide +kernel
theorem dX5_isShelf_0 : decode cX5_isShelf 0 = .ok (.iload_n 0, 1) := by decide +kernel
theorem dX5_isShelf_1 : decode cX5_isShelf 1 = .ok (.ifCond .lt 13, 3) := by decide +kernel
theorem dX5_isShelf_4 : decode cX5_isShelf 4 = .ok (.iload_n 0, 1) := by decide +kernel
theorem dX5_isShelf_5 : decode cX5_isShelf 5 = .ok (.bipush 6, 2) := by decide +kernel
theorem dX5_isShelf_7 : decode cX5_isShelf 7 = .ok (.if_icmp .ge 7, 3) := by decide +kernel
theorem dX5_isShelf_10 : decode cX5_isShelf 10 = .ok (.iconst 1, 1) := by decide +kernel
theorem dX5_isShelf_11 : decode cX5_isShelf 11 = .ok (.goto 4, 3) := by decide +kernel
theorem dX5_isShelf_14 : decode cX5_isShelf 14 = .ok (.iconst 0, 1) := by decide +kernel
theorem dX5_isShelf_15 : decode cX5_isShelf 15 = .ok (.ireturn, 1) := by decide +kernel
theorem dX5_isEmpty_0 : decode cX5_isEmpty 0 = .ok (.iload_n 1, 1) := by decide +kernel
theorem dX5_isEmpty_1 : decode cX5_isEmpty 1 = .ok (.invokestatic 22, 3) := by decide +kernel
theorem dX5_isEmpty_4 : decode cX5_isEmpty 4 = .ok (.ifCond .eq 14, 3) := by decide +kernel
theorem dX5_isEmpty_7 : decode cX5_isEmpty 7 = .ok (.aload_n 0, 1) := by decide +kernel
theorem dX5_isEmpty_8 : decode cX5_isEmpty 8 = .ok (.getfield 11, 3) := by decide +kernel
theorem dX5_isEmpty_11 : decode cX5_isEmpty 11 = .ok (.iload_n 1, 1) := by decide +kernel
theorem dX5_isEmpty_12 : decode cX5_isEmpty 12 = .ok (.iaload, 1) := by decide +kernel
theorem dX5_isEmpty_13 : decode cX5_isEmpty 13 = .ok (.bipush 6, 2) := by decide +kernel
theorem dX5_isEmpty_15 : decode cX5_isEmpty 15 = .ok (.if_icmp .ne 7, 3) := by decide +kernel
theorem dX5_isEmpty_18 : decode cX5_isEmpty 18 = .ok (.iconst 1, 1) := by decide +kernel
theorem dX5_isEmpty_19 : decode cX5_isEmpty 19 = .ok (.goto 4, 3) := by decide +kernel
theorem dX5_isEmpty_22 : decode cX5_isEmpty 22 = .ok (.iconst 0, 1) := by decide +kernel
theorem dX5_isEmpty_23 : decode cX5_isEmpty 23 = .ok (.ireturn, 1) := by decide +kernel
theorem dX5_isRow_0 : decode cX5_isRow 0 = .ok (.iload_n 1, 1) := by decide +kernel
theorem dX5_isRow_1 : decode cX5_isRow 1 = .ok (.ifCond .lt 23, 3) := by decide +kernel
theorem dX5_isRow_4 : decode cX5_isRow 4 = .ok (.iload_n 1, 1) := by decide +kernel
theorem dX5_isRow_5 : decode cX5_isRow 5 = .ok (.bipush 6, 2) := by decide +kernel
theorem dX5_isRow_7 : decode cX5_isRow 7 = .ok (.if_icmp .ge 17, 3) := by decide +kernel
theorem dX5_isRow_10 : decode cX5_isRow 10 = .ok (.aload_n 0, 1) := by decide +kernel
theorem dX5_isRow_11 : decode cX5_isRow 11 = .ok (.getfield 11, 3) := by decide +kernel
theorem dX5_isRow_14 : decode cX5_isRow 14 = .ok (.iload_n 1, 1) := by decide +kernel
theorem dX5_isRow_15 : decode cX5_isRow 15 = .ok (.iaload, 1) := by decide +kernel
theorem dX5_isRow_16 : decode cX5_isRow 16 = .ok (.iconst 5, 1) := by decide +kernel
theorem dX5_isRow_17 : decode cX5_isRow 17 = .ok (.if_icmp .ge 7, 3) := by decide +kernel
theorem dX5_isRow_20 : decode cX5_isRow 20 = .ok (.iconst 1, 1) := by decide +kernel
theorem dX5_isRow_21 : decode cX5_isRow 21 = .ok (.goto 4, 3) := by decide +kernel
theorem dX5_isRow_24 : decode cX5_isRow 24 = .ok (.iconst 0, 1) := by decide +kernel
theorem dX5_isRow_25 : decode cX5_isRow 25 = .ok (.ireturn, 1) := by decide +kernel
theorem dX5_bodyOn_0 : decode cX5_bodyOn 0 = .ok (.iload_n 1, 1) := by decide +kernel
theorem dX5_bodyOn_1 : decode cX5_bodyOn 1 = .ok (.invokestatic 22, 3) := by decide +kernel
theorem dX5_bodyOn_4 : decode cX5_bodyOn 4 = .ok (.ifCond .eq 22, 3) := by decide +kernel
theorem dX5_bodyOn_7 : decode cX5_bodyOn 7 = .ok (.aload_n 0, 1) := by decide +kernel
theorem dX5_bodyOn_8 : decode cX5_bodyOn 8 = .ok (.getfield 11, 3) := by decide +kernel
theorem dX5_bodyOn_11 : decode cX5_bodyOn 11 = .ok (.iload_n 1, 1) := by decide +kernel
theorem dX5_bodyOn_12 : decode cX5_bodyOn 12 = .ok (.iaload, 1) := by decide +kernel
theorem dX5_bodyOn_13 : decode cX5_bodyOn 13 = .ok (.iconst 5, 1) := by decide +kernel
theorem dX5_bodyOn_14 : decode cX5_bodyOn 14 = .ok (.if_icmp .ne 12, 3) := by decide +kernel
theorem dX5_bodyOn_17 : decode cX5_bodyOn 17 = .ok (.aload_n 0, 1) := by decide +kernel
theorem dX5_bodyOn_18 : decode cX5_bodyOn 18 = .ok (.getfield 15, 3) := by decide +kernel
theorem dX5_bodyOn_21 : decode cX5_bodyOn 21 = .ok (.iload_n 1, 1) := by decide +kernel
theorem dX5_bodyOn_22 : decode cX5_bodyOn 22 = .ok (.iaload, 1) := by decide +kernel
theorem dX5_bodyOn_23 : decode cX5_bodyOn 23 = .ok (.goto 4, 3) := by decide +kernel
theorem dX5_bodyOn_26 : decode cX5_bodyOn 26 = .ok (.iconst (-1), 1) := by decide +kernel
theorem dX5_bodyOn_27 : decode cX5_bodyOn 27 = .ok (.ireturn, 1) := by decide +kernel
theorem dX5_lengthOf_0 : decode cX5_lengthOf 0 = .ok (.aload_n 0, 1) := by decide +kernel
theorem dX5_lengthOf_1 : decode cX5_lengthOf 1 = .ok (.iload_n 1, 1) := by decide +kernel
theorem dX5_lengthOf_2 : decode cX5_lengthOf 2 = .ok (.invokevirtual 26, 3) := by decide +kernel
theorem dX5_lengthOf_5 : decode cX5_lengthOf 5 = .ok (.ifCond .eq 12, 3) := by decide +kernel
theorem dX5_lengthOf_8 : decode cX5_lengthOf 8 = .ok (.aload_n 0, 1) := by decide +kernel
theorem dX5_lengthOf_9 : decode cX5_lengthOf 9 = .ok (.getfield 15, 3) := by decide +kernel
theorem dX5_lengthOf_12 : decode cX5_lengthOf 12 = .ok (.iload_n 1, 1) := by decide +kernel
theorem dX5_lengthOf_13 : decode cX5_lengthOf 13 = .ok (.iaload, 1) := by decide +kernel
theorem dX5_lengthOf_14 : decode cX5_lengthOf 14 = .ok (.goto 4, 3) := by decide +kernel
theorem dX5_lengthOf_17 : decode cX5_lengthOf 17 = .ok (.iconst 0, 1) := by decide +kernel
theorem dX5_lengthOf_18 : decode cX5_lengthOf 18 = .ok (.ireturn, 1) := by decide +kernel
theorem dX5_empty_0 : decode cX5_empty 0 = .ok (.iload_n 1, 1) := by decide +kernel
theorem dX5_empty_1 : decode cX5_empty 1 = .ok (.invokestatic 22, 3) := by decide +kernel
theorem dX5_empty_4 : decode cX5_empty 4 = .ok (.ifCond .eq 11, 3) := by decide +kernel
theorem dX5_empty_7 : decode cX5_empty 7 = .ok (.aload_n 0, 1) := by decide +kernel
theorem dX5_empty_8 : decode cX5_empty 8 = .ok (.getfield 11, 3) := by decide +kernel
theorem dX5_empty_11 : decode cX5_empty 11 = .ok (.iload_n 1, 1) := by decide +kernel
theorem dX5_empty_12 : decode cX5_empty 12 = .ok (.bipush 6, 2) := by decide +kernel
theorem dX5_empty_14 : decode cX5_empty 14 = .ok (.iastore, 1) := by decide +kernel
theorem dX5_empty_15 : decode cX5_empty 15 = .ok (.return_, 1) := by decide +kernel
theorem dX5_layBody_0 : decode cX5_layBody 0 = .ok (.iload_n 1, 1) := by decide +kernel
theorem dX5_layBody_1 : decode cX5_layBody 1 = .ok (.invokestatic 22, 3) := by decide +kernel
theorem dX5_layBody_4 : decode cX5_layBody 4 = .ok (.ifCond .ne 4, 3) := by decide +kernel
theorem dX5_layBody_7 : decode cX5_layBody 7 = .ok (.return_, 1) := by decide +kernel
theorem dX5_layBody_8 : decode cX5_layBody 8 = .ok (.aload_n 0, 1) := by decide +kernel
theorem dX5_layBody_9 : decode cX5_layBody 9 = .ok (.getfield 11, 3) := by decide +kernel
theorem dX5_layBody_12 : decode cX5_layBody 12 = .ok (.iload_n 1, 1) := by decide +kernel
theorem dX5_layBody_13 : decode cX5_layBody 13 = .ok (.iconst 5, 1) := by decide +kernel
theorem dX5_layBody_14 : decode cX5_layBody 14 = .ok (.iastore, 1) := by decide +kernel
theorem dX5_layBody_15 : decode cX5_layBody 15 = .ok (.aload_n 0, 1) := by decide +kernel
theorem dX5_layBody_16 : decode cX5_layBody 16 = .ok (.getfield 15, 3) := by decide +kernel
theorem dX5_layBody_19 : decode cX5_layBody 19 = .ok (.iload_n 1, 1) := by decide +kernel
theorem dX5_layBody_20 : decode cX5_layBody 20 = .ok (.iload_n 2, 1) := by decide +kernel
theorem dX5_layBody_21 : decode cX5_layBody 21 = .ok (.iastore, 1) := by decide +kernel
theorem dX5_layBody_22 : decode cX5_layBody 22 = .ok (.return_, 1) := by decide +kernel
theorem dX5_layRow_0 : decode cX5_layRow 0 = .ok (.iload_n 1, 1) := by decide +kernel
theorem dX5_layRow_1 : decode cX5_layRow 1 = .ok (.invokestatic 22, 3) := by decide +kernel
theorem dX5_layRow_4 : decode cX5_layRow 4 = .ok (.ifCond .eq 13, 3) := by decide +kernel
theorem dX5_layRow_7 : decode cX5_layRow 7 = .ok (.iload_n 3, 1) := by decide +kernel
theorem dX5_layRow_8 : decode cX5_layRow 8 = .ok (.ifCond .lt 9, 3) := by decide +kernel
theorem dX5_layRow_11 : decode cX5_layRow 11 = .ok (.iload_n 3, 1) := by decide +kernel
theorem dX5_layRow_12 : decode cX5_layRow 12 = .ok (.bipush 60, 2) := by decide +kernel
theorem dX5_layRow_14 : decode cX5_layRow 14 = .ok (.if_icmp .le 4, 3) := by decide +kernel
theorem dX5_layRow_17 : decode cX5_layRow 17 = .ok (.return_, 1) := by decide +kernel
theorem dX5_layRow_18 : decode cX5_layRow 18 = .ok (.aload_n 0, 1) := by decide +kernel
theorem dX5_layRow_19 : decode cX5_layRow 19 = .ok (.getfield 11, 3) := by decide +kernel
theorem dX5_layRow_22 : decode cX5_layRow 22 = .ok (.iload_n 1, 1) := by decide +kernel
theorem dX5_layRow_23 : decode cX5_layRow 23 = .ok (.iload_n 2, 1) := by decide +kernel
theorem dX5_layRow_24 : decode cX5_layRow 24 = .ok (.iastore, 1) := by decide +kernel
theorem dX5_layRow_25 : decode cX5_layRow 25 = .ok (.aload_n 0, 1) := by decide +kernel
theorem dX5_layRow_26 : decode cX5_layRow 26 = .ok (.getfield 15, 3) := by decide +kernel
theorem dX5_layRow_29 : decode cX5_layRow 29 = .ok (.iload_n 1, 1) := by decide +kernel
theorem dX5_layRow_30 : decode cX5_layRow 30 = .ok (.iload_n 3, 1) := by decide +kernel
theorem dX5_layRow_31 : decode cX5_layRow 31 = .ok (.iastore, 1) := by decide +kernel
theorem dX5_layRow_32 : decode cX5_layRow 32 = .ok (.iconst 0, 1) := by decide +kernel
theorem dX5_layRow_33 : decode cX5_layRow 33 = .ok (.istore 4, 2) := by decide +kernel
theorem dX5_layRow_35 : decode cX5_layRow 35 = .ok (.iload 4, 2) := by decide +kernel
theorem dX5_layRow_37 : decode cX5_layRow 37 = .ok (.iload_n 3, 1) := by decide +kernel
theorem dX5_layRow_38 : decode cX5_layRow 38 = .ok (.if_icmp .ge 22, 3) := by decide +kernel
theorem dX5_layRow_41 : decode cX5_layRow 41 = .ok (.aload_n 0, 1) := by decide +kernel
theorem dX5_layRow_42 : decode cX5_layRow 42 = .ok (.getfield 18, 3) := by decide +kernel
theorem dX5_layRow_45 : decode cX5_layRow 45 = .ok (.iload_n 1, 1) := by decide +kernel
theorem dX5_layRow_46 : decode cX5_layRow 46 = .ok (.bipush 60, 2) := by decide +kernel
theorem dX5_layRow_48 : decode cX5_layRow 48 = .ok (.imul, 1) := by decide +kernel
theorem dX5_layRow_49 : decode cX5_layRow 49 = .ok (.iload 4, 2) := by decide +kernel
theorem dX5_layRow_51 : decode cX5_layRow 51 = .ok (.iadd, 1) := by decide +kernel
theorem dX5_layRow_52 : decode cX5_layRow 52 = .ok (.lconst 0, 1) := by decide +kernel
theorem dX5_layRow_53 : decode cX5_layRow 53 = .ok (.lastore, 1) := by decide +kernel
theorem dX5_layRow_54 : decode cX5_layRow 54 = .ok (.iinc 4 1, 3) := by decide +kernel
theorem dX5_layRow_57 : decode cX5_layRow 57 = .ok (.goto (-22), 3) := by decide +kernel
theorem dX5_layRow_60 : decode cX5_layRow 60 = .ok (.return_, 1) := by decide +kernel
theorem dX5_refuseRow_0 : decode cX5_refuseRow 0 = .ok (.iload_n 1, 1) := by decide +kernel
theorem dX5_refuseRow_1 : decode cX5_refuseRow 1 = .ok (.invokestatic 22, 3) := by decide +kernel
theorem dX5_refuseRow_4 : decode cX5_refuseRow 4 = .ok (.ifCond .ne 5, 3) := by decide +kernel
theorem dX5_refuseRow_7 : decode cX5_refuseRow 7 = .ok (.iconst (-1), 1) := by decide +kernel
theorem dX5_refuseRow_8 : decode cX5_refuseRow 8 = .ok (.ireturn, 1) := by decide +kernel
theorem dX5_refuseRow_9 : decode cX5_refuseRow 9 = .ok (.aload_n 0, 1) := by decide +kernel
theorem dX5_refuseRow_10 : decode cX5_refuseRow 10 = .ok (.iload_n 1, 1) := by decide +kernel
theorem dX5_refuseRow_11 : decode cX5_refuseRow 11 = .ok (.invokevirtual 29, 3) := by decide +kernel
theorem dX5_refuseRow_14 : decode cX5_refuseRow 14 = .ok (.ifCond .eq 6, 3) := by decide +kernel
theorem dX5_refuseRow_17 : decode cX5_refuseRow 17 = .ok (.bipush (-11), 2) := by decide +kernel
theorem dX5_refuseRow_19 : decode cX5_refuseRow 19 = .ok (.ireturn, 1) := by decide +kernel
theorem dX5_refuseRow_20 : decode cX5_refuseRow 20 = .ok (.aload_n 0, 1) := by decide +kernel
theorem dX5_refuseRow_21 : decode cX5_refuseRow 21 = .ok (.iload_n 1, 1) := by decide +kernel
theorem dX5_refuseRow_22 : decode cX5_refuseRow 22 = .ok (.invokevirtual 26, 3) := by decide +kernel
theorem dX5_refuseRow_25 : decode cX5_refuseRow 25 = .ok (.ifCond .eq 7, 3) := by decide +kernel
theorem dX5_refuseRow_28 : decode cX5_refuseRow 28 = .ok (.iconst 0, 1) := by decide +kernel
theorem dX5_refuseRow_29 : decode cX5_refuseRow 29 = .ok (.goto 5, 3) := by decide +kernel
theorem dX5_refuseRow_32 : decode cX5_refuseRow 32 = .ok (.bipush (-12), 2) := by decide +kernel
theorem dX5_refuseRow_34 : decode cX5_refuseRow 34 = .ok (.ireturn, 1) := by decide +kernel
theorem dX5_refuseBytes_0 : decode cX5_refuseBytes 0 = .ok (.aload_n 0, 1) := by decide +kernel
theorem dX5_refuseBytes_1 : decode cX5_refuseBytes 1 = .ok (.iload_n 1, 1) := by decide +kernel
theorem dX5_refuseBytes_2 : decode cX5_refuseBytes 2 = .ok (.invokevirtual 32, 3) := by decide +kernel
theorem dX5_refuseBytes_5 : decode cX5_refuseBytes 5 = .ok (.istore_n 2, 1) := by decide +kernel
theorem dX5_refuseBytes_6 : decode cX5_refuseBytes 6 = .ok (.iload_n 2, 1) := by decide +kernel
theorem dX5_refuseBytes_7 : decode cX5_refuseBytes 7 = .ok (.ifCond .eq 5, 3) := by decide +kernel
theorem dX5_refuseBytes_10 : decode cX5_refuseBytes 10 = .ok (.iload_n 2, 1) := by decide +kernel
theorem dX5_refuseBytes_11 : decode cX5_refuseBytes 11 = .ok (.ireturn, 1) := by decide +kernel
theorem dX5_refuseBytes_12 : decode cX5_refuseBytes 12 = .ok (.aload_n 0, 1) := by decide +kernel
theorem dX5_refuseBytes_13 : decode cX5_refuseBytes 13 = .ok (.getfield 11, 3) := by decide +kernel
theorem dX5_refuseBytes_16 : decode cX5_refuseBytes 16 = .ok (.iload_n 1, 1) := by decide +kernel
theorem dX5_refuseBytes_17 : decode cX5_refuseBytes 17 = .ok (.iaload, 1) := by decide +kernel
theorem dX5_refuseBytes_18 : decode cX5_refuseBytes 18 = .ok (.ifCond .ne 7, 3) := by decide +kernel
theorem dX5_refuseBytes_21 : decode cX5_refuseBytes 21 = .ok (.iconst 0, 1) := by decide +kernel
theorem dX5_refuseBytes_22 : decode cX5_refuseBytes 22 = .ok (.goto 5, 3) := by decide +kernel
theorem dX5_refuseBytes_25 : decode cX5_refuseBytes 25 = .ok (.bipush (-12), 2) := by decide +kernel
theorem dX5_refuseBytes_27 : decode cX5_refuseBytes 27 = .ok (.ireturn, 1) := by decide +kernel
theorem dX5_refusePlace_0 : decode cX5_refusePlace 0 = .ok (.aload_n 0, 1) := by decide +kernel
theorem dX5_refusePlace_1 : decode cX5_refusePlace 1 = .ok (.iload_n 1, 1) := by decide +kernel
theorem dX5_refusePlace_2 : decode cX5_refusePlace 2 = .ok (.invokevirtual 32, 3) := by decide +kernel
theorem dX5_refusePlace_5 : decode cX5_refusePlace 5 = .ok (.istore_n 3, 1) := by decide +kernel
theorem dX5_refusePlace_6 : decode cX5_refusePlace 6 = .ok (.iload_n 3, 1) := by decide +kernel
theorem dX5_refusePlace_7 : decode cX5_refusePlace 7 = .ok (.ifCond .eq 5, 3) := by decide +kernel
theorem dX5_refusePlace_10 : decode cX5_refusePlace 10 = .ok (.iload_n 3, 1) := by decide +kernel
theorem dX5_refusePlace_11 : decode cX5_refusePlace 11 = .ok (.ireturn, 1) := by decide +kernel
theorem dX5_refusePlace_12 : decode cX5_refusePlace 12 = .ok (.aload_n 0, 1) := by decide +kernel
theorem dX5_refusePlace_13 : decode cX5_refusePlace 13 = .ok (.iload_n 1, 1) := by decide +kernel
theorem dX5_refusePlace_14 : decode cX5_refusePlace 14 = .ok (.iload_n 2, 1) := by decide +kernel
theorem dX5_refusePlace_15 : decode cX5_refusePlace 15 = .ok (.iconst 1, 1) := by decide +kernel
theorem dX5_refusePlace_16 : decode cX5_refusePlace 16 = .ok (.invokevirtual 36, 3) := by decide +kernel
theorem dX5_refusePlace_19 : decode cX5_refusePlace 19 = .ok (.ifCond .eq 7, 3) := by decide +kernel
theorem dX5_refusePlace_22 : decode cX5_refusePlace 22 = .ok (.iconst 0, 1) := by decide +kernel
theorem dX5_refusePlace_23 : decode cX5_refusePlace 23 = .ok (.goto 5, 3) := by decide +kernel
theorem dX5_refusePlace_26 : decode cX5_refusePlace 26 = .ok (.bipush (-13), 2) := by decide +kernel
theorem dX5_refusePlace_28 : decode cX5_refusePlace 28 = .ok (.ireturn, 1) := by decide +kernel
theorem dX5_refusePair_0 : decode cX5_refusePair 0 = .ok (.iload_n 1, 1) := by decide +kernel
theorem dX5_refusePair_1 : decode cX5_refusePair 1 = .ok (.invokestatic 22, 3) := by decide +kernel
theorem dX5_refusePair_4 : decode cX5_refusePair 4 = .ok (.ifCond .eq 10, 3) := by decide +kernel
theorem dX5_refusePair_7 : decode cX5_refusePair 7 = .ok (.iload_n 2, 1) := by decide +kernel
theorem dX5_refusePair_8 : decode cX5_refusePair 8 = .ok (.invokestatic 22, 3) := by decide +kernel
theorem dX5_refusePair_11 : decode cX5_refusePair 11 = .ok (.ifCond .ne 5, 3) := by decide +kernel
theorem dX5_refusePair_14 : decode cX5_refusePair 14 = .ok (.iconst (-1), 1) := by decide +kernel
theorem dX5_refusePair_15 : decode cX5_refusePair 15 = .ok (.ireturn, 1) := by decide +kernel
theorem dX5_refusePair_16 : decode cX5_refusePair 16 = .ok (.aload_n 0, 1) := by decide +kernel
theorem dX5_refusePair_17 : decode cX5_refusePair 17 = .ok (.iload_n 1, 1) := by decide +kernel
theorem dX5_refusePair_18 : decode cX5_refusePair 18 = .ok (.invokevirtual 29, 3) := by decide +kernel
theorem dX5_refusePair_21 : decode cX5_refusePair 21 = .ok (.ifCond .ne 11, 3) := by decide +kernel
theorem dX5_refusePair_24 : decode cX5_refusePair 24 = .ok (.aload_n 0, 1) := by decide +kernel
theorem dX5_refusePair_25 : decode cX5_refusePair 25 = .ok (.iload_n 2, 1) := by decide +kernel
theorem dX5_refusePair_26 : decode cX5_refusePair 26 = .ok (.invokevirtual 29, 3) := by decide +kernel
theorem dX5_refusePair_29 : decode cX5_refusePair 29 = .ok (.ifCond .eq 6, 3) := by decide +kernel
theorem dX5_refusePair_32 : decode cX5_refusePair 32 = .ok (.bipush (-11), 2) := by decide +kernel
theorem dX5_refusePair_34 : decode cX5_refusePair 34 = .ok (.ireturn, 1) := by decide +kernel
theorem dX5_refusePair_35 : decode cX5_refusePair 35 = .ok (.aload_n 0, 1) := by decide +kernel
theorem dX5_refusePair_36 : decode cX5_refusePair 36 = .ok (.iload_n 1, 1) := by decide +kernel
theorem dX5_refusePair_37 : decode cX5_refusePair 37 = .ok (.invokevirtual 26, 3) := by decide +kernel
theorem dX5_refusePair_40 : decode cX5_refusePair 40 = .ok (.ifCond .eq 22, 3) := by decide +kernel
theorem dX5_refusePair_43 : decode cX5_refusePair 43 = .ok (.aload_n 0, 1) := by decide +kernel
theorem dX5_refusePair_44 : decode cX5_refusePair 44 = .ok (.getfield 11, 3) := by decide +kernel
theorem dX5_refusePair_47 : decode cX5_refusePair 47 = .ok (.iload_n 1, 1) := by decide +kernel
theorem dX5_refusePair_48 : decode cX5_refusePair 48 = .ok (.iaload, 1) := by decide +kernel
theorem dX5_refusePair_49 : decode cX5_refusePair 49 = .ok (.aload_n 0, 1) := by decide +kernel
theorem dX5_refusePair_50 : decode cX5_refusePair 50 = .ok (.getfield 11, 3) := by decide +kernel
theorem dX5_refusePair_53 : decode cX5_refusePair 53 = .ok (.iload_n 2, 1) := by decide +kernel
theorem dX5_refusePair_54 : decode cX5_refusePair 54 = .ok (.iaload, 1) := by decide +kernel
theorem dX5_refusePair_55 : decode cX5_refusePair 55 = .ok (.if_icmp .ne 7, 3) := by decide +kernel
theorem dX5_refusePair_58 : decode cX5_refusePair 58 = .ok (.iconst 0, 1) := by decide +kernel
theorem dX5_refusePair_59 : decode cX5_refusePair 59 = .ok (.goto 5, 3) := by decide +kernel
theorem dX5_refusePair_62 : decode cX5_refusePair 62 = .ok (.bipush (-12), 2) := by decide +kernel
theorem dX5_refusePair_64 : decode cX5_refusePair 64 = .ok (.ireturn, 1) := by decide +kernel
theorem dX5_hasRun_0 : decode cX5_hasRun 0 = .ok (.iload_n 2, 1) := by decide +kernel
theorem dX5_hasRun_1 : decode cX5_hasRun 1 = .ok (.ifCond .lt 22, 3) := by decide +kernel
theorem dX5_hasRun_4 : decode cX5_hasRun 4 = .ok (.iload_n 3, 1) := by decide +kernel
theorem dX5_hasRun_5 : decode cX5_hasRun 5 = .ok (.ifCond .lt 18, 3) := by decide +kernel
theorem dX5_hasRun_8 : decode cX5_hasRun 8 = .ok (.iload_n 2, 1) := by decide +kernel
theorem dX5_hasRun_9 : decode cX5_hasRun 9 = .ok (.aload_n 0, 1) := by decide +kernel
theorem dX5_hasRun_10 : decode cX5_hasRun 10 = .ok (.iload_n 1, 1) := by decide +kernel
theorem dX5_hasRun_11 : decode cX5_hasRun 11 = .ok (.invokevirtual 40, 3) := by decide +kernel
theorem dX5_hasRun_14 : decode cX5_hasRun 14 = .ok (.iload_n 3, 1) := by decide +kernel
theorem dX5_hasRun_15 : decode cX5_hasRun 15 = .ok (.isub, 1) := by decide +kernel
theorem dX5_hasRun_16 : decode cX5_hasRun 16 = .ok (.if_icmp .gt 7, 3) := by decide +kernel
theorem dX5_hasRun_19 : decode cX5_hasRun 19 = .ok (.iconst 1, 1) := by decide +kernel
theorem dX5_hasRun_20 : decode cX5_hasRun 20 = .ok (.goto 4, 3) := by decide +kernel
theorem dX5_hasRun_23 : decode cX5_hasRun 23 = .ok (.iconst 0, 1) := by decide +kernel
theorem dX5_hasRun_24 : decode cX5_hasRun 24 = .ok (.ireturn, 1) := by decide +kernel
theorem dX5_cell_0 : decode cX5_cell 0 = .ok (.aload_n 0, 1) := by decide +kernel
theorem dX5_cell_1 : decode cX5_cell 1 = .ok (.iload_n 1, 1) := by decide +kernel
theorem dX5_cell_2 : decode cX5_cell 2 = .ok (.invokevirtual 26, 3) := by decide +kernel
theorem dX5_cell_5 : decode cX5_cell 5 = .ok (.ifCond .eq 27, 3) := by decide +kernel
theorem dX5_cell_8 : decode cX5_cell 8 = .ok (.aload_n 0, 1) := by decide +kernel
theorem dX5_cell_9 : decode cX5_cell 9 = .ok (.iload_n 1, 1) := by decide +kernel
theorem dX5_cell_10 : decode cX5_cell 10 = .ok (.iload_n 2, 1) := by decide +kernel
theorem dX5_cell_11 : decode cX5_cell 11 = .ok (.iconst 1, 1) := by decide +kernel
theorem dX5_cell_12 : decode cX5_cell 12 = .ok (.invokevirtual 36, 3) := by decide +kernel
theorem dX5_cell_15 : decode cX5_cell 15 = .ok (.ifCond .eq 17, 3) := by decide +kernel
theorem dX5_cell_18 : decode cX5_cell 18 = .ok (.aload_n 0, 1) := by decide +kernel
theorem dX5_cell_19 : decode cX5_cell 19 = .ok (.getfield 18, 3) := by decide +kernel
theorem dX5_cell_22 : decode cX5_cell 22 = .ok (.iload_n 1, 1) := by decide +kernel
theorem dX5_cell_23 : decode cX5_cell 23 = .ok (.bipush 60, 2) := by decide +kernel
theorem dX5_cell_25 : decode cX5_cell 25 = .ok (.imul, 1) := by decide +kernel
theorem dX5_cell_26 : decode cX5_cell 26 = .ok (.iload_n 2, 1) := by decide +kernel
theorem dX5_cell_27 : decode cX5_cell 27 = .ok (.iadd, 1) := by decide +kernel
theorem dX5_cell_28 : decode cX5_cell 28 = .ok (.laload, 1) := by decide +kernel
theorem dX5_cell_29 : decode cX5_cell 29 = .ok (.goto 4, 3) := by decide +kernel
theorem dX5_cell_32 : decode cX5_cell 32 = .ok (.lconst 0, 1) := by decide +kernel
theorem dX5_cell_33 : decode cX5_cell 33 = .ok (.lreturn, 1) := by decide +kernel
theorem dX5_setCell_0 : decode cX5_setCell 0 = .ok (.aload_n 0, 1) := by decide +kernel
theorem dX5_setCell_1 : decode cX5_setCell 1 = .ok (.iload_n 1, 1) := by decide +kernel
theorem dX5_setCell_2 : decode cX5_setCell 2 = .ok (.invokevirtual 26, 3) := by decide +kernel
theorem dX5_setCell_5 : decode cX5_setCell 5 = .ok (.ifCond .eq 34, 3) := by decide +kernel
theorem dX5_setCell_8 : decode cX5_setCell 8 = .ok (.aload_n 0, 1) := by decide +kernel
theorem dX5_setCell_9 : decode cX5_setCell 9 = .ok (.iload_n 1, 1) := by decide +kernel
theorem dX5_setCell_10 : decode cX5_setCell 10 = .ok (.iload_n 2, 1) := by decide +kernel
theorem dX5_setCell_11 : decode cX5_setCell 11 = .ok (.iconst 1, 1) := by decide +kernel
theorem dX5_setCell_12 : decode cX5_setCell 12 = .ok (.invokevirtual 36, 3) := by decide +kernel
theorem dX5_setCell_15 : decode cX5_setCell 15 = .ok (.ifCond .eq 24, 3) := by decide +kernel
theorem dX5_setCell_18 : decode cX5_setCell 18 = .ok (.aload_n 0, 1) := by decide +kernel
theorem dX5_setCell_19 : decode cX5_setCell 19 = .ok (.getfield 18, 3) := by decide +kernel
theorem dX5_setCell_22 : decode cX5_setCell 22 = .ok (.iload_n 1, 1) := by decide +kernel
theorem dX5_setCell_23 : decode cX5_setCell 23 = .ok (.bipush 60, 2) := by decide +kernel
theorem dX5_setCell_25 : decode cX5_setCell 25 = .ok (.imul, 1) := by decide +kernel
theorem dX5_setCell_26 : decode cX5_setCell 26 = .ok (.iload_n 2, 1) := by decide +kernel
theorem dX5_setCell_27 : decode cX5_setCell 27 = .ok (.iadd, 1) := by decide +kernel
theorem dX5_setCell_28 : decode cX5_setCell 28 = .ok (.aload_n 0, 1) := by decide +kernel
theorem dX5_setCell_29 : decode cX5_setCell 29 = .ok (.getfield 11, 3) := by decide +kernel
theorem dX5_setCell_32 : decode cX5_setCell 32 = .ok (.iload_n 1, 1) := by decide +kernel
theorem dX5_setCell_33 : decode cX5_setCell 33 = .ok (.iaload, 1) := by decide +kernel
theorem dX5_setCell_34 : decode cX5_setCell 34 = .ok (.lload_n 3, 1) := by decide +kernel
theorem dX5_setCell_35 : decode cX5_setCell 35 = .ok (.invokestatic 43, 3) := by decide +kernel
theorem dX5_setCell_38 : decode cX5_setCell 38 = .ok (.lastore, 1) := by decide +kernel
theorem dX5_setCell_39 : decode cX5_setCell 39 = .ok (.return_, 1) := by decide +kernel
theorem dX5_copyRun_0 : decode cX5_copyRun 0 = .ok (.aload_n 0, 1) := by decide +kernel
theorem dX5_copyRun_1 : decode cX5_copyRun 1 = .ok (.iload_n 1, 1) := by decide +kernel
theorem dX5_copyRun_2 : decode cX5_copyRun 2 = .ok (.invokevirtual 26, 3) := by decide +kernel
theorem dX5_copyRun_5 : decode cX5_copyRun 5 = .ok (.ifCond .eq 34, 3) := by decide +kernel
theorem dX5_copyRun_8 : decode cX5_copyRun 8 = .ok (.aload_n 0, 1) := by decide +kernel
theorem dX5_copyRun_9 : decode cX5_copyRun 9 = .ok (.iload_n 3, 1) := by decide +kernel
theorem dX5_copyRun_10 : decode cX5_copyRun 10 = .ok (.invokevirtual 26, 3) := by decide +kernel
theorem dX5_copyRun_13 : decode cX5_copyRun 13 = .ok (.ifCond .eq 26, 3) := by decide +kernel
theorem dX5_copyRun_16 : decode cX5_copyRun 16 = .ok (.aload_n 0, 1) := by decide +kernel
theorem dX5_copyRun_17 : decode cX5_copyRun 17 = .ok (.iload_n 1, 1) := by decide +kernel
theorem dX5_copyRun_18 : decode cX5_copyRun 18 = .ok (.iload_n 2, 1) := by decide +kernel
theorem dX5_copyRun_19 : decode cX5_copyRun 19 = .ok (.iload 5, 2) := by decide +kernel
theorem dX5_copyRun_21 : decode cX5_copyRun 21 = .ok (.invokevirtual 36, 3) := by decide +kernel
theorem dX5_copyRun_24 : decode cX5_copyRun 24 = .ok (.ifCond .eq 15, 3) := by decide +kernel
theorem dX5_copyRun_27 : decode cX5_copyRun 27 = .ok (.aload_n 0, 1) := by decide +kernel
theorem dX5_copyRun_28 : decode cX5_copyRun 28 = .ok (.iload_n 3, 1) := by decide +kernel
theorem dX5_copyRun_29 : decode cX5_copyRun 29 = .ok (.iload 4, 2) := by decide +kernel
theorem dX5_copyRun_31 : decode cX5_copyRun 31 = .ok (.iload 5, 2) := by decide +kernel
theorem dX5_copyRun_33 : decode cX5_copyRun 33 = .ok (.invokevirtual 36, 3) := by decide +kernel
theorem dX5_copyRun_36 : decode cX5_copyRun 36 = .ok (.ifCond .ne 4, 3) := by decide +kernel
theorem dX5_copyRun_39 : decode cX5_copyRun 39 = .ok (.return_, 1) := by decide +kernel
theorem dX5_copyRun_40 : decode cX5_copyRun 40 = .ok (.aload_n 0, 1) := by decide +kernel
theorem dX5_copyRun_41 : decode cX5_copyRun 41 = .ok (.getfield 18, 3) := by decide +kernel
theorem dX5_copyRun_44 : decode cX5_copyRun 44 = .ok (.iload_n 1, 1) := by decide +kernel
theorem dX5_copyRun_45 : decode cX5_copyRun 45 = .ok (.bipush 60, 2) := by decide +kernel
theorem dX5_copyRun_47 : decode cX5_copyRun 47 = .ok (.imul, 1) := by decide +kernel
theorem dX5_copyRun_48 : decode cX5_copyRun 48 = .ok (.iload_n 2, 1) := by decide +kernel
theorem dX5_copyRun_49 : decode cX5_copyRun 49 = .ok (.iadd, 1) := by decide +kernel
theorem dX5_copyRun_50 : decode cX5_copyRun 50 = .ok (.aload_n 0, 1) := by decide +kernel
theorem dX5_copyRun_51 : decode cX5_copyRun 51 = .ok (.getfield 18, 3) := by decide +kernel
theorem dX5_copyRun_54 : decode cX5_copyRun 54 = .ok (.iload_n 3, 1) := by decide +kernel
theorem dX5_copyRun_55 : decode cX5_copyRun 55 = .ok (.bipush 60, 2) := by decide +kernel
theorem dX5_copyRun_57 : decode cX5_copyRun 57 = .ok (.imul, 1) := by decide +kernel
theorem dX5_copyRun_58 : decode cX5_copyRun 58 = .ok (.iload 4, 2) := by decide +kernel
theorem dX5_copyRun_60 : decode cX5_copyRun 60 = .ok (.iadd, 1) := by decide +kernel
theorem dX5_copyRun_61 : decode cX5_copyRun 61 = .ok (.iload 5, 2) := by decide +kernel
theorem dX5_copyRun_63 : decode cX5_copyRun 63 = .ok (.invokestatic 47, 3) := by decide +kernel
theorem dX5_copyRun_66 : decode cX5_copyRun 66 = .ok (.return_, 1) := by decide +kernel
theorem dX5_cut_0 : decode cX5_cut 0 = .ok (.iload_n 0, 1) := by decide +kernel
theorem dX5_cut_1 : decode cX5_cut 1 = .ok (.tableswitch 61 0 4 #[35, 40, 45, 61, 49], 35) := by decide +kernel
theorem dX5_cut_36 : decode cX5_cut 36 = .ok (.lload_n 1, 1) := by decide +kernel
theorem dX5_cut_37 : decode cX5_cut 37 = .ok (.l2i, 1) := by decide +kernel
theorem dX5_cut_38 : decode cX5_cut 38 = .ok (.i2b, 1) := by decide +kernel
theorem dX5_cut_39 : decode cX5_cut 39 = .ok (.i2l, 1) := by decide +kernel
theorem dX5_cut_40 : decode cX5_cut 40 = .ok (.lreturn, 1) := by decide +kernel
theorem dX5_cut_41 : decode cX5_cut 41 = .ok (.lload_n 1, 1) := by decide +kernel
theorem dX5_cut_42 : decode cX5_cut 42 = .ok (.l2i, 1) := by decide +kernel
theorem dX5_cut_43 : decode cX5_cut 43 = .ok (.i2s, 1) := by decide +kernel
theorem dX5_cut_44 : decode cX5_cut 44 = .ok (.i2l, 1) := by decide +kernel
theorem dX5_cut_45 : decode cX5_cut 45 = .ok (.lreturn, 1) := by decide +kernel
theorem dX5_cut_46 : decode cX5_cut 46 = .ok (.lload_n 1, 1) := by decide +kernel
theorem dX5_cut_47 : decode cX5_cut 47 = .ok (.l2i, 1) := by decide +kernel
theorem dX5_cut_48 : decode cX5_cut 48 = .ok (.i2l, 1) := by decide +kernel
theorem dX5_cut_49 : decode cX5_cut 49 = .ok (.lreturn, 1) := by decide +kernel
theorem dX5_cut_50 : decode cX5_cut 50 = .ok (.lload_n 1, 1) := by decide +kernel
theorem dX5_cut_51 : decode cX5_cut 51 = .ok (.lconst 0, 1) := by decide +kernel
theorem dX5_cut_52 : decode cX5_cut 52 = .ok (.lcmp, 1) := by decide +kernel
theorem dX5_cut_53 : decode cX5_cut 53 = .ok (.ifCond .eq 7, 3) := by decide +kernel
theorem dX5_cut_56 : decode cX5_cut 56 = .ok (.lconst 1, 1) := by decide +kernel
theorem dX5_cut_57 : decode cX5_cut 57 = .ok (.goto 4, 3) := by decide +kernel
theorem dX5_cut_60 : decode cX5_cut 60 = .ok (.lconst 0, 1) := by decide +kernel
theorem dX5_cut_61 : decode cX5_cut 61 = .ok (.lreturn, 1) := by decide +kernel
theorem dX5_cut_62 : decode cX5_cut 62 = .ok (.lload_n 1, 1) := by decide +kernel
theorem dX5_cut_63 : decode cX5_cut 63 = .ok (.lreturn, 1) := by decide +kernel
theorem dX6_init_0 : decode cX6_init 0 = .ok (.aload_n 0, 1) := by decide +kernel
theorem dX6_init_1 : decode cX6_init 1 = .ok (.invokespecial 3, 3) := by decide +kernel
theorem dX6_init_4 : decode cX6_init 4 = .ok (.aload_n 0, 1) := by decide +kernel
theorem dX6_init_5 : decode cX6_init 5 = .ok (.bipush 10, 2) := by decide +kernel
theorem dX6_init_7 : decode cX6_init 7 = .ok (.newarray .int, 2) := by decide +kernel
theorem dX6_init_9 : decode cX6_init 9 = .ok (.putfield 9, 3) := by decide +kernel
theorem dX6_init_12 : decode cX6_init 12 = .ok (.aload_n 0, 1) := by decide +kernel
theorem dX6_init_13 : decode cX6_init 13 = .ok (.aload_n 1, 1) := by decide +kernel
theorem dX6_init_14 : decode cX6_init 14 = .ok (.putfield 15, 3) := by decide +kernel
theorem dX6_init_17 : decode cX6_init 17 = .ok (.aload_n 0, 1) := by decide +kernel
theorem dX6_init_18 : decode cX6_init 18 = .ok (.aload_n 2, 1) := by decide +kernel
theorem dX6_init_19 : decode cX6_init 19 = .ok (.putfield 19, 3) := by decide +kernel
theorem dX6_init_22 : decode cX6_init 22 = .ok (.aload_n 0, 1) := by decide +kernel
theorem dX6_init_23 : decode cX6_init 23 = .ok (.aload_n 3, 1) := by decide +kernel
theorem dX6_init_24 : decode cX6_init 24 = .ok (.putfield 23, 3) := by decide +kernel
theorem dX6_init_27 : decode cX6_init 27 = .ok (.return_, 1) := by decide +kernel
theorem dX6_howMuch_0 : decode cX6_howMuch 0 = .ok (.aload_n 0, 1) := by decide +kernel
theorem dX6_howMuch_1 : decode cX6_howMuch 1 = .ok (.getfield 19, 3) := by decide +kernel
theorem dX6_howMuch_4 : decode cX6_howMuch 4 = .ok (.iload_n 1, 1) := by decide +kernel
theorem dX6_howMuch_5 : decode cX6_howMuch 5 = .ok (.invokevirtual 27, 3) := by decide +kernel
theorem dX6_howMuch_8 : decode cX6_howMuch 8 = .ok (.iload_n 2, 1) := by decide +kernel
theorem dX6_howMuch_9 : decode cX6_howMuch 9 = .ok (.invokestatic 33, 3) := by decide +kernel
theorem dX6_howMuch_12 : decode cX6_howMuch 12 = .ok (.istore_n 3, 1) := by decide +kernel
theorem dX6_howMuch_13 : decode cX6_howMuch 13 = .ok (.aload_n 0, 1) := by decide +kernel
theorem dX6_howMuch_14 : decode cX6_howMuch 14 = .ok (.iload_n 1, 1) := by decide +kernel
theorem dX6_howMuch_15 : decode cX6_howMuch 15 = .ok (.invokevirtual 37, 3) := by decide +kernel
theorem dX6_howMuch_18 : decode cX6_howMuch 18 = .ok (.istore 4, 2) := by decide +kernel
theorem dX6_howMuch_20 : decode cX6_howMuch 20 = .ok (.aload_n 0, 1) := by decide +kernel
theorem dX6_howMuch_21 : decode cX6_howMuch 21 = .ok (.getfield 23, 3) := by decide +kernel
theorem dX6_howMuch_24 : decode cX6_howMuch 24 = .ok (.invokevirtual 40, 3) := by decide +kernel
theorem dX6_howMuch_27 : decode cX6_howMuch 27 = .ok (.ifCond .eq 14, 3) := by decide +kernel
theorem dX6_howMuch_30 : decode cX6_howMuch 30 = .ok (.aload_n 0, 1) := by decide +kernel
theorem dX6_howMuch_31 : decode cX6_howMuch 31 = .ok (.iload_n 1, 1) := by decide +kernel
theorem dX6_howMuch_32 : decode cX6_howMuch 32 = .ok (.iload_n 3, 1) := by decide +kernel
theorem dX6_howMuch_33 : decode cX6_howMuch 33 = .ok (.iload 4, 2) := by decide +kernel
theorem dX6_howMuch_35 : decode cX6_howMuch 35 = .ok (.invokevirtual 46, 3) := by decide +kernel
theorem dX6_howMuch_38 : decode cX6_howMuch 38 = .ok (.goto 19, 3) := by decide +kernel
theorem dX6_howMuch_41 : decode cX6_howMuch 41 = .ok (.aload_n 0, 1) := by decide +kernel
theorem dX6_howMuch_42 : decode cX6_howMuch 42 = .ok (.getfield 15, 3) := by decide +kernel
theorem dX6_howMuch_45 : decode cX6_howMuch 45 = .ok (.getfield 50, 3) := by decide +kernel
theorem dX6_howMuch_48 : decode cX6_howMuch 48 = .ok (.iload_n 1, 1) := by decide +kernel
theorem dX6_howMuch_49 : decode cX6_howMuch 49 = .ok (.iaload, 1) := by decide +kernel
theorem dX6_howMuch_50 : decode cX6_howMuch 50 = .ok (.iload 4, 2) := by decide +kernel
theorem dX6_howMuch_52 : decode cX6_howMuch 52 = .ok (.iadd, 1) := by decide +kernel
theorem dX6_howMuch_53 : decode cX6_howMuch 53 = .ok (.iconst 2, 1) := by decide +kernel
theorem dX6_howMuch_54 : decode cX6_howMuch 54 = .ok (.iload_n 3, 1) := by decide +kernel
theorem dX6_howMuch_55 : decode cX6_howMuch 55 = .ok (.imul, 1) := by decide +kernel
theorem dX6_howMuch_56 : decode cX6_howMuch 56 = .ok (.isub, 1) := by decide +kernel
theorem dX6_howMuch_57 : decode cX6_howMuch 57 = .ok (.istore 5, 2) := by decide +kernel
theorem dX6_howMuch_59 : decode cX6_howMuch 59 = .ok (.iconst 0, 1) := by decide +kernel
theorem dX6_howMuch_60 : decode cX6_howMuch 60 = .ok (.bipush 9, 2) := by decide +kernel
theorem dX6_howMuch_62 : decode cX6_howMuch 62 = .ok (.iload 5, 2) := by decide +kernel
theorem dX6_howMuch_64 : decode cX6_howMuch 64 = .ok (.invokestatic 55, 3) := by decide +kernel
theorem dX6_howMuch_67 : decode cX6_howMuch 67 = .ok (.invokestatic 60, 3) := by decide +kernel
theorem dX6_howMuch_70 : decode cX6_howMuch 70 = .ok (.ireturn, 1) := by decide +kernel
theorem dX6_byText_0 : decode cX6_byText 0 = .ok (.aload_n 0, 1) := by decide +kernel
theorem dX6_byText_1 : decode cX6_byText 1 = .ok (.getfield 23, 3) := by decide +kernel
theorem dX6_byText_4 : decode cX6_byText 4 = .ok (.getfield 63, 3) := by decide +kernel
theorem dX6_byText_7 : decode cX6_byText 7 = .ok (.astore 4, 2) := by decide +kernel
theorem dX6_byText_9 : decode cX6_byText 9 = .ok (.aload 4, 2) := by decide +kernel
theorem dX6_byText_11 : decode cX6_byText 11 = .ok (.arraylength, 1) := by decide +kernel
theorem dX6_byText_12 : decode cX6_byText 12 = .ok (.bipush 6, 2) := by decide +kernel
theorem dX6_byText_14 : decode cX6_byText 14 = .ok (.if_icmp .ge 5, 3) := by decide +kernel
theorem dX6_byText_17 : decode cX6_byText 17 = .ok (.iconst 0, 1) := by decide +kernel
theorem dX6_byText_18 : decode cX6_byText 18 = .ok (.ireturn, 1) := by decide +kernel
theorem dX6_byText_19 : decode cX6_byText 19 = .ok (.aload 4, 2) := by decide +kernel
theorem dX6_byText_21 : decode cX6_byText 21 = .ok (.iconst 0, 1) := by decide +kernel
theorem dX6_byText_22 : decode cX6_byText 22 = .ok (.aload_n 0, 1) := by decide +kernel
theorem dX6_byText_23 : decode cX6_byText 23 = .ok (.getfield 15, 3) := by decide +kernel
theorem dX6_byText_26 : decode cX6_byText 26 = .ok (.getfield 50, 3) := by decide +kernel
theorem dX6_byText_29 : decode cX6_byText 29 = .ok (.iload_n 1, 1) := by decide +kernel
theorem dX6_byText_30 : decode cX6_byText 30 = .ok (.iaload, 1) := by decide +kernel
theorem dX6_byText_31 : decode cX6_byText 31 = .ok (.iastore, 1) := by decide +kernel
theorem dX6_byText_32 : decode cX6_byText 32 = .ok (.aload 4, 2) := by decide +kernel
theorem dX6_byText_34 : decode cX6_byText 34 = .ok (.iconst 1, 1) := by decide +kernel
theorem dX6_byText_35 : decode cX6_byText 35 = .ok (.iload_n 2, 1) := by decide +kernel
theorem dX6_byText_36 : decode cX6_byText 36 = .ok (.iastore, 1) := by decide +kernel
theorem dX6_byText_37 : decode cX6_byText 37 = .ok (.aload 4, 2) := by decide +kernel
theorem dX6_byText_39 : decode cX6_byText 39 = .ok (.iconst 2, 1) := by decide +kernel
theorem dX6_byText_40 : decode cX6_byText 40 = .ok (.aload_n 0, 1) := by decide +kernel
theorem dX6_byText_41 : decode cX6_byText 41 = .ok (.getfield 15, 3) := by decide +kernel
theorem dX6_byText_44 : decode cX6_byText 44 = .ok (.getfield 66, 3) := by decide +kernel
theorem dX6_byText_47 : decode cX6_byText 47 = .ok (.iload_n 1, 1) := by decide +kernel
theorem dX6_byText_48 : decode cX6_byText 48 = .ok (.iaload, 1) := by decide +kernel
theorem dX6_byText_49 : decode cX6_byText 49 = .ok (.iastore, 1) := by decide +kernel
theorem dX6_byText_50 : decode cX6_byText 50 = .ok (.aload 4, 2) := by decide +kernel
theorem dX6_byText_52 : decode cX6_byText 52 = .ok (.iconst 3, 1) := by decide +kernel
theorem dX6_byText_53 : decode cX6_byText 53 = .ok (.iload_n 3, 1) := by decide +kernel
theorem dX6_byText_54 : decode cX6_byText 54 = .ok (.iastore, 1) := by decide +kernel
theorem dX6_byText_55 : decode cX6_byText 55 = .ok (.aload 4, 2) := by decide +kernel
theorem dX6_byText_57 : decode cX6_byText 57 = .ok (.iconst 4, 1) := by decide +kernel
theorem dX6_byText_58 : decode cX6_byText 58 = .ok (.aload_n 0, 1) := by decide +kernel
theorem dX6_byText_59 : decode cX6_byText 59 = .ok (.getfield 15, 3) := by decide +kernel
theorem dX6_byText_62 : decode cX6_byText 62 = .ok (.getfield 69, 3) := by decide +kernel
theorem dX6_byText_65 : decode cX6_byText 65 = .ok (.iload_n 1, 1) := by decide +kernel
theorem dX6_byText_66 : decode cX6_byText 66 = .ok (.iaload, 1) := by decide +kernel
theorem dX6_byText_67 : decode cX6_byText 67 = .ok (.iastore, 1) := by decide +kernel
theorem dX6_byText_68 : decode cX6_byText 68 = .ok (.aload 4, 2) := by decide +kernel
theorem dX6_byText_70 : decode cX6_byText 70 = .ok (.iconst 5, 1) := by decide +kernel
theorem dX6_byText_71 : decode cX6_byText 71 = .ok (.aload_n 0, 1) := by decide +kernel
theorem dX6_byText_72 : decode cX6_byText 72 = .ok (.getfield 19, 3) := by decide +kernel
theorem dX6_byText_75 : decode cX6_byText 75 = .ok (.getfield 72, 3) := by decide +kernel
theorem dX6_byText_78 : decode cX6_byText 78 = .ok (.iastore, 1) := by decide +kernel
theorem dX6_byText_79 : decode cX6_byText 79 = .ok (.aload_n 0, 1) := by decide +kernel
theorem dX6_byText_80 : decode cX6_byText 80 = .ok (.getfield 23, 3) := by decide +kernel
theorem dX6_byText_83 : decode cX6_byText 83 = .ok (.invokevirtual 76, 3) := by decide +kernel
theorem dX6_byText_86 : decode cX6_byText 86 = .ok (.ireturn, 1) := by decide +kernel
theorem dX6_othersRunning_0 : decode cX6_othersRunning 0 = .ok (.iconst 0, 1) := by decide +kernel
theorem dX6_othersRunning_1 : decode cX6_othersRunning 1 = .ok (.istore_n 2, 1) := by decide +kernel
theorem dX6_othersRunning_2 : decode cX6_othersRunning 2 = .ok (.iconst 0, 1) := by decide +kernel
theorem dX6_othersRunning_3 : decode cX6_othersRunning 3 = .ok (.istore_n 3, 1) := by decide +kernel
theorem dX6_othersRunning_4 : decode cX6_othersRunning 4 = .ok (.iload_n 3, 1) := by decide +kernel
theorem dX6_othersRunning_5 : decode cX6_othersRunning 5 = .ok (.aload_n 0, 1) := by decide +kernel
theorem dX6_othersRunning_6 : decode cX6_othersRunning 6 = .ok (.getfield 15, 3) := by decide +kernel
theorem dX6_othersRunning_9 : decode cX6_othersRunning 9 = .ok (.getfield 80, 3) := by decide +kernel
theorem dX6_othersRunning_12 : decode cX6_othersRunning 12 = .ok (.if_icmp .ge 47, 3) := by decide +kernel
theorem dX6_othersRunning_15 : decode cX6_othersRunning 15 = .ok (.iload_n 3, 1) := by decide +kernel
theorem dX6_othersRunning_16 : decode cX6_othersRunning 16 = .ok (.iload_n 1, 1) := by decide +kernel
theorem dX6_othersRunning_17 : decode cX6_othersRunning 17 = .ok (.if_icmp .eq 36, 3) := by decide +kernel
theorem dX6_othersRunning_20 : decode cX6_othersRunning 20 = .ok (.aload_n 0, 1) := by decide +kernel
theorem dX6_othersRunning_21 : decode cX6_othersRunning 21 = .ok (.getfield 19, 3) := by decide +kernel
theorem dX6_othersRunning_24 : decode cX6_othersRunning 24 = .ok (.iload_n 3, 1) := by decide +kernel
theorem dX6_othersRunning_25 : decode cX6_othersRunning 25 = .ok (.invokevirtual 83, 3) := by decide +kernel
theorem dX6_othersRunning_28 : decode cX6_othersRunning 28 = .ok (.ifCond .eq 25, 3) := by decide +kernel
theorem dX6_othersRunning_31 : decode cX6_othersRunning 31 = .ok (.aload_n 0, 1) := by decide +kernel
theorem dX6_othersRunning_32 : decode cX6_othersRunning 32 = .ok (.getfield 19, 3) := by decide +kernel
theorem dX6_othersRunning_35 : decode cX6_othersRunning 35 = .ok (.iload_n 3, 1) := by decide +kernel
theorem dX6_othersRunning_36 : decode cX6_othersRunning 36 = .ok (.invokevirtual 27, 3) := by decide +kernel
theorem dX6_othersRunning_39 : decode cX6_othersRunning 39 = .ok (.aload_n 0, 1) := by decide +kernel
theorem dX6_othersRunning_40 : decode cX6_othersRunning 40 = .ok (.getfield 19, 3) := by decide +kernel
theorem dX6_othersRunning_43 : decode cX6_othersRunning 43 = .ok (.iload_n 1, 1) := by decide +kernel
theorem dX6_othersRunning_44 : decode cX6_othersRunning 44 = .ok (.invokevirtual 27, 3) := by decide +kernel
theorem dX6_othersRunning_47 : decode cX6_othersRunning 47 = .ok (.if_icmp .ne 6, 3) := by decide +kernel
theorem dX6_othersRunning_50 : decode cX6_othersRunning 50 = .ok (.iinc 2 1, 3) := by decide +kernel
theorem dX6_othersRunning_53 : decode cX6_othersRunning 53 = .ok (.iinc 3 1, 3) := by decide +kernel
theorem dX6_othersRunning_56 : decode cX6_othersRunning 56 = .ok (.goto (-52), 3) := by decide +kernel
theorem dX6_othersRunning_59 : decode cX6_othersRunning 59 = .ok (.iload_n 2, 1) := by decide +kernel
theorem dX6_othersRunning_60 : decode cX6_othersRunning 60 = .ok (.ireturn, 1) := by decide +kernel
theorem dX6_housesSmelling_0 : decode cX6_housesSmelling 0 = .ok (.aload_n 0, 1) := by decide +kernel
theorem dX6_housesSmelling_1 : decode cX6_housesSmelling 1 = .ok (.getfield 19, 3) := by decide +kernel
theorem dX6_housesSmelling_4 : decode cX6_housesSmelling 4 = .ok (.iload_n 1, 1) := by decide +kernel
theorem dX6_housesSmelling_5 : decode cX6_housesSmelling 5 = .ok (.invokevirtual 83, 3) := by decide +kernel
theorem dX6_housesSmelling_8 : decode cX6_housesSmelling 8 = .ok (.ifCond .ne 5, 3) := by decide +kernel
theorem dX6_housesSmelling_11 : decode cX6_housesSmelling 11 = .ok (.iconst 0, 1) := by decide +kernel
theorem dX6_housesSmelling_12 : decode cX6_housesSmelling 12 = .ok (.ireturn, 1) := by decide +kernel
theorem dX6_housesSmelling_13 : decode cX6_housesSmelling 13 = .ok (.iconst 0, 1) := by decide +kernel
theorem dX6_housesSmelling_14 : decode cX6_housesSmelling 14 = .ok (.istore_n 2, 1) := by decide +kernel
theorem dX6_housesSmelling_15 : decode cX6_housesSmelling 15 = .ok (.iconst 1, 1) := by decide +kernel
theorem dX6_housesSmelling_16 : decode cX6_housesSmelling 16 = .ok (.aload_n 0, 1) := by decide +kernel
theorem dX6_housesSmelling_17 : decode cX6_housesSmelling 17 = .ok (.getfield 19, 3) := by decide +kernel
theorem dX6_housesSmelling_20 : decode cX6_housesSmelling 20 = .ok (.iload_n 1, 1) := by decide +kernel
theorem dX6_housesSmelling_21 : decode cX6_housesSmelling 21 = .ok (.invokevirtual 87, 3) := by decide +kernel
theorem dX6_housesSmelling_24 : decode cX6_housesSmelling 24 = .ok (.isub, 1) := by decide +kernel
theorem dX6_housesSmelling_25 : decode cX6_housesSmelling 25 = .ok (.istore_n 3, 1) := by decide +kernel
theorem dX6_housesSmelling_26 : decode cX6_housesSmelling 26 = .ok (.iload_n 3, 1) := by decide +kernel
theorem dX6_housesSmelling_27 : decode cX6_housesSmelling 27 = .ok (.bipush 12, 2) := by decide +kernel
theorem dX6_housesSmelling_29 : decode cX6_housesSmelling 29 = .ok (.if_icmp .ge 31, 3) := by decide +kernel
theorem dX6_housesSmelling_32 : decode cX6_housesSmelling 32 = .ok (.aload_n 0, 1) := by decide +kernel
theorem dX6_housesSmelling_33 : decode cX6_housesSmelling 33 = .ok (.iload_n 1, 1) := by decide +kernel
theorem dX6_housesSmelling_34 : decode cX6_housesSmelling 34 = .ok (.iload_n 3, 1) := by decide +kernel
theorem dX6_housesSmelling_35 : decode cX6_housesSmelling 35 = .ok (.invokevirtual 90, 3) := by decide +kernel
theorem dX6_housesSmelling_38 : decode cX6_housesSmelling 38 = .ok (.aload_n 0, 1) := by decide +kernel
theorem dX6_housesSmelling_39 : decode cX6_housesSmelling 39 = .ok (.getfield 15, 3) := by decide +kernel
theorem dX6_housesSmelling_42 : decode cX6_housesSmelling 42 = .ok (.getfield 93, 3) := by decide +kernel
theorem dX6_housesSmelling_45 : decode cX6_housesSmelling 45 = .ok (.if_icmp .lt 9, 3) := by decide +kernel
theorem dX6_housesSmelling_48 : decode cX6_housesSmelling 48 = .ok (.iload_n 2, 1) := by decide +kernel
theorem dX6_housesSmelling_49 : decode cX6_housesSmelling 49 = .ok (.iconst 1, 1) := by decide +kernel
theorem dX6_housesSmelling_50 : decode cX6_housesSmelling 50 = .ok (.iload_n 3, 1) := by decide +kernel
theorem dX6_housesSmelling_51 : decode cX6_housesSmelling 51 = .ok (.ishl, 1) := by decide +kernel
theorem dX6_housesSmelling_52 : decode cX6_housesSmelling 52 = .ok (.ior, 1) := by decide +kernel
theorem dX6_housesSmelling_53 : decode cX6_housesSmelling 53 = .ok (.istore_n 2, 1) := by decide +kernel
theorem dX6_housesSmelling_54 : decode cX6_housesSmelling 54 = .ok (.iinc 3 2, 3) := by decide +kernel
theorem dX6_housesSmelling_57 : decode cX6_housesSmelling 57 = .ok (.goto (-31), 3) := by decide +kernel
theorem dX6_housesSmelling_60 : decode cX6_housesSmelling 60 = .ok (.iload_n 2, 1) := by decide +kernel
theorem dX6_housesSmelling_61 : decode cX6_housesSmelling 61 = .ok (.ireturn, 1) := by decide +kernel
theorem dX6_fewestShut_0 : decode cX6_fewestShut 0 = .ok (.iconst 0, 1) := by decide +kernel
theorem dX6_fewestShut_1 : decode cX6_fewestShut 1 = .ok (.istore_n 1, 1) := by decide +kernel
theorem dX6_fewestShut_2 : decode cX6_fewestShut 2 = .ok (.iload_n 1, 1) := by decide +kernel
theorem dX6_fewestShut_3 : decode cX6_fewestShut 3 = .ok (.aload_n 0, 1) := by decide +kernel
theorem dX6_fewestShut_4 : decode cX6_fewestShut 4 = .ok (.getfield 15, 3) := by decide +kernel
theorem dX6_fewestShut_7 : decode cX6_fewestShut 7 = .ok (.getfield 80, 3) := by decide +kernel
theorem dX6_fewestShut_10 : decode cX6_fewestShut 10 = .ok (.if_icmp .ge 20, 3) := by decide +kernel
theorem dX6_fewestShut_13 : decode cX6_fewestShut 13 = .ok (.aload_n 0, 1) := by decide +kernel
theorem dX6_fewestShut_14 : decode cX6_fewestShut 14 = .ok (.getfield 9, 3) := by decide +kernel
theorem dX6_fewestShut_17 : decode cX6_fewestShut 17 = .ok (.iload_n 1, 1) := by decide +kernel
theorem dX6_fewestShut_18 : decode cX6_fewestShut 18 = .ok (.aload_n 0, 1) := by decide +kernel
theorem dX6_fewestShut_19 : decode cX6_fewestShut 19 = .ok (.iload_n 1, 1) := by decide +kernel
theorem dX6_fewestShut_20 : decode cX6_fewestShut 20 = .ok (.invokevirtual 96, 3) := by decide +kernel
theorem dX6_fewestShut_23 : decode cX6_fewestShut 23 = .ok (.iastore, 1) := by decide +kernel
theorem dX6_fewestShut_24 : decode cX6_fewestShut 24 = .ok (.iinc 1 1, 3) := by decide +kernel
theorem dX6_fewestShut_27 : decode cX6_fewestShut 27 = .ok (.goto (-25), 3) := by decide +kernel
theorem dX6_fewestShut_30 : decode cX6_fewestShut 30 = .ok (.sipush 4095, 3) := by decide +kernel
theorem dX6_fewestShut_33 : decode cX6_fewestShut 33 = .ok (.istore_n 1, 1) := by decide +kernel
theorem dX6_fewestShut_34 : decode cX6_fewestShut 34 = .ok (.iconst 0, 1) := by decide +kernel
theorem dX6_fewestShut_35 : decode cX6_fewestShut 35 = .ok (.istore_n 2, 1) := by decide +kernel
theorem dX6_fewestShut_36 : decode cX6_fewestShut 36 = .ok (.iload_n 2, 1) := by decide +kernel
theorem dX6_fewestShut_37 : decode cX6_fewestShut 37 = .ok (.sipush 4096, 3) := by decide +kernel
theorem dX6_fewestShut_40 : decode cX6_fewestShut 40 = .ok (.if_icmp .ge 30, 3) := by decide +kernel
theorem dX6_fewestShut_43 : decode cX6_fewestShut 43 = .ok (.iload_n 2, 1) := by decide +kernel
theorem dX6_fewestShut_44 : decode cX6_fewestShut 44 = .ok (.invokestatic 99, 3) := by decide +kernel
theorem dX6_fewestShut_47 : decode cX6_fewestShut 47 = .ok (.iload_n 1, 1) := by decide +kernel
theorem dX6_fewestShut_48 : decode cX6_fewestShut 48 = .ok (.invokestatic 99, 3) := by decide +kernel
theorem dX6_fewestShut_51 : decode cX6_fewestShut 51 = .ok (.if_icmp .ge 13, 3) := by decide +kernel
theorem dX6_fewestShut_54 : decode cX6_fewestShut 54 = .ok (.aload_n 0, 1) := by decide +kernel
theorem dX6_fewestShut_55 : decode cX6_fewestShut 55 = .ok (.iload_n 2, 1) := by decide +kernel
theorem dX6_fewestShut_56 : decode cX6_fewestShut 56 = .ok (.invokevirtual 104, 3) := by decide +kernel
theorem dX6_fewestShut_59 : decode cX6_fewestShut 59 = .ok (.ifCond .eq 5, 3) := by decide +kernel
theorem dX6_fewestShut_62 : decode cX6_fewestShut 62 = .ok (.iload_n 2, 1) := by decide +kernel
theorem dX6_fewestShut_63 : decode cX6_fewestShut 63 = .ok (.istore_n 1, 1) := by decide +kernel
theorem dX6_fewestShut_64 : decode cX6_fewestShut 64 = .ok (.iinc 2 1, 3) := by decide +kernel
theorem dX6_fewestShut_67 : decode cX6_fewestShut 67 = .ok (.goto (-31), 3) := by decide +kernel
theorem dX6_fewestShut_70 : decode cX6_fewestShut 70 = .ok (.iload_n 1, 1) := by decide +kernel
theorem dX6_fewestShut_71 : decode cX6_fewestShut 71 = .ok (.ireturn, 1) := by decide +kernel
theorem dX6_holdsIn_0 : decode cX6_holdsIn 0 = .ok (.iconst 0, 1) := by decide +kernel
theorem dX6_holdsIn_1 : decode cX6_holdsIn 1 = .ok (.istore_n 2, 1) := by decide +kernel
theorem dX6_holdsIn_2 : decode cX6_holdsIn 2 = .ok (.iload_n 2, 1) := by decide +kernel
theorem dX6_holdsIn_3 : decode cX6_holdsIn 3 = .ok (.aload_n 0, 1) := by decide +kernel
theorem dX6_holdsIn_4 : decode cX6_holdsIn 4 = .ok (.getfield 15, 3) := by decide +kernel
theorem dX6_holdsIn_7 : decode cX6_holdsIn 7 = .ok (.getfield 80, 3) := by decide +kernel
theorem dX6_holdsIn_10 : decode cX6_holdsIn 10 = .ok (.if_icmp .ge 49, 3) := by decide +kernel
theorem dX6_holdsIn_13 : decode cX6_holdsIn 13 = .ok (.iload_n 1, 1) := by decide +kernel
theorem dX6_holdsIn_14 : decode cX6_holdsIn 14 = .ok (.aload_n 0, 1) := by decide +kernel
theorem dX6_holdsIn_15 : decode cX6_holdsIn 15 = .ok (.getfield 19, 3) := by decide +kernel
theorem dX6_holdsIn_18 : decode cX6_holdsIn 18 = .ok (.iload_n 2, 1) := by decide +kernel
theorem dX6_holdsIn_19 : decode cX6_holdsIn 19 = .ok (.invokevirtual 27, 3) := by decide +kernel
theorem dX6_holdsIn_22 : decode cX6_holdsIn 22 = .ok (.ishr, 1) := by decide +kernel
theorem dX6_holdsIn_23 : decode cX6_holdsIn 23 = .ok (.iconst 1, 1) := by decide +kernel
theorem dX6_holdsIn_24 : decode cX6_holdsIn 24 = .ok (.iand, 1) := by decide +kernel
theorem dX6_holdsIn_25 : decode cX6_holdsIn 25 = .ok (.ifCond .eq 7, 3) := by decide +kernel
theorem dX6_holdsIn_28 : decode cX6_holdsIn 28 = .ok (.iconst 1, 1) := by decide +kernel
theorem dX6_holdsIn_29 : decode cX6_holdsIn 29 = .ok (.goto 4, 3) := by decide +kernel
theorem dX6_holdsIn_32 : decode cX6_holdsIn 32 = .ok (.iconst 0, 1) := by decide +kernel
theorem dX6_holdsIn_33 : decode cX6_holdsIn 33 = .ok (.istore_n 3, 1) := by decide +kernel
theorem dX6_holdsIn_34 : decode cX6_holdsIn 34 = .ok (.iload_n 3, 1) := by decide +kernel
theorem dX6_holdsIn_35 : decode cX6_holdsIn 35 = .ok (.ifCond .ne 18, 3) := by decide +kernel
theorem dX6_holdsIn_38 : decode cX6_holdsIn 38 = .ok (.aload_n 0, 1) := by decide +kernel
theorem dX6_holdsIn_39 : decode cX6_holdsIn 39 = .ok (.getfield 9, 3) := by decide +kernel
theorem dX6_holdsIn_42 : decode cX6_holdsIn 42 = .ok (.iload_n 2, 1) := by decide +kernel
theorem dX6_holdsIn_43 : decode cX6_holdsIn 43 = .ok (.iaload, 1) := by decide +kernel
theorem dX6_holdsIn_44 : decode cX6_holdsIn 44 = .ok (.iload_n 1, 1) := by decide +kernel
theorem dX6_holdsIn_45 : decode cX6_holdsIn 45 = .ok (.iconst (-1), 1) := by decide +kernel
theorem dX6_holdsIn_46 : decode cX6_holdsIn 46 = .ok (.ixor, 1) := by decide +kernel
theorem dX6_holdsIn_47 : decode cX6_holdsIn 47 = .ok (.iand, 1) := by decide +kernel
theorem dX6_holdsIn_48 : decode cX6_holdsIn 48 = .ok (.ifCond .eq 5, 3) := by decide +kernel
theorem dX6_holdsIn_51 : decode cX6_holdsIn 51 = .ok (.iconst 0, 1) := by decide +kernel
theorem dX6_holdsIn_52 : decode cX6_holdsIn 52 = .ok (.ireturn, 1) := by decide +kernel
theorem dX6_holdsIn_53 : decode cX6_holdsIn 53 = .ok (.iinc 2 1, 3) := by decide +kernel
theorem dX6_holdsIn_56 : decode cX6_holdsIn 56 = .ok (.goto (-54), 3) := by decide +kernel
theorem dX6_holdsIn_59 : decode cX6_holdsIn 59 = .ok (.iconst 1, 1) := by decide +kernel
theorem dX6_holdsIn_60 : decode cX6_holdsIn 60 = .ok (.ireturn, 1) := by decide +kernel
theorem dX6_smeltWhereLived_0 : decode cX6_smeltWhereLived 0 = .ok (.iconst 0, 1) := by decide +kernel
theorem dX6_smeltWhereLived_1 : decode cX6_smeltWhereLived 1 = .ok (.istore_n 1, 1) := by decide +kernel
theorem dX6_smeltWhereLived_2 : decode cX6_smeltWhereLived 2 = .ok (.iconst 0, 1) := by decide +kernel
theorem dX6_smeltWhereLived_3 : decode cX6_smeltWhereLived 3 = .ok (.istore_n 2, 1) := by decide +kernel
theorem dX6_smeltWhereLived_4 : decode cX6_smeltWhereLived 4 = .ok (.iload_n 2, 1) := by decide +kernel
theorem dX6_smeltWhereLived_5 : decode cX6_smeltWhereLived 5 = .ok (.aload_n 0, 1) := by decide +kernel
theorem dX6_smeltWhereLived_6 : decode cX6_smeltWhereLived 6 = .ok (.getfield 15, 3) := by decide +kernel
theorem dX6_smeltWhereLived_9 : decode cX6_smeltWhereLived 9 = .ok (.getfield 107, 3) := by decide +kernel
theorem dX6_smeltWhereLived_12 : decode cX6_smeltWhereLived 12 = .ok (.if_icmp .ge 23, 3) := by decide +kernel
theorem dX6_smeltWhereLived_15 : decode cX6_smeltWhereLived 15 = .ok (.iload_n 1, 1) := by decide +kernel
theorem dX6_smeltWhereLived_16 : decode cX6_smeltWhereLived 16 = .ok (.iconst 1, 1) := by decide +kernel
theorem dX6_smeltWhereLived_17 : decode cX6_smeltWhereLived 17 = .ok (.aload_n 0, 1) := by decide +kernel
theorem dX6_smeltWhereLived_18 : decode cX6_smeltWhereLived 18 = .ok (.getfield 19, 3) := by decide +kernel
theorem dX6_smeltWhereLived_21 : decode cX6_smeltWhereLived 21 = .ok (.getfield 110, 3) := by decide +kernel
theorem dX6_smeltWhereLived_24 : decode cX6_smeltWhereLived 24 = .ok (.iload_n 2, 1) := by decide +kernel
theorem dX6_smeltWhereLived_25 : decode cX6_smeltWhereLived 25 = .ok (.iaload, 1) := by decide +kernel
theorem dX6_smeltWhereLived_26 : decode cX6_smeltWhereLived 26 = .ok (.ishl, 1) := by decide +kernel
theorem dX6_smeltWhereLived_27 : decode cX6_smeltWhereLived 27 = .ok (.ior, 1) := by decide +kernel
theorem dX6_smeltWhereLived_28 : decode cX6_smeltWhereLived 28 = .ok (.istore_n 1, 1) := by decide +kernel
theorem dX6_smeltWhereLived_29 : decode cX6_smeltWhereLived 29 = .ok (.iinc 2 1, 3) := by decide +kernel
theorem dX6_smeltWhereLived_32 : decode cX6_smeltWhereLived 32 = .ok (.goto (-28), 3) := by decide +kernel
theorem dX6_smeltWhereLived_35 : decode cX6_smeltWhereLived 35 = .ok (.iconst 0, 1) := by decide +kernel
theorem dX6_smeltWhereLived_36 : decode cX6_smeltWhereLived 36 = .ok (.istore_n 2, 1) := by decide +kernel
theorem dX6_smeltWhereLived_37 : decode cX6_smeltWhereLived 37 = .ok (.iconst 0, 1) := by decide +kernel
theorem dX6_smeltWhereLived_38 : decode cX6_smeltWhereLived 38 = .ok (.istore_n 3, 1) := by decide +kernel
theorem dX6_smeltWhereLived_39 : decode cX6_smeltWhereLived 39 = .ok (.iload_n 3, 1) := by decide +kernel
theorem dX6_smeltWhereLived_40 : decode cX6_smeltWhereLived 40 = .ok (.aload_n 0, 1) := by decide +kernel
theorem dX6_smeltWhereLived_41 : decode cX6_smeltWhereLived 41 = .ok (.getfield 15, 3) := by decide +kernel
theorem dX6_smeltWhereLived_44 : decode cX6_smeltWhereLived 44 = .ok (.getfield 80, 3) := by decide +kernel
theorem dX6_smeltWhereLived_47 : decode cX6_smeltWhereLived 47 = .ok (.if_icmp .ge 22, 3) := by decide +kernel
theorem dX6_smeltWhereLived_50 : decode cX6_smeltWhereLived 50 = .ok (.aload_n 0, 1) := by decide +kernel
theorem dX6_smeltWhereLived_51 : decode cX6_smeltWhereLived 51 = .ok (.iload_n 3, 1) := by decide +kernel
theorem dX6_smeltWhereLived_52 : decode cX6_smeltWhereLived 52 = .ok (.invokevirtual 96, 3) := by decide +kernel
theorem dX6_smeltWhereLived_55 : decode cX6_smeltWhereLived 55 = .ok (.iload_n 1, 1) := by decide +kernel
theorem dX6_smeltWhereLived_56 : decode cX6_smeltWhereLived 56 = .ok (.iand, 1) := by decide +kernel
theorem dX6_smeltWhereLived_57 : decode cX6_smeltWhereLived 57 = .ok (.ifCond .eq 6, 3) := by decide +kernel
theorem dX6_smeltWhereLived_60 : decode cX6_smeltWhereLived 60 = .ok (.iinc 2 1, 3) := by decide +kernel
theorem dX6_smeltWhereLived_63 : decode cX6_smeltWhereLived 63 = .ok (.iinc 3 1, 3) := by decide +kernel
theorem dX6_smeltWhereLived_66 : decode cX6_smeltWhereLived 66 = .ok (.goto (-27), 3) := by decide +kernel
theorem dX6_smeltWhereLived_69 : decode cX6_smeltWhereLived 69 = .ok (.iload_n 2, 1) := by decide +kernel
theorem dX6_smeltWhereLived_70 : decode cX6_smeltWhereLived 70 = .ok (.ireturn, 1) := by decide +kernel
theorem dX7_init_0 : decode cX7_init 0 = .ok (.aload_n 0, 1) := by decide +kernel
theorem dX7_init_1 : decode cX7_init 1 = .ok (.invokespecial 3, 3) := by decide +kernel
theorem dX7_init_4 : decode cX7_init 4 = .ok (.aload_n 0, 1) := by decide +kernel
theorem dX7_init_5 : decode cX7_init 5 = .ok (.bipush 10, 2) := by decide +kernel
theorem dX7_init_7 : decode cX7_init 7 = .ok (.newarray .int, 2) := by decide +kernel
theorem dX7_init_9 : decode cX7_init 9 = .ok (.putfield 9, 3) := by decide +kernel
theorem dX7_init_12 : decode cX7_init 12 = .ok (.aload_n 0, 1) := by decide +kernel
theorem dX7_init_13 : decode cX7_init 13 = .ok (.bipush 10, 2) := by decide +kernel
theorem dX7_init_15 : decode cX7_init 15 = .ok (.newarray .int, 2) := by decide +kernel
theorem dX7_init_17 : decode cX7_init 17 = .ok (.putfield 15, 3) := by decide +kernel
theorem dX7_init_20 : decode cX7_init 20 = .ok (.aload_n 0, 1) := by decide +kernel
theorem dX7_init_21 : decode cX7_init 21 = .ok (.bipush 10, 2) := by decide +kernel
theorem dX7_init_23 : decode cX7_init 23 = .ok (.newarray .int, 2) := by decide +kernel
theorem dX7_init_25 : decode cX7_init 25 = .ok (.putfield 18, 3) := by decide +kernel
theorem dX7_init_28 : decode cX7_init 28 = .ok (.aload_n 0, 1) := by decide +kernel
theorem dX7_init_29 : decode cX7_init 29 = .ok (.bipush 10, 2) := by decide +kernel
theorem dX7_init_31 : decode cX7_init 31 = .ok (.newarray .int, 2) := by decide +kernel
theorem dX7_init_33 : decode cX7_init 33 = .ok (.putfield 21, 3) := by decide +kernel
theorem dX7_init_36 : decode cX7_init 36 = .ok (.aload_n 0, 1) := by decide +kernel
theorem dX7_init_37 : decode cX7_init 37 = .ok (.bipush 10, 2) := by decide +kernel
theorem dX7_init_39 : decode cX7_init 39 = .ok (.newarray .int, 2) := by decide +kernel
theorem dX7_init_41 : decode cX7_init 41 = .ok (.putfield 24, 3) := by decide +kernel
theorem dX7_init_44 : decode cX7_init 44 = .ok (.aload_n 0, 1) := by decide +kernel
theorem dX7_init_45 : decode cX7_init 45 = .ok (.bipush 10, 2) := by decide +kernel
theorem dX7_init_47 : decode cX7_init 47 = .ok (.newarray .int, 2) := by decide +kernel
theorem dX7_init_49 : decode cX7_init 49 = .ok (.putfield 27, 3) := by decide +kernel
theorem dX7_init_52 : decode cX7_init 52 = .ok (.aload_n 0, 1) := by decide +kernel
theorem dX7_init_53 : decode cX7_init 53 = .ok (.bipush 12, 2) := by decide +kernel
theorem dX7_init_55 : decode cX7_init 55 = .ok (.putfield 30, 3) := by decide +kernel
theorem dX7_init_58 : decode cX7_init 58 = .ok (.aload_n 0, 1) := by decide +kernel
theorem dX7_init_59 : decode cX7_init 59 = .ok (.iconst 5, 1) := by decide +kernel
theorem dX7_init_60 : decode cX7_init 60 = .ok (.putfield 34, 3) := by decide +kernel
theorem dX7_init_63 : decode cX7_init 63 = .ok (.return_, 1) := by decide +kernel
theorem dX7_isPerson_0 : decode cX7_isPerson 0 = .ok (.iload_n 1, 1) := by decide +kernel
theorem dX7_isPerson_1 : decode cX7_isPerson 1 = .ok (.ifCond .lt 21, 3) := by decide +kernel
theorem dX7_isPerson_4 : decode cX7_isPerson 4 = .ok (.iload_n 1, 1) := by decide +kernel
theorem dX7_isPerson_5 : decode cX7_isPerson 5 = .ok (.aload_n 0, 1) := by decide +kernel
theorem dX7_isPerson_6 : decode cX7_isPerson 6 = .ok (.getfield 37, 3) := by decide +kernel
theorem dX7_isPerson_9 : decode cX7_isPerson 9 = .ok (.if_icmp .ge 13, 3) := by decide +kernel
theorem dX7_isPerson_12 : decode cX7_isPerson 12 = .ok (.iload_n 1, 1) := by decide +kernel
theorem dX7_isPerson_13 : decode cX7_isPerson 13 = .ok (.bipush 7, 2) := by decide +kernel
theorem dX7_isPerson_15 : decode cX7_isPerson 15 = .ok (.if_icmp .ge 7, 3) := by decide +kernel
theorem dX7_isPerson_18 : decode cX7_isPerson 18 = .ok (.iconst 1, 1) := by decide +kernel
theorem dX7_isPerson_19 : decode cX7_isPerson 19 = .ok (.goto 4, 3) := by decide +kernel
theorem dX7_isPerson_22 : decode cX7_isPerson 22 = .ok (.iconst 0, 1) := by decide +kernel
theorem dX7_isPerson_23 : decode cX7_isPerson 23 = .ok (.ireturn, 1) := by decide +kernel
theorem dX7_isJoy_0 : decode cX7_isJoy 0 = .ok (.iload_n 1, 1) := by decide +kernel
theorem dX7_isJoy_1 : decode cX7_isJoy 1 = .ok (.ifCond .lt 21, 3) := by decide +kernel
theorem dX7_isJoy_4 : decode cX7_isJoy 4 = .ok (.iload_n 1, 1) := by decide +kernel
theorem dX7_isJoy_5 : decode cX7_isJoy 5 = .ok (.aload_n 0, 1) := by decide +kernel
theorem dX7_isJoy_6 : decode cX7_isJoy 6 = .ok (.getfield 40, 3) := by decide +kernel
theorem dX7_isJoy_9 : decode cX7_isJoy 9 = .ok (.if_icmp .ge 13, 3) := by decide +kernel
theorem dX7_isJoy_12 : decode cX7_isJoy 12 = .ok (.iload_n 1, 1) := by decide +kernel
theorem dX7_isJoy_13 : decode cX7_isJoy 13 = .ok (.bipush 10, 2) := by decide +kernel
theorem dX7_isJoy_15 : decode cX7_isJoy 15 = .ok (.if_icmp .ge 7, 3) := by decide +kernel
theorem dX7_isJoy_18 : decode cX7_isJoy 18 = .ok (.iconst 1, 1) := by decide +kernel
theorem dX7_isJoy_19 : decode cX7_isJoy 19 = .ok (.goto 4, 3) := by decide +kernel
theorem dX7_isJoy_22 : decode cX7_isJoy 22 = .ok (.iconst 0, 1) := by decide +kernel
theorem dX7_isJoy_23 : decode cX7_isJoy 23 = .ok (.ireturn, 1) := by decide +kernel
theorem dX7_addJoy_0 : decode cX7_addJoy 0 = .ok (.aload_n 0, 1) := by decide +kernel
theorem dX7_addJoy_1 : decode cX7_addJoy 1 = .ok (.getfield 40, 3) := by decide +kernel
theorem dX7_addJoy_4 : decode cX7_addJoy 4 = .ok (.bipush 10, 2) := by decide +kernel
theorem dX7_addJoy_6 : decode cX7_addJoy 6 = .ok (.if_icmp .lt 6, 3) := by decide +kernel
theorem dX7_addJoy_9 : decode cX7_addJoy 9 = .ok (.bipush (-3), 2) := by decide +kernel
theorem dX7_addJoy_11 : decode cX7_addJoy 11 = .ok (.ireturn, 1) := by decide +kernel
theorem dX7_addJoy_12 : decode cX7_addJoy 12 = .ok (.aload_n 0, 1) := by decide +kernel
theorem dX7_addJoy_13 : decode cX7_addJoy 13 = .ok (.getfield 9, 3) := by decide +kernel
theorem dX7_addJoy_16 : decode cX7_addJoy 16 = .ok (.aload_n 0, 1) := by decide +kernel
theorem dX7_addJoy_17 : decode cX7_addJoy 17 = .ok (.getfield 40, 3) := by decide +kernel
theorem dX7_addJoy_20 : decode cX7_addJoy 20 = .ok (.iload_n 1, 1) := by decide +kernel
theorem dX7_addJoy_21 : decode cX7_addJoy 21 = .ok (.iastore, 1) := by decide +kernel
theorem dX7_addJoy_22 : decode cX7_addJoy 22 = .ok (.aload_n 0, 1) := by decide +kernel
theorem dX7_addJoy_23 : decode cX7_addJoy 23 = .ok (.getfield 15, 3) := by decide +kernel
theorem dX7_addJoy_26 : decode cX7_addJoy 26 = .ok (.aload_n 0, 1) := by decide +kernel
theorem dX7_addJoy_27 : decode cX7_addJoy 27 = .ok (.getfield 40, 3) := by decide +kernel
theorem dX7_addJoy_30 : decode cX7_addJoy 30 = .ok (.iload_n 2, 1) := by decide +kernel
theorem dX7_addJoy_31 : decode cX7_addJoy 31 = .ok (.iastore, 1) := by decide +kernel
theorem dX7_addJoy_32 : decode cX7_addJoy 32 = .ok (.aload_n 0, 1) := by decide +kernel
theorem dX7_addJoy_33 : decode cX7_addJoy 33 = .ok (.getfield 18, 3) := by decide +kernel
theorem dX7_addJoy_36 : decode cX7_addJoy 36 = .ok (.aload_n 0, 1) := by decide +kernel
theorem dX7_addJoy_37 : decode cX7_addJoy 37 = .ok (.getfield 40, 3) := by decide +kernel
theorem dX7_addJoy_40 : decode cX7_addJoy 40 = .ok (.iconst 2, 1) := by decide +kernel
theorem dX7_addJoy_41 : decode cX7_addJoy 41 = .ok (.iastore, 1) := by decide +kernel
theorem dX7_addJoy_42 : decode cX7_addJoy 42 = .ok (.aload_n 0, 1) := by decide +kernel
theorem dX7_addJoy_43 : decode cX7_addJoy 43 = .ok (.getfield 21, 3) := by decide +kernel
theorem dX7_addJoy_46 : decode cX7_addJoy 46 = .ok (.aload_n 0, 1) := by decide +kernel
theorem dX7_addJoy_47 : decode cX7_addJoy 47 = .ok (.getfield 40, 3) := by decide +kernel
theorem dX7_addJoy_50 : decode cX7_addJoy 50 = .ok (.bipush 9, 2) := by decide +kernel
theorem dX7_addJoy_52 : decode cX7_addJoy 52 = .ok (.iastore, 1) := by decide +kernel
theorem dX7_addJoy_53 : decode cX7_addJoy 53 = .ok (.aload_n 0, 1) := by decide +kernel
theorem dX7_addJoy_54 : decode cX7_addJoy 54 = .ok (.getfield 24, 3) := by decide +kernel
theorem dX7_addJoy_57 : decode cX7_addJoy 57 = .ok (.aload_n 0, 1) := by decide +kernel
theorem dX7_addJoy_58 : decode cX7_addJoy 58 = .ok (.getfield 40, 3) := by decide +kernel
theorem dX7_addJoy_61 : decode cX7_addJoy 61 = .ok (.iconst 5, 1) := by decide +kernel
theorem dX7_addJoy_62 : decode cX7_addJoy 62 = .ok (.iastore, 1) := by decide +kernel
theorem dX7_addJoy_63 : decode cX7_addJoy 63 = .ok (.aload_n 0, 1) := by decide +kernel
theorem dX7_addJoy_64 : decode cX7_addJoy 64 = .ok (.dup, 1) := by decide +kernel
theorem dX7_addJoy_65 : decode cX7_addJoy 65 = .ok (.getfield 40, 3) := by decide +kernel
theorem dX7_addJoy_68 : decode cX7_addJoy 68 = .ok (.dup_x1, 1) := by decide +kernel
theorem dX7_addJoy_69 : decode cX7_addJoy 69 = .ok (.iconst 1, 1) := by decide +kernel
theorem dX7_addJoy_70 : decode cX7_addJoy 70 = .ok (.iadd, 1) := by decide +kernel
theorem dX7_addJoy_71 : decode cX7_addJoy 71 = .ok (.putfield 40, 3) := by decide +kernel
theorem dX7_addJoy_74 : decode cX7_addJoy 74 = .ok (.ireturn, 1) := by decide +kernel
theorem dX8_init_0 : decode cX8_init 0 = .ok (.aload_n 0, 1) := by decide +kernel
theorem dX8_init_1 : decode cX8_init 1 = .ok (.invokespecial 1, 3) := by decide +kernel
theorem dX8_init_4 : decode cX8_init 4 = .ok (.aload_n 0, 1) := by decide +kernel
theorem dX8_init_5 : decode cX8_init 5 = .ok (.new 7, 3) := by decide +kernel
theorem dX8_init_8 : decode cX8_init 8 = .ok (.dup, 1) := by decide +kernel
theorem dX8_init_9 : decode cX8_init 9 = .ok (.invokespecial 9, 3) := by decide +kernel
theorem dX8_init_12 : decode cX8_init 12 = .ok (.putfield 10, 3) := by decide +kernel
theorem dX8_init_15 : decode cX8_init 15 = .ok (.aload_n 0, 1) := by decide +kernel
theorem dX8_init_16 : decode cX8_init 16 = .ok (.bipush 120, 2) := by decide +kernel
theorem dX8_init_18 : decode cX8_init 18 = .ok (.newarray .int, 2) := by decide +kernel
theorem dX8_init_20 : decode cX8_init 20 = .ok (.putfield 16, 3) := by decide +kernel
theorem dX8_init_23 : decode cX8_init 23 = .ok (.return_, 1) := by decide +kernel
theorem dX8_append_0 : decode cX8_append 0 = .ok (.aload_n 0, 1) := by decide +kernel
theorem dX8_append_1 : decode cX8_append 1 = .ok (.getfield 20, 3) := by decide +kernel
theorem dX8_append_4 : decode cX8_append 4 = .ok (.bipush 120, 2) := by decide +kernel
theorem dX8_append_6 : decode cX8_append 6 = .ok (.if_icmp .lt 5, 3) := by decide +kernel
theorem dX8_append_9 : decode cX8_append 9 = .ok (.iconst 0, 1) := by decide +kernel
theorem dX8_append_10 : decode cX8_append 10 = .ok (.ireturn, 1) := by decide +kernel
theorem dX8_append_11 : decode cX8_append 11 = .ok (.aload_n 0, 1) := by decide +kernel
theorem dX8_append_12 : decode cX8_append 12 = .ok (.getfield 16, 3) := by decide +kernel
theorem dX8_append_15 : decode cX8_append 15 = .ok (.aload_n 0, 1) := by decide +kernel
theorem dX8_append_16 : decode cX8_append 16 = .ok (.dup, 1) := by decide +kernel
theorem dX8_append_17 : decode cX8_append 17 = .ok (.getfield 20, 3) := by decide +kernel
theorem dX8_append_20 : decode cX8_append 20 = .ok (.dup_x1, 1) := by decide +kernel
theorem dX8_append_21 : decode cX8_append 21 = .ok (.iconst 1, 1) := by decide +kernel
theorem dX8_append_22 : decode cX8_append 22 = .ok (.iadd, 1) := by decide +kernel
theorem dX8_append_23 : decode cX8_append 23 = .ok (.putfield 20, 3) := by decide +kernel
theorem dX8_append_26 : decode cX8_append 26 = .ok (.iload_n 1, 1) := by decide +kernel
theorem dX8_append_27 : decode cX8_append 27 = .ok (.iastore, 1) := by decide +kernel
theorem dX8_append_28 : decode cX8_append 28 = .ok (.iconst 1, 1) := by decide +kernel
theorem dX8_append_29 : decode cX8_append 29 = .ok (.ireturn, 1) := by decide +kernel
theorem dX8_readLaw_0 : decode cX8_readLaw 0 = .ok (.aload_n 0, 1) := by decide +kernel
theorem dX8_readLaw_1 : decode cX8_readLaw 1 = .ok (.iconst 0, 1) := by decide +kernel
theorem dX8_readLaw_2 : decode cX8_readLaw 2 = .ok (.putfield 24, 3) := by decide +kernel
theorem dX8_readLaw_5 : decode cX8_readLaw 5 = .ok (.aload_n 0, 1) := by decide +kernel
theorem dX8_readLaw_6 : decode cX8_readLaw 6 = .ok (.iconst 0, 1) := by decide +kernel
theorem dX8_readLaw_7 : decode cX8_readLaw 7 = .ok (.putfield 27, 3) := by decide +kernel
theorem dX8_readLaw_10 : decode cX8_readLaw 10 = .ok (.aload_n 0, 1) := by decide +kernel
theorem dX8_readLaw_11 : decode cX8_readLaw 11 = .ok (.getfield 10, 3) := by decide +kernel
theorem dX8_readLaw_14 : decode cX8_readLaw 14 = .ok (.invokevirtual 31, 3) := by decide +kernel
theorem dX8_readLaw_17 : decode cX8_readLaw 17 = .ok (.aload_n 0, 1) := by decide +kernel
theorem dX8_readLaw_18 : decode cX8_readLaw 18 = .ok (.invokevirtual 34, 3) := by decide +kernel
theorem dX8_readLaw_21 : decode cX8_readLaw 21 = .ok (.iconst 0, 1) := by decide +kernel
theorem dX8_readLaw_22 : decode cX8_readLaw 22 = .ok (.istore_n 1, 1) := by decide +kernel
theorem dX8_readLaw_23 : decode cX8_readLaw 23 = .ok (.iload_n 1, 1) := by decide +kernel
theorem dX8_readLaw_24 : decode cX8_readLaw 24 = .ok (.bipush 120, 2) := by decide +kernel
theorem dX8_readLaw_26 : decode cX8_readLaw 26 = .ok (.if_icmp .ge 22, 3) := by decide +kernel
theorem dX8_readLaw_29 : decode cX8_readLaw 29 = .ok (.aload_n 0, 1) := by decide +kernel
theorem dX8_readLaw_30 : decode cX8_readLaw 30 = .ok (.bipush 59, 2) := by decide +kernel
theorem dX8_readLaw_32 : decode cX8_readLaw 32 = .ok (.invokevirtual 37, 3) := by decide +kernel
theorem dX8_readLaw_35 : decode cX8_readLaw 35 = .ok (.ifCond .eq 13, 3) := by decide +kernel
theorem dX8_readLaw_38 : decode cX8_readLaw 38 = .ok (.aload_n 0, 1) := by decide +kernel
theorem dX8_readLaw_39 : decode cX8_readLaw 39 = .ok (.invokevirtual 34, 3) := by decide +kernel
theorem dX8_readLaw_42 : decode cX8_readLaw 42 = .ok (.iinc 1 1, 3) := by decide +kernel
theorem dX8_readLaw_45 : decode cX8_readLaw 45 = .ok (.goto (-22), 3) := by decide +kernel
theorem dX8_readLaw_48 : decode cX8_readLaw 48 = .ok (.aload_n 0, 1) := by decide +kernel
theorem dX8_readLaw_49 : decode cX8_readLaw 49 = .ok (.getfield 27, 3) := by decide +kernel
theorem dX8_readLaw_52 : decode cX8_readLaw 52 = .ok (.ifCond .ne 14, 3) := by decide +kernel
theorem dX8_readLaw_55 : decode cX8_readLaw 55 = .ok (.aload_n 0, 1) := by decide +kernel
theorem dX8_readLaw_56 : decode cX8_readLaw 56 = .ok (.getfield 24, 3) := by decide +kernel
theorem dX8_readLaw_59 : decode cX8_readLaw 59 = .ok (.aload_n 0, 1) := by decide +kernel
theorem dX8_readLaw_60 : decode cX8_readLaw 60 = .ok (.getfield 20, 3) := by decide +kernel
theorem dX8_readLaw_63 : decode cX8_readLaw 63 = .ok (.if_icmp .ge 13, 3) := by decide +kernel
theorem dX8_readLaw_66 : decode cX8_readLaw 66 = .ok (.bipush (-100), 2) := by decide +kernel
theorem dX8_readLaw_68 : decode cX8_readLaw 68 = .ok (.aload_n 0, 1) := by decide +kernel
theorem dX8_readLaw_69 : decode cX8_readLaw 69 = .ok (.getfield 24, 3) := by decide +kernel
theorem dX8_readLaw_72 : decode cX8_readLaw 72 = .ok (.isub, 1) := by decide +kernel
theorem dX8_readLaw_73 : decode cX8_readLaw 73 = .ok (.goto 4, 3) := by decide +kernel
theorem dX8_readLaw_76 : decode cX8_readLaw 76 = .ok (.iconst 1, 1) := by decide +kernel
theorem dX8_readLaw_77 : decode cX8_readLaw 77 = .ok (.ireturn, 1) := by decide +kernel
theorem dX8_next_0 : decode cX8_next 0 = .ok (.aload_n 0, 1) := by decide +kernel
theorem dX8_next_1 : decode cX8_next 1 = .ok (.getfield 27, 3) := by decide +kernel
theorem dX8_next_4 : decode cX8_next 4 = .ok (.ifCond .ne 35, 3) := by decide +kernel
theorem dX8_next_7 : decode cX8_next 7 = .ok (.aload_n 0, 1) := by decide +kernel
theorem dX8_next_8 : decode cX8_next 8 = .ok (.getfield 24, 3) := by decide +kernel
theorem dX8_next_11 : decode cX8_next 11 = .ok (.aload_n 0, 1) := by decide +kernel
theorem dX8_next_12 : decode cX8_next 12 = .ok (.getfield 20, 3) := by decide +kernel
theorem dX8_next_15 : decode cX8_next 15 = .ok (.if_icmp .ge 24, 3) := by decide +kernel
theorem dX8_next_18 : decode cX8_next 18 = .ok (.aload_n 0, 1) := by decide +kernel
theorem dX8_next_19 : decode cX8_next 19 = .ok (.getfield 24, 3) := by decide +kernel
theorem dX8_next_22 : decode cX8_next 22 = .ok (.bipush 120, 2) := by decide +kernel
theorem dX8_next_24 : decode cX8_next 24 = .ok (.if_icmp .ge 15, 3) := by decide +kernel
theorem dX8_next_27 : decode cX8_next 27 = .ok (.aload_n 0, 1) := by decide +kernel
theorem dX8_next_28 : decode cX8_next 28 = .ok (.getfield 16, 3) := by decide +kernel
theorem dX8_next_31 : decode cX8_next 31 = .ok (.aload_n 0, 1) := by decide +kernel
theorem dX8_next_32 : decode cX8_next 32 = .ok (.getfield 24, 3) := by decide +kernel
theorem dX8_next_35 : decode cX8_next 35 = .ok (.iaload, 1) := by decide +kernel
theorem dX8_next_36 : decode cX8_next 36 = .ok (.goto 4, 3) := by decide +kernel
theorem dX8_next_39 : decode cX8_next 39 = .ok (.iconst (-1), 1) := by decide +kernel
theorem dX8_next_40 : decode cX8_next 40 = .ok (.ireturn, 1) := by decide +kernel
theorem dX8_takes_0 : decode cX8_takes 0 = .ok (.aload_n 0, 1) := by decide +kernel
theorem dX8_takes_1 : decode cX8_takes 1 = .ok (.invokevirtual 41, 3) := by decide +kernel
theorem dX8_takes_4 : decode cX8_takes 4 = .ok (.iload_n 1, 1) := by decide +kernel
theorem dX8_takes_5 : decode cX8_takes 5 = .ok (.if_icmp .eq 5, 3) := by decide +kernel
theorem dX8_takes_8 : decode cX8_takes 8 = .ok (.iconst 0, 1) := by decide +kernel
theorem dX8_takes_9 : decode cX8_takes 9 = .ok (.ireturn, 1) := by decide +kernel
theorem dX8_takes_10 : decode cX8_takes 10 = .ok (.aload_n 0, 1) := by decide +kernel
theorem dX8_takes_11 : decode cX8_takes 11 = .ok (.dup, 1) := by decide +kernel
theorem dX8_takes_12 : decode cX8_takes 12 = .ok (.getfield 24, 3) := by decide +kernel
theorem dX8_takes_15 : decode cX8_takes 15 = .ok (.iconst 1, 1) := by decide +kernel
theorem dX8_takes_16 : decode cX8_takes 16 = .ok (.iadd, 1) := by decide +kernel
theorem dX8_takes_17 : decode cX8_takes 17 = .ok (.putfield 24, 3) := by decide +kernel
theorem dX8_takes_20 : decode cX8_takes 20 = .ok (.iconst 1, 1) := by decide +kernel
theorem dX8_takes_21 : decode cX8_takes 21 = .ok (.ireturn, 1) := by decide +kernel
theorem dX8_readLine_0 : decode cX8_readLine 0 = .ok (.aload_n 0, 1) := by decide +kernel
theorem dX8_readLine_1 : decode cX8_readLine 1 = .ok (.iconst 0, 1) := by decide +kernel
theorem dX8_readLine_2 : decode cX8_readLine 2 = .ok (.invokevirtual 45, 3) := by decide +kernel
theorem dX8_readLine_5 : decode cX8_readLine 5 = .ok (.aload_n 0, 1) := by decide +kernel
theorem dX8_readLine_6 : decode cX8_readLine 6 = .ok (.bipush 63, 2) := by decide +kernel
theorem dX8_readLine_8 : decode cX8_readLine 8 = .ok (.invokevirtual 37, 3) := by decide +kernel
theorem dX8_readLine_11 : decode cX8_readLine 11 = .ok (.ifCond .eq 41, 3) := by decide +kernel
theorem dX8_readLine_14 : decode cX8_readLine 14 = .ok (.aload_n 0, 1) := by decide +kernel
theorem dX8_readLine_15 : decode cX8_readLine 15 = .ok (.getfield 10, 3) := by decide +kernel
theorem dX8_readLine_18 : decode cX8_readLine 18 = .ok (.bipush 63, 2) := by decide +kernel
theorem dX8_readLine_20 : decode cX8_readLine 20 = .ok (.iconst 0, 1) := by decide +kernel
theorem dX8_readLine_21 : decode cX8_readLine 21 = .ok (.invokevirtual 49, 3) := by decide +kernel
theorem dX8_readLine_24 : decode cX8_readLine 24 = .ok (.istore_n 1, 1) := by decide +kernel
theorem dX8_readLine_25 : decode cX8_readLine 25 = .ok (.aload_n 0, 1) := by decide +kernel
theorem dX8_readLine_26 : decode cX8_readLine 26 = .ok (.iconst 0, 1) := by decide +kernel
theorem dX8_readLine_27 : decode cX8_readLine 27 = .ok (.invokevirtual 45, 3) := by decide +kernel
theorem dX8_readLine_30 : decode cX8_readLine 30 = .ok (.aload_n 0, 1) := by decide +kernel
theorem dX8_readLine_31 : decode cX8_readLine 31 = .ok (.getfield 10, 3) := by decide +kernel
theorem dX8_readLine_34 : decode cX8_readLine 34 = .ok (.bipush 59, 2) := by decide +kernel
theorem dX8_readLine_36 : decode cX8_readLine 36 = .ok (.iconst 0, 1) := by decide +kernel
theorem dX8_readLine_37 : decode cX8_readLine 37 = .ok (.invokevirtual 49, 3) := by decide +kernel
theorem dX8_readLine_40 : decode cX8_readLine 40 = .ok (.pop, 1) := by decide +kernel
theorem dX8_readLine_41 : decode cX8_readLine 41 = .ok (.aload_n 0, 1) := by decide +kernel
theorem dX8_readLine_42 : decode cX8_readLine 42 = .ok (.getfield 10, 3) := by decide +kernel
theorem dX8_readLine_45 : decode cX8_readLine 45 = .ok (.iload_n 1, 1) := by decide +kernel
theorem dX8_readLine_46 : decode cX8_readLine 46 = .ok (.invokevirtual 53, 3) := by decide +kernel
theorem dX8_readLine_49 : decode cX8_readLine 49 = .ok (.goto 14, 3) := by decide +kernel
theorem dX8_readLine_52 : decode cX8_readLine 52 = .ok (.aload_n 0, 1) := by decide +kernel
theorem dX8_readLine_53 : decode cX8_readLine 53 = .ok (.getfield 10, 3) := by decide +kernel
theorem dX8_readLine_56 : decode cX8_readLine 56 = .ok (.bipush 59, 2) := by decide +kernel
theorem dX8_readLine_58 : decode cX8_readLine 58 = .ok (.iconst 0, 1) := by decide +kernel
theorem dX8_readLine_59 : decode cX8_readLine 59 = .ok (.invokevirtual 49, 3) := by decide +kernel
theorem dX8_readLine_62 : decode cX8_readLine 62 = .ok (.pop, 1) := by decide +kernel
theorem dX8_readLine_63 : decode cX8_readLine 63 = .ok (.return_, 1) := by decide +kernel
theorem dX8_readEither_0 : decode cX8_readEither 0 = .ok (.aload_n 0, 1) := by decide +kernel
theorem dX8_readEither_1 : decode cX8_readEither 1 = .ok (.iload_n 1, 1) := by decide +kernel
theorem dX8_readEither_2 : decode cX8_readEither 2 = .ok (.invokevirtual 56, 3) := by decide +kernel
theorem dX8_readEither_5 : decode cX8_readEither 5 = .ok (.iconst 0, 1) := by decide +kernel
theorem dX8_readEither_6 : decode cX8_readEither 6 = .ok (.istore_n 2, 1) := by decide +kernel
theorem dX8_readEither_7 : decode cX8_readEither 7 = .ok (.iload_n 2, 1) := by decide +kernel
theorem dX8_readEither_8 : decode cX8_readEither 8 = .ok (.bipush 120, 2) := by decide +kernel
theorem dX8_readEither_10 : decode cX8_readEither 10 = .ok (.if_icmp .ge 34, 3) := by decide +kernel
theorem dX8_readEither_13 : decode cX8_readEither 13 = .ok (.aload_n 0, 1) := by decide +kernel
theorem dX8_readEither_14 : decode cX8_readEither 14 = .ok (.bipush 124, 2) := by decide +kernel
theorem dX8_readEither_16 : decode cX8_readEither 16 = .ok (.invokevirtual 37, 3) := by decide +kernel
theorem dX8_readEither_19 : decode cX8_readEither 19 = .ok (.ifCond .eq 25, 3) := by decide +kernel
theorem dX8_readEither_22 : decode cX8_readEither 22 = .ok (.aload_n 0, 1) := by decide +kernel
theorem dX8_readEither_23 : decode cX8_readEither 23 = .ok (.iload_n 1, 1) := by decide +kernel
theorem dX8_readEither_24 : decode cX8_readEither 24 = .ok (.invokevirtual 56, 3) := by decide +kernel
theorem dX8_readEither_27 : decode cX8_readEither 27 = .ok (.aload_n 0, 1) := by decide +kernel
theorem dX8_readEither_28 : decode cX8_readEither 28 = .ok (.getfield 10, 3) := by decide +kernel
theorem dX8_readEither_31 : decode cX8_readEither 31 = .ok (.bipush 124, 2) := by decide +kernel
theorem dX8_readEither_33 : decode cX8_readEither 33 = .ok (.iconst 0, 1) := by decide +kernel
theorem dX8_readEither_34 : decode cX8_readEither 34 = .ok (.invokevirtual 49, 3) := by decide +kernel
theorem dX8_readEither_37 : decode cX8_readEither 37 = .ok (.pop, 1) := by decide +kernel
theorem dX8_readEither_38 : decode cX8_readEither 38 = .ok (.iinc 2 1, 3) := by decide +kernel
theorem dX8_readEither_41 : decode cX8_readEither 41 = .ok (.goto (-34), 3) := by decide +kernel
theorem dX8_readEither_44 : decode cX8_readEither 44 = .ok (.return_, 1) := by decide +kernel
theorem dX8_readBoth_0 : decode cX8_readBoth 0 = .ok (.aload_n 0, 1) := by decide +kernel
theorem dX8_readBoth_1 : decode cX8_readBoth 1 = .ok (.iload_n 1, 1) := by decide +kernel
theorem dX8_readBoth_2 : decode cX8_readBoth 2 = .ok (.invokevirtual 59, 3) := by decide +kernel
theorem dX8_readBoth_5 : decode cX8_readBoth 5 = .ok (.iconst 0, 1) := by decide +kernel
theorem dX8_readBoth_6 : decode cX8_readBoth 6 = .ok (.istore_n 2, 1) := by decide +kernel
theorem dX8_readBoth_7 : decode cX8_readBoth 7 = .ok (.iload_n 2, 1) := by decide +kernel
theorem dX8_readBoth_8 : decode cX8_readBoth 8 = .ok (.bipush 120, 2) := by decide +kernel
theorem dX8_readBoth_10 : decode cX8_readBoth 10 = .ok (.if_icmp .ge 34, 3) := by decide +kernel
theorem dX8_readBoth_13 : decode cX8_readBoth 13 = .ok (.aload_n 0, 1) := by decide +kernel
theorem dX8_readBoth_14 : decode cX8_readBoth 14 = .ok (.bipush 38, 2) := by decide +kernel
theorem dX8_readBoth_16 : decode cX8_readBoth 16 = .ok (.invokevirtual 37, 3) := by decide +kernel
theorem dX8_readBoth_19 : decode cX8_readBoth 19 = .ok (.ifCond .eq 25, 3) := by decide +kernel
theorem dX8_readBoth_22 : decode cX8_readBoth 22 = .ok (.aload_n 0, 1) := by decide +kernel
theorem dX8_readBoth_23 : decode cX8_readBoth 23 = .ok (.iload_n 1, 1) := by decide +kernel
theorem dX8_readBoth_24 : decode cX8_readBoth 24 = .ok (.invokevirtual 59, 3) := by decide +kernel
theorem dX8_readBoth_27 : decode cX8_readBoth 27 = .ok (.aload_n 0, 1) := by decide +kernel
theorem dX8_readBoth_28 : decode cX8_readBoth 28 = .ok (.getfield 10, 3) := by decide +kernel
theorem dX8_readBoth_31 : decode cX8_readBoth 31 = .ok (.bipush 38, 2) := by decide +kernel
theorem dX8_readBoth_33 : decode cX8_readBoth 33 = .ok (.iconst 0, 1) := by decide +kernel
theorem dX8_readBoth_34 : decode cX8_readBoth 34 = .ok (.invokevirtual 49, 3) := by decide +kernel
theorem dX8_readBoth_37 : decode cX8_readBoth 37 = .ok (.pop, 1) := by decide +kernel
theorem dX8_readBoth_38 : decode cX8_readBoth 38 = .ok (.iinc 2 1, 3) := by decide +kernel
theorem dX8_readBoth_41 : decode cX8_readBoth 41 = .ok (.goto (-34), 3) := by decide +kernel
theorem dX8_readBoth_44 : decode cX8_readBoth 44 = .ok (.return_, 1) := by decide +kernel
theorem dX8_readCompared_0 : decode cX8_readCompared 0 = .ok (.aload_n 0, 1) := by decide +kernel
theorem dX8_readCompared_1 : decode cX8_readCompared 1 = .ok (.iload_n 1, 1) := by decide +kernel
theorem dX8_readCompared_2 : decode cX8_readCompared 2 = .ok (.invokevirtual 62, 3) := by decide +kernel
theorem dX8_readCompared_5 : decode cX8_readCompared 5 = .ok (.aload_n 0, 1) := by decide +kernel
theorem dX8_readCompared_6 : decode cX8_readCompared 6 = .ok (.invokevirtual 41, 3) := by decide +kernel
theorem dX8_readCompared_9 : decode cX8_readCompared 9 = .ok (.istore_n 2, 1) := by decide +kernel
theorem dX8_readCompared_10 : decode cX8_readCompared 10 = .ok (.iload_n 2, 1) := by decide +kernel
theorem dX8_readCompared_11 : decode cX8_readCompared 11 = .ok (.bipush 60, 2) := by decide +kernel
theorem dX8_readCompared_13 : decode cX8_readCompared 13 = .ok (.if_icmp .eq 15, 3) := by decide +kernel
theorem dX8_readCompared_16 : decode cX8_readCompared 16 = .ok (.iload_n 2, 1) := by decide +kernel
theorem dX8_readCompared_17 : decode cX8_readCompared 17 = .ok (.bipush 61, 2) := by decide +kernel
theorem dX8_readCompared_19 : decode cX8_readCompared 19 = .ok (.if_icmp .eq 9, 3) := by decide +kernel
theorem dX8_readCompared_22 : decode cX8_readCompared 22 = .ok (.iload_n 2, 1) := by decide +kernel
theorem dX8_readCompared_23 : decode cX8_readCompared 23 = .ok (.bipush 62, 2) := by decide +kernel
theorem dX8_readCompared_25 : decode cX8_readCompared 25 = .ok (.if_icmp .ne 28, 3) := by decide +kernel
theorem dX8_readCompared_28 : decode cX8_readCompared 28 = .ok (.aload_n 0, 1) := by decide +kernel
theorem dX8_readCompared_29 : decode cX8_readCompared 29 = .ok (.dup, 1) := by decide +kernel
theorem dX8_readCompared_30 : decode cX8_readCompared 30 = .ok (.getfield 24, 3) := by decide +kernel
theorem dX8_readCompared_33 : decode cX8_readCompared 33 = .ok (.iconst 1, 1) := by decide +kernel
theorem dX8_readCompared_34 : decode cX8_readCompared 34 = .ok (.iadd, 1) := by decide +kernel
theorem dX8_readCompared_35 : decode cX8_readCompared 35 = .ok (.putfield 24, 3) := by decide +kernel
theorem dX8_readCompared_38 : decode cX8_readCompared 38 = .ok (.aload_n 0, 1) := by decide +kernel
theorem dX8_readCompared_39 : decode cX8_readCompared 39 = .ok (.iload_n 1, 1) := by decide +kernel
theorem dX8_readCompared_40 : decode cX8_readCompared 40 = .ok (.invokevirtual 62, 3) := by decide +kernel
theorem dX8_readCompared_43 : decode cX8_readCompared 43 = .ok (.aload_n 0, 1) := by decide +kernel
theorem dX8_readCompared_44 : decode cX8_readCompared 44 = .ok (.getfield 10, 3) := by decide +kernel
theorem dX8_readCompared_47 : decode cX8_readCompared 47 = .ok (.iload_n 2, 1) := by decide +kernel
theorem dX8_readCompared_48 : decode cX8_readCompared 48 = .ok (.iconst 0, 1) := by decide +kernel
theorem dX8_readCompared_49 : decode cX8_readCompared 49 = .ok (.invokevirtual 49, 3) := by decide +kernel
theorem dX8_readCompared_52 : decode cX8_readCompared 52 = .ok (.pop, 1) := by decide +kernel
theorem dX8_readCompared_53 : decode cX8_readCompared 53 = .ok (.return_, 1) := by decide +kernel
theorem dX8_readSum_0 : decode cX8_readSum 0 = .ok (.aload_n 0, 1) := by decide +kernel
theorem dX8_readSum_1 : decode cX8_readSum 1 = .ok (.iload_n 1, 1) := by decide +kernel
theorem dX8_readSum_2 : decode cX8_readSum 2 = .ok (.invokevirtual 65, 3) := by decide +kernel
theorem dX8_readSum_5 : decode cX8_readSum 5 = .ok (.iconst 0, 1) := by decide +kernel
theorem dX8_readSum_6 : decode cX8_readSum 6 = .ok (.istore_n 2, 1) := by decide +kernel
theorem dX8_readSum_7 : decode cX8_readSum 7 = .ok (.iload_n 2, 1) := by decide +kernel
theorem dX8_readSum_8 : decode cX8_readSum 8 = .ok (.bipush 120, 2) := by decide +kernel
theorem dX8_readSum_10 : decode cX8_readSum 10 = .ok (.if_icmp .ge 57, 3) := by decide +kernel
theorem dX8_readSum_13 : decode cX8_readSum 13 = .ok (.aload_n 0, 1) := by decide +kernel
theorem dX8_readSum_14 : decode cX8_readSum 14 = .ok (.invokevirtual 41, 3) := by decide +kernel
theorem dX8_readSum_17 : decode cX8_readSum 17 = .ok (.bipush 43, 2) := by decide +kernel
theorem dX8_readSum_19 : decode cX8_readSum 19 = .ok (.if_icmp .eq 12, 3) := by decide +kernel
theorem dX8_readSum_22 : decode cX8_readSum 22 = .ok (.aload_n 0, 1) := by decide +kernel
theorem dX8_readSum_23 : decode cX8_readSum 23 = .ok (.invokevirtual 41, 3) := by decide +kernel
theorem dX8_readSum_26 : decode cX8_readSum 26 = .ok (.bipush 45, 2) := by decide +kernel
theorem dX8_readSum_28 : decode cX8_readSum 28 = .ok (.if_icmp .ne 39, 3) := by decide +kernel
theorem dX8_readSum_31 : decode cX8_readSum 31 = .ok (.aload_n 0, 1) := by decide +kernel
theorem dX8_readSum_32 : decode cX8_readSum 32 = .ok (.invokevirtual 41, 3) := by decide +kernel
theorem dX8_readSum_35 : decode cX8_readSum 35 = .ok (.istore_n 3, 1) := by decide +kernel
theorem dX8_readSum_36 : decode cX8_readSum 36 = .ok (.aload_n 0, 1) := by decide +kernel
theorem dX8_readSum_37 : decode cX8_readSum 37 = .ok (.dup, 1) := by decide +kernel
theorem dX8_readSum_38 : decode cX8_readSum 38 = .ok (.getfield 24, 3) := by decide +kernel
theorem dX8_readSum_41 : decode cX8_readSum 41 = .ok (.iconst 1, 1) := by decide +kernel
theorem dX8_readSum_42 : decode cX8_readSum 42 = .ok (.iadd, 1) := by decide +kernel
theorem dX8_readSum_43 : decode cX8_readSum 43 = .ok (.putfield 24, 3) := by decide +kernel
theorem dX8_readSum_46 : decode cX8_readSum 46 = .ok (.aload_n 0, 1) := by decide +kernel
theorem dX8_readSum_47 : decode cX8_readSum 47 = .ok (.iload_n 1, 1) := by decide +kernel
theorem dX8_readSum_48 : decode cX8_readSum 48 = .ok (.invokevirtual 65, 3) := by decide +kernel
theorem dX8_readSum_51 : decode cX8_readSum 51 = .ok (.aload_n 0, 1) := by decide +kernel
theorem dX8_readSum_52 : decode cX8_readSum 52 = .ok (.getfield 10, 3) := by decide +kernel
theorem dX8_readSum_55 : decode cX8_readSum 55 = .ok (.iload_n 3, 1) := by decide +kernel
theorem dX8_readSum_56 : decode cX8_readSum 56 = .ok (.iconst 0, 1) := by decide +kernel
theorem dX8_readSum_57 : decode cX8_readSum 57 = .ok (.invokevirtual 49, 3) := by decide +kernel
theorem dX8_readSum_60 : decode cX8_readSum 60 = .ok (.pop, 1) := by decide +kernel
theorem dX8_readSum_61 : decode cX8_readSum 61 = .ok (.iinc 2 1, 3) := by decide +kernel
theorem dX8_readSum_64 : decode cX8_readSum 64 = .ok (.goto (-57), 3) := by decide +kernel
theorem dX8_readSum_67 : decode cX8_readSum 67 = .ok (.return_, 1) := by decide +kernel
theorem dX8_readProduct_0 : decode cX8_readProduct 0 = .ok (.aload_n 0, 1) := by decide +kernel
theorem dX8_readProduct_1 : decode cX8_readProduct 1 = .ok (.iload_n 1, 1) := by decide +kernel
theorem dX8_readProduct_2 : decode cX8_readProduct 2 = .ok (.invokevirtual 68, 3) := by decide +kernel
theorem dX8_readProduct_5 : decode cX8_readProduct 5 = .ok (.iconst 0, 1) := by decide +kernel
theorem dX8_readProduct_6 : decode cX8_readProduct 6 = .ok (.istore_n 2, 1) := by decide +kernel
theorem dX8_readProduct_7 : decode cX8_readProduct 7 = .ok (.iload_n 2, 1) := by decide +kernel
theorem dX8_readProduct_8 : decode cX8_readProduct 8 = .ok (.bipush 120, 2) := by decide +kernel
theorem dX8_readProduct_10 : decode cX8_readProduct 10 = .ok (.if_icmp .ge 66, 3) := by decide +kernel
theorem dX8_readProduct_13 : decode cX8_readProduct 13 = .ok (.aload_n 0, 1) := by decide +kernel
theorem dX8_readProduct_14 : decode cX8_readProduct 14 = .ok (.invokevirtual 41, 3) := by decide +kernel
theorem dX8_readProduct_17 : decode cX8_readProduct 17 = .ok (.bipush 42, 2) := by decide +kernel
theorem dX8_readProduct_19 : decode cX8_readProduct 19 = .ok (.if_icmp .eq 21, 3) := by decide +kernel
theorem dX8_readProduct_22 : decode cX8_readProduct 22 = .ok (.aload_n 0, 1) := by decide +kernel
theorem dX8_readProduct_23 : decode cX8_readProduct 23 = .ok (.invokevirtual 41, 3) := by decide +kernel
theorem dX8_readProduct_26 : decode cX8_readProduct 26 = .ok (.bipush 47, 2) := by decide +kernel
theorem dX8_readProduct_28 : decode cX8_readProduct 28 = .ok (.if_icmp .eq 12, 3) := by decide +kernel
theorem dX8_readProduct_31 : decode cX8_readProduct 31 = .ok (.aload_n 0, 1) := by decide +kernel
theorem dX8_readProduct_32 : decode cX8_readProduct 32 = .ok (.invokevirtual 41, 3) := by decide +kernel
theorem dX8_readProduct_35 : decode cX8_readProduct 35 = .ok (.bipush 37, 2) := by decide +kernel
theorem dX8_readProduct_37 : decode cX8_readProduct 37 = .ok (.if_icmp .ne 39, 3) := by decide +kernel
theorem dX8_readProduct_40 : decode cX8_readProduct 40 = .ok (.aload_n 0, 1) := by decide +kernel
theorem dX8_readProduct_41 : decode cX8_readProduct 41 = .ok (.invokevirtual 41, 3) := by decide +kernel
theorem dX8_readProduct_44 : decode cX8_readProduct 44 = .ok (.istore_n 3, 1) := by decide +kernel
theorem dX8_readProduct_45 : decode cX8_readProduct 45 = .ok (.aload_n 0, 1) := by decide +kernel
theorem dX8_readProduct_46 : decode cX8_readProduct 46 = .ok (.dup, 1) := by decide +kernel
theorem dX8_readProduct_47 : decode cX8_readProduct 47 = .ok (.getfield 24, 3) := by decide +kernel
theorem dX8_readProduct_50 : decode cX8_readProduct 50 = .ok (.iconst 1, 1) := by decide +kernel
theorem dX8_readProduct_51 : decode cX8_readProduct 51 = .ok (.iadd, 1) := by decide +kernel
theorem dX8_readProduct_52 : decode cX8_readProduct 52 = .ok (.putfield 24, 3) := by decide +kernel
theorem dX8_readProduct_55 : decode cX8_readProduct 55 = .ok (.aload_n 0, 1) := by decide +kernel
theorem dX8_readProduct_56 : decode cX8_readProduct 56 = .ok (.iload_n 1, 1) := by decide +kernel
theorem dX8_readProduct_57 : decode cX8_readProduct 57 = .ok (.invokevirtual 68, 3) := by decide +kernel
theorem dX8_readProduct_60 : decode cX8_readProduct 60 = .ok (.aload_n 0, 1) := by decide +kernel
theorem dX8_readProduct_61 : decode cX8_readProduct 61 = .ok (.getfield 10, 3) := by decide +kernel
theorem dX8_readProduct_64 : decode cX8_readProduct 64 = .ok (.iload_n 3, 1) := by decide +kernel
theorem dX8_readProduct_65 : decode cX8_readProduct 65 = .ok (.iconst 0, 1) := by decide +kernel
theorem dX8_readProduct_66 : decode cX8_readProduct 66 = .ok (.invokevirtual 49, 3) := by decide +kernel
theorem dX8_readProduct_69 : decode cX8_readProduct 69 = .ok (.pop, 1) := by decide +kernel
theorem dX8_readProduct_70 : decode cX8_readProduct 70 = .ok (.iinc 2 1, 3) := by decide +kernel
theorem dX8_readProduct_73 : decode cX8_readProduct 73 = .ok (.goto (-66), 3) := by decide +kernel
theorem dX8_readProduct_76 : decode cX8_readProduct 76 = .ok (.return_, 1) := by decide +kernel
theorem dX8_readOperand_0 : decode cX8_readOperand 0 = .ok (.aload_n 0, 1) := by decide +kernel
theorem dX8_readOperand_1 : decode cX8_readOperand 1 = .ok (.invokevirtual 41, 3) := by decide +kernel
theorem dX8_readOperand_4 : decode cX8_readOperand 4 = .ok (.invokestatic 71, 3) := by decide +kernel
theorem dX8_readOperand_7 : decode cX8_readOperand 7 = .ok (.istore_n 2, 1) := by decide +kernel
theorem dX8_readOperand_8 : decode cX8_readOperand 8 = .ok (.aload_n 0, 1) := by decide +kernel
theorem dX8_readOperand_9 : decode cX8_readOperand 9 = .ok (.invokevirtual 41, 3) := by decide +kernel
theorem dX8_readOperand_12 : decode cX8_readOperand 12 = .ok (.invokestatic 75, 3) := by decide +kernel
theorem dX8_readOperand_15 : decode cX8_readOperand 15 = .ok (.ifCond .eq 10, 3) := by decide +kernel
theorem dX8_readOperand_18 : decode cX8_readOperand 18 = .ok (.aload_n 0, 1) := by decide +kernel
theorem dX8_readOperand_19 : decode cX8_readOperand 19 = .ok (.invokevirtual 78, 3) := by decide +kernel
theorem dX8_readOperand_22 : decode cX8_readOperand 22 = .ok (.goto 143, 3) := by decide +kernel
theorem dX8_readOperand_25 : decode cX8_readOperand 25 = .ok (.iload_n 2, 1) := by decide +kernel
theorem dX8_readOperand_26 : decode cX8_readOperand 26 = .ok (.ifCond .lt 27, 3) := by decide +kernel
theorem dX8_readOperand_29 : decode cX8_readOperand 29 = .ok (.aload_n 0, 1) := by decide +kernel
theorem dX8_readOperand_30 : decode cX8_readOperand 30 = .ok (.dup, 1) := by decide +kernel
theorem dX8_readOperand_31 : decode cX8_readOperand 31 = .ok (.getfield 24, 3) := by decide +kernel
theorem dX8_readOperand_34 : decode cX8_readOperand 34 = .ok (.iconst 1, 1) := by decide +kernel
theorem dX8_readOperand_35 : decode cX8_readOperand 35 = .ok (.iadd, 1) := by decide +kernel
theorem dX8_readOperand_36 : decode cX8_readOperand 36 = .ok (.putfield 24, 3) := by decide +kernel
theorem dX8_readOperand_39 : decode cX8_readOperand 39 = .ok (.aload_n 0, 1) := by decide +kernel
theorem dX8_readOperand_40 : decode cX8_readOperand 40 = .ok (.getfield 10, 3) := by decide +kernel
theorem dX8_readOperand_43 : decode cX8_readOperand 43 = .ok (.bipush 36, 2) := by decide +kernel
theorem dX8_readOperand_45 : decode cX8_readOperand 45 = .ok (.iload_n 2, 1) := by decide +kernel
theorem dX8_readOperand_46 : decode cX8_readOperand 46 = .ok (.invokevirtual 49, 3) := by decide +kernel
theorem dX8_readOperand_49 : decode cX8_readOperand 49 = .ok (.pop, 1) := by decide +kernel
theorem dX8_readOperand_50 : decode cX8_readOperand 50 = .ok (.goto 115, 3) := by decide +kernel
theorem dX8_readOperand_53 : decode cX8_readOperand 53 = .ok (.iload_n 1, 1) := by decide +kernel
theorem dX8_readOperand_54 : decode cX8_readOperand 54 = .ok (.bipush 6, 2) := by decide +kernel
theorem dX8_readOperand_56 : decode cX8_readOperand 56 = .ok (.if_icmp .lt 11, 3) := by decide +kernel
theorem dX8_readOperand_59 : decode cX8_readOperand 59 = .ok (.aload_n 0, 1) := by decide +kernel
theorem dX8_readOperand_60 : decode cX8_readOperand 60 = .ok (.iconst 1, 1) := by decide +kernel
theorem dX8_readOperand_61 : decode cX8_readOperand 61 = .ok (.putfield 27, 3) := by decide +kernel
theorem dX8_readOperand_64 : decode cX8_readOperand 64 = .ok (.goto 101, 3) := by decide +kernel
theorem dX8_readOperand_67 : decode cX8_readOperand 67 = .ok (.aload_n 0, 1) := by decide +kernel
theorem dX8_readOperand_68 : decode cX8_readOperand 68 = .ok (.bipush 33, 2) := by decide +kernel
theorem dX8_readOperand_70 : decode cX8_readOperand 70 = .ok (.invokevirtual 37, 3) := by decide +kernel
theorem dX8_readOperand_73 : decode cX8_readOperand 73 = .ok (.ifCond .eq 24, 3) := by decide +kernel
theorem dX8_readOperand_76 : decode cX8_readOperand 76 = .ok (.aload_n 0, 1) := by decide +kernel
theorem dX8_readOperand_77 : decode cX8_readOperand 77 = .ok (.iload_n 1, 1) := by decide +kernel
theorem dX8_readOperand_78 : decode cX8_readOperand 78 = .ok (.iconst 1, 1) := by decide +kernel
theorem dX8_readOperand_79 : decode cX8_readOperand 79 = .ok (.iadd, 1) := by decide +kernel
theorem dX8_readOperand_80 : decode cX8_readOperand 80 = .ok (.invokevirtual 68, 3) := by decide +kernel
theorem dX8_readOperand_83 : decode cX8_readOperand 83 = .ok (.aload_n 0, 1) := by decide +kernel
theorem dX8_readOperand_84 : decode cX8_readOperand 84 = .ok (.getfield 10, 3) := by decide +kernel
theorem dX8_readOperand_87 : decode cX8_readOperand 87 = .ok (.bipush 33, 2) := by decide +kernel
theorem dX8_readOperand_89 : decode cX8_readOperand 89 = .ok (.iconst 0, 1) := by decide +kernel
theorem dX8_readOperand_90 : decode cX8_readOperand 90 = .ok (.invokevirtual 49, 3) := by decide +kernel
theorem dX8_readOperand_93 : decode cX8_readOperand 93 = .ok (.pop, 1) := by decide +kernel
theorem dX8_readOperand_94 : decode cX8_readOperand 94 = .ok (.goto 71, 3) := by decide +kernel
theorem dX8_readOperand_97 : decode cX8_readOperand 97 = .ok (.aload_n 0, 1) := by decide +kernel
theorem dX8_readOperand_98 : decode cX8_readOperand 98 = .ok (.bipush 45, 2) := by decide +kernel
theorem dX8_readOperand_100 : decode cX8_readOperand 100 = .ok (.invokevirtual 37, 3) := by decide +kernel
theorem dX8_readOperand_103 : decode cX8_readOperand 103 = .ok (.ifCond .eq 24, 3) := by decide +kernel
theorem dX8_readOperand_106 : decode cX8_readOperand 106 = .ok (.aload_n 0, 1) := by decide +kernel
theorem dX8_readOperand_107 : decode cX8_readOperand 107 = .ok (.iload_n 1, 1) := by decide +kernel
theorem dX8_readOperand_108 : decode cX8_readOperand 108 = .ok (.iconst 1, 1) := by decide +kernel
theorem dX8_readOperand_109 : decode cX8_readOperand 109 = .ok (.iadd, 1) := by decide +kernel
theorem dX8_readOperand_110 : decode cX8_readOperand 110 = .ok (.invokevirtual 68, 3) := by decide +kernel
theorem dX8_readOperand_113 : decode cX8_readOperand 113 = .ok (.aload_n 0, 1) := by decide +kernel
theorem dX8_readOperand_114 : decode cX8_readOperand 114 = .ok (.getfield 10, 3) := by decide +kernel
theorem dX8_readOperand_117 : decode cX8_readOperand 117 = .ok (.bipush 126, 2) := by decide +kernel
theorem dX8_readOperand_119 : decode cX8_readOperand 119 = .ok (.iconst 0, 1) := by decide +kernel
theorem dX8_readOperand_120 : decode cX8_readOperand 120 = .ok (.invokevirtual 49, 3) := by decide +kernel
theorem dX8_readOperand_123 : decode cX8_readOperand 123 = .ok (.pop, 1) := by decide +kernel
theorem dX8_readOperand_124 : decode cX8_readOperand 124 = .ok (.goto 41, 3) := by decide +kernel
theorem dX8_readOperand_127 : decode cX8_readOperand 127 = .ok (.aload_n 0, 1) := by decide +kernel
theorem dX8_readOperand_128 : decode cX8_readOperand 128 = .ok (.bipush 40, 2) := by decide +kernel
theorem dX8_readOperand_130 : decode cX8_readOperand 130 = .ok (.invokevirtual 37, 3) := by decide +kernel
theorem dX8_readOperand_133 : decode cX8_readOperand 133 = .ok (.ifCond .eq 27, 3) := by decide +kernel
theorem dX8_readOperand_136 : decode cX8_readOperand 136 = .ok (.aload_n 0, 1) := by decide +kernel
theorem dX8_readOperand_137 : decode cX8_readOperand 137 = .ok (.iload_n 1, 1) := by decide +kernel
theorem dX8_readOperand_138 : decode cX8_readOperand 138 = .ok (.iconst 1, 1) := by decide +kernel
theorem dX8_readOperand_139 : decode cX8_readOperand 139 = .ok (.iadd, 1) := by decide +kernel
theorem dX8_readOperand_140 : decode cX8_readOperand 140 = .ok (.invokevirtual 45, 3) := by decide +kernel
theorem dX8_readOperand_143 : decode cX8_readOperand 143 = .ok (.aload_n 0, 1) := by decide +kernel
theorem dX8_readOperand_144 : decode cX8_readOperand 144 = .ok (.bipush 41, 2) := by decide +kernel
theorem dX8_readOperand_146 : decode cX8_readOperand 146 = .ok (.invokevirtual 37, 3) := by decide +kernel
theorem dX8_readOperand_149 : decode cX8_readOperand 149 = .ok (.ifCond .ne 16, 3) := by decide +kernel
theorem dX8_readOperand_152 : decode cX8_readOperand 152 = .ok (.aload_n 0, 1) := by decide +kernel
theorem dX8_readOperand_153 : decode cX8_readOperand 153 = .ok (.iconst 1, 1) := by decide +kernel
theorem dX8_readOperand_154 : decode cX8_readOperand 154 = .ok (.putfield 27, 3) := by decide +kernel
theorem dX8_readOperand_157 : decode cX8_readOperand 157 = .ok (.goto 8, 3) := by decide +kernel
theorem dX8_readOperand_160 : decode cX8_readOperand 160 = .ok (.aload_n 0, 1) := by decide +kernel
theorem dX8_readOperand_161 : decode cX8_readOperand 161 = .ok (.iconst 1, 1) := by decide +kernel
theorem dX8_readOperand_162 : decode cX8_readOperand 162 = .ok (.putfield 27, 3) := by decide +kernel
theorem dX8_readOperand_165 : decode cX8_readOperand 165 = .ok (.return_, 1) := by decide +kernel
theorem dX8_readNumber_0 : decode cX8_readNumber 0 = .ok (.iconst 0, 1) := by decide +kernel
theorem dX8_readNumber_1 : decode cX8_readNumber 1 = .ok (.istore_n 1, 1) := by decide +kernel
theorem dX8_readNumber_2 : decode cX8_readNumber 2 = .ok (.iconst 0, 1) := by decide +kernel
theorem dX8_readNumber_3 : decode cX8_readNumber 3 = .ok (.istore_n 2, 1) := by decide +kernel
theorem dX8_readNumber_4 : decode cX8_readNumber 4 = .ok (.iload_n 2, 1) := by decide +kernel
theorem dX8_readNumber_5 : decode cX8_readNumber 5 = .ok (.iconst 4, 1) := by decide +kernel
theorem dX8_readNumber_6 : decode cX8_readNumber 6 = .ok (.if_icmp .ge 42, 3) := by decide +kernel
theorem dX8_readNumber_9 : decode cX8_readNumber 9 = .ok (.aload_n 0, 1) := by decide +kernel
theorem dX8_readNumber_10 : decode cX8_readNumber 10 = .ok (.invokevirtual 41, 3) := by decide +kernel
theorem dX8_readNumber_13 : decode cX8_readNumber 13 = .ok (.invokestatic 75, 3) := by decide +kernel
theorem dX8_readNumber_16 : decode cX8_readNumber 16 = .ok (.ifCond .eq 32, 3) := by decide +kernel
theorem dX8_readNumber_19 : decode cX8_readNumber 19 = .ok (.iload_n 1, 1) := by decide +kernel
theorem dX8_readNumber_20 : decode cX8_readNumber 20 = .ok (.bipush 10, 2) := by decide +kernel
theorem dX8_readNumber_22 : decode cX8_readNumber 22 = .ok (.imul, 1) := by decide +kernel
theorem dX8_readNumber_23 : decode cX8_readNumber 23 = .ok (.aload_n 0, 1) := by decide +kernel
theorem dX8_readNumber_24 : decode cX8_readNumber 24 = .ok (.invokevirtual 41, 3) := by decide +kernel
theorem dX8_readNumber_27 : decode cX8_readNumber 27 = .ok (.iadd, 1) := by decide +kernel
theorem dX8_readNumber_28 : decode cX8_readNumber 28 = .ok (.bipush 48, 2) := by decide +kernel
theorem dX8_readNumber_30 : decode cX8_readNumber 30 = .ok (.isub, 1) := by decide +kernel
theorem dX8_readNumber_31 : decode cX8_readNumber 31 = .ok (.istore_n 1, 1) := by decide +kernel
theorem dX8_readNumber_32 : decode cX8_readNumber 32 = .ok (.aload_n 0, 1) := by decide +kernel
theorem dX8_readNumber_33 : decode cX8_readNumber 33 = .ok (.dup, 1) := by decide +kernel
theorem dX8_readNumber_34 : decode cX8_readNumber 34 = .ok (.getfield 24, 3) := by decide +kernel
theorem dX8_readNumber_37 : decode cX8_readNumber 37 = .ok (.iconst 1, 1) := by decide +kernel
theorem dX8_readNumber_38 : decode cX8_readNumber 38 = .ok (.iadd, 1) := by decide +kernel
theorem dX8_readNumber_39 : decode cX8_readNumber 39 = .ok (.putfield 24, 3) := by decide +kernel
theorem dX8_readNumber_42 : decode cX8_readNumber 42 = .ok (.iinc 2 1, 3) := by decide +kernel
theorem dX8_readNumber_45 : decode cX8_readNumber 45 = .ok (.goto (-41), 3) := by decide +kernel
theorem dX8_readNumber_48 : decode cX8_readNumber 48 = .ok (.aload_n 0, 1) := by decide +kernel
theorem dX8_readNumber_49 : decode cX8_readNumber 49 = .ok (.getfield 10, 3) := by decide +kernel
theorem dX8_readNumber_52 : decode cX8_readNumber 52 = .ok (.bipush 35, 2) := by decide +kernel
theorem dX8_readNumber_54 : decode cX8_readNumber 54 = .ok (.iload_n 1, 1) := by decide +kernel
theorem dX8_readNumber_55 : decode cX8_readNumber 55 = .ok (.invokevirtual 49, 3) := by decide +kernel
theorem dX8_readNumber_58 : decode cX8_readNumber 58 = .ok (.pop, 1) := by decide +kernel
theorem dX8_readNumber_59 : decode cX8_readNumber 59 = .ok (.return_, 1) := by decide +kernel
theorem dX8_isDigit_0 : decode cX8_isDigit 0 = .ok (.iload_n 0, 1) := by decide +kernel
theorem dX8_isDigit_1 : decode cX8_isDigit 1 = .ok (.bipush 48, 2) := by decide +kernel
theorem dX8_isDigit_3 : decode cX8_isDigit 3 = .ok (.if_icmp .lt 13, 3) := by decide +kernel
theorem dX8_isDigit_6 : decode cX8_isDigit 6 = .ok (.iload_n 0, 1) := by decide +kernel
theorem dX8_isDigit_7 : decode cX8_isDigit 7 = .ok (.bipush 57, 2) := by decide +kernel
theorem dX8_isDigit_9 : decode cX8_isDigit 9 = .ok (.if_icmp .gt 7, 3) := by decide +kernel
theorem dX8_isDigit_12 : decode cX8_isDigit 12 = .ok (.iconst 1, 1) := by decide +kernel
theorem dX8_isDigit_13 : decode cX8_isDigit 13 = .ok (.goto 4, 3) := by decide +kernel
theorem dX8_isDigit_16 : decode cX8_isDigit 16 = .ok (.iconst 0, 1) := by decide +kernel
theorem dX8_isDigit_17 : decode cX8_isDigit 17 = .ok (.ireturn, 1) := by decide +kernel
theorem dX8_nameOf_0 : decode cX8_nameOf 0 = .ok (.iload_n 0, 1) := by decide +kernel
theorem dX8_nameOf_1 : decode cX8_nameOf 1 = .ok (.tableswitch 103 103 121 #[93, 103, 103, 103, 99, 95, 103, 103, 97, 103, 103, 103, 103, 103, 103, 103, 91, 103, 101], 91) := by decide +kernel
theorem dX8_nameOf_92 : decode cX8_nameOf 92 = .ok (.iconst 0, 1) := by decide +kernel
theorem dX8_nameOf_93 : decode cX8_nameOf 93 = .ok (.ireturn, 1) := by decide +kernel
theorem dX8_nameOf_94 : decode cX8_nameOf 94 = .ok (.iconst 1, 1) := by decide +kernel
theorem dX8_nameOf_95 : decode cX8_nameOf 95 = .ok (.ireturn, 1) := by decide +kernel
theorem dX8_nameOf_96 : decode cX8_nameOf 96 = .ok (.iconst 2, 1) := by decide +kernel
theorem dX8_nameOf_97 : decode cX8_nameOf 97 = .ok (.ireturn, 1) := by decide +kernel
theorem dX8_nameOf_98 : decode cX8_nameOf 98 = .ok (.iconst 3, 1) := by decide +kernel
theorem dX8_nameOf_99 : decode cX8_nameOf 99 = .ok (.ireturn, 1) := by decide +kernel
theorem dX8_nameOf_100 : decode cX8_nameOf 100 = .ok (.iconst 4, 1) := by decide +kernel
theorem dX8_nameOf_101 : decode cX8_nameOf 101 = .ok (.ireturn, 1) := by decide +kernel
theorem dX8_nameOf_102 : decode cX8_nameOf 102 = .ok (.iconst 5, 1) := by decide +kernel
theorem dX8_nameOf_103 : decode cX8_nameOf 103 = .ok (.ireturn, 1) := by decide +kernel
theorem dX8_nameOf_104 : decode cX8_nameOf 104 = .ok (.iconst (-1), 1) := by decide +kernel
theorem dX8_nameOf_105 : decode cX8_nameOf 105 = .ok (.ireturn, 1) := by decide +kernel
theorem dX9_init_0 : decode cX9_init 0 = .ok (.aload_n 0, 1) := by decide +kernel
theorem dX9_init_1 : decode cX9_init 1 = .ok (.invokespecial 3, 3) := by decide +kernel
theorem dX9_init_4 : decode cX9_init 4 = .ok (.aload_n 0, 1) := by decide +kernel
theorem dX9_init_5 : decode cX9_init 5 = .ok (.aload_n 1, 1) := by decide +kernel
theorem dX9_init_6 : decode cX9_init 6 = .ok (.putfield 9, 3) := by decide +kernel
theorem dX9_init_9 : decode cX9_init 9 = .ok (.aload_n 0, 1) := by decide +kernel
theorem dX9_init_10 : decode cX9_init 10 = .ok (.aload_n 2, 1) := by decide +kernel
theorem dX9_init_11 : decode cX9_init 11 = .ok (.putfield 15, 3) := by decide +kernel
theorem dX9_init_14 : decode cX9_init 14 = .ok (.aload_n 0, 1) := by decide +kernel
theorem dX9_init_15 : decode cX9_init 15 = .ok (.aload_n 3, 1) := by decide +kernel
theorem dX9_init_16 : decode cX9_init 16 = .ok (.putfield 19, 3) := by decide +kernel
theorem dX9_init_19 : decode cX9_init 19 = .ok (.aload_n 0, 1) := by decide +kernel
theorem dX9_init_20 : decode cX9_init 20 = .ok (.new 23, 3) := by decide +kernel
theorem dX9_init_23 : decode cX9_init 23 = .ok (.dup, 1) := by decide +kernel
theorem dX9_init_24 : decode cX9_init 24 = .ok (.aload_n 1, 1) := by decide +kernel
theorem dX9_init_25 : decode cX9_init 25 = .ok (.invokespecial 25, 3) := by decide +kernel
theorem dX9_init_28 : decode cX9_init 28 = .ok (.putfield 28, 3) := by decide +kernel
theorem dX9_init_31 : decode cX9_init 31 = .ok (.return_, 1) := by decide +kernel
theorem dX9_startNow_0 : decode cX9_startNow 0 = .ok (.aload_n 0, 1) := by decide +kernel
theorem dX9_startNow_1 : decode cX9_startNow 1 = .ok (.getfield 28, 3) := by decide +kernel
theorem dX9_startNow_4 : decode cX9_startNow 4 = .ok (.aload_n 0, 1) := by decide +kernel
theorem dX9_startNow_5 : decode cX9_startNow 5 = .ok (.getfield 15, 3) := by decide +kernel
theorem dX9_startNow_8 : decode cX9_startNow 8 = .ok (.aload_n 0, 1) := by decide +kernel
theorem dX9_startNow_9 : decode cX9_startNow 9 = .ok (.getfield 9, 3) := by decide +kernel
theorem dX9_startNow_12 : decode cX9_startNow 12 = .ok (.getfield 31, 3) := by decide +kernel
theorem dX9_startNow_15 : decode cX9_startNow 15 = .ok (.aload_n 0, 1) := by decide +kernel
theorem dX9_startNow_16 : decode cX9_startNow 16 = .ok (.getfield 9, 3) := by decide +kernel
theorem dX9_startNow_19 : decode cX9_startNow 19 = .ok (.getfield 37, 3) := by decide +kernel
theorem dX9_startNow_22 : decode cX9_startNow 22 = .ok (.invokevirtual 40, 3) := by decide +kernel
theorem dX9_startNow_25 : decode cX9_startNow 25 = .ok (.return_, 1) := by decide +kernel
theorem dX9_behind_0 : decode cX9_behind 0 = .ok (.aload_n 0, 1) := by decide +kernel
theorem dX9_behind_1 : decode cX9_behind 1 = .ok (.invokevirtual 44, 3) := by decide +kernel
theorem dX9_behind_4 : decode cX9_behind 4 = .ok (.iconst 0, 1) := by decide +kernel
theorem dX9_behind_5 : decode cX9_behind 5 = .ok (.istore_n 2, 1) := by decide +kernel
theorem dX9_behind_6 : decode cX9_behind 6 = .ok (.iload_n 2, 1) := by decide +kernel
theorem dX9_behind_7 : decode cX9_behind 7 = .ok (.iload_n 1, 1) := by decide +kernel
theorem dX9_behind_8 : decode cX9_behind 8 = .ok (.if_icmp .ge 16, 3) := by decide +kernel
theorem dX9_behind_11 : decode cX9_behind 11 = .ok (.aload_n 0, 1) := by decide +kernel
theorem dX9_behind_12 : decode cX9_behind 12 = .ok (.getfield 28, 3) := by decide +kernel
theorem dX9_behind_15 : decode cX9_behind 15 = .ok (.invokevirtual 47, 3) := by decide +kernel
theorem dX9_behind_18 : decode cX9_behind 18 = .ok (.iinc 2 1, 3) := by decide +kernel
theorem dX9_behind_21 : decode cX9_behind 21 = .ok (.goto (-15), 3) := by decide +kernel
theorem dX9_behind_24 : decode cX9_behind 24 = .ok (.aload_n 0, 1) := by decide +kernel
theorem dX9_behind_25 : decode cX9_behind 25 = .ok (.getfield 28, 3) := by decide +kernel
theorem dX9_behind_28 : decode cX9_behind 28 = .ok (.areturn, 1) := by decide +kernel
theorem dX9_worthBehind_0 : decode cX9_worthBehind 0 = .ok (.aload_n 0, 1) := by decide +kernel
theorem dX9_worthBehind_1 : decode cX9_worthBehind 1 = .ok (.invokevirtual 44, 3) := by decide +kernel
theorem dX9_worthBehind_4 : decode cX9_worthBehind 4 = .ok (.aload_n 0, 1) := by decide +kernel
theorem dX9_worthBehind_5 : decode cX9_worthBehind 5 = .ok (.getfield 9, 3) := by decide +kernel
theorem dX9_worthBehind_8 : decode cX9_worthBehind 8 = .ok (.iload_n 2, 1) := by decide +kernel
theorem dX9_worthBehind_9 : decode cX9_worthBehind 9 = .ok (.invokevirtual 50, 3) := by decide +kernel
theorem dX9_worthBehind_12 : decode cX9_worthBehind 12 = .ok (.ifCond .eq 13, 3) := by decide +kernel
theorem dX9_worthBehind_15 : decode cX9_worthBehind 15 = .ok (.aload_n 0, 1) := by decide +kernel
theorem dX9_worthBehind_16 : decode cX9_worthBehind 16 = .ok (.getfield 28, 3) := by decide +kernel
theorem dX9_worthBehind_19 : decode cX9_worthBehind 19 = .ok (.getfield 54, 3) := by decide +kernel
theorem dX9_worthBehind_22 : decode cX9_worthBehind 22 = .ok (.iload_n 2, 1) := by decide +kernel
theorem dX9_worthBehind_23 : decode cX9_worthBehind 23 = .ok (.iload_n 3, 1) := by decide +kernel
theorem dX9_worthBehind_24 : decode cX9_worthBehind 24 = .ok (.iastore, 1) := by decide +kernel
theorem dX9_worthBehind_25 : decode cX9_worthBehind 25 = .ok (.iconst 0, 1) := by decide +kernel
theorem dX9_worthBehind_26 : decode cX9_worthBehind 26 = .ok (.istore 4, 2) := by decide +kernel
theorem dX9_worthBehind_28 : decode cX9_worthBehind 28 = .ok (.iload 4, 2) := by decide +kernel
theorem dX9_worthBehind_30 : decode cX9_worthBehind 30 = .ok (.iload_n 1, 1) := by decide +kernel
theorem dX9_worthBehind_31 : decode cX9_worthBehind 31 = .ok (.if_icmp .ge 16, 3) := by decide +kernel
theorem dX9_worthBehind_34 : decode cX9_worthBehind 34 = .ok (.aload_n 0, 1) := by decide +kernel
theorem dX9_worthBehind_35 : decode cX9_worthBehind 35 = .ok (.getfield 28, 3) := by decide +kernel
theorem dX9_worthBehind_38 : decode cX9_worthBehind 38 = .ok (.invokevirtual 47, 3) := by decide +kernel
theorem dX9_worthBehind_41 : decode cX9_worthBehind 41 = .ok (.iinc 4 1, 3) := by decide +kernel
theorem dX9_worthBehind_44 : decode cX9_worthBehind 44 = .ok (.goto (-16), 3) := by decide +kernel
theorem dX9_worthBehind_47 : decode cX9_worthBehind 47 = .ok (.aload_n 0, 1) := by decide +kernel
theorem dX9_worthBehind_48 : decode cX9_worthBehind 48 = .ok (.getfield 28, 3) := by decide +kernel
theorem dX9_worthBehind_51 : decode cX9_worthBehind 51 = .ok (.invokevirtual 58, 3) := by decide +kernel
theorem dX9_worthBehind_54 : decode cX9_worthBehind 54 = .ok (.ireturn, 1) := by decide +kernel
theorem dX9_firstDayOf_0 : decode cX9_firstDayOf 0 = .ok (.aload_n 0, 1) := by decide +kernel
theorem dX9_firstDayOf_1 : decode cX9_firstDayOf 1 = .ok (.invokevirtual 44, 3) := by decide +kernel
theorem dX9_firstDayOf_4 : decode cX9_firstDayOf 4 = .ok (.iconst 0, 1) := by decide +kernel
theorem dX9_firstDayOf_5 : decode cX9_firstDayOf 5 = .ok (.istore_n 3, 1) := by decide +kernel
theorem dX9_firstDayOf_6 : decode cX9_firstDayOf 6 = .ok (.iload_n 3, 1) := by decide +kernel
theorem dX9_firstDayOf_7 : decode cX9_firstDayOf 7 = .ok (.bipush 60, 2) := by decide +kernel
theorem dX9_firstDayOf_9 : decode cX9_firstDayOf 9 = .ok (.if_icmp .gt 30, 3) := by decide +kernel
theorem dX9_firstDayOf_12 : decode cX9_firstDayOf 12 = .ok (.aload_n 0, 1) := by decide +kernel
theorem dX9_firstDayOf_13 : decode cX9_firstDayOf 13 = .ok (.getfield 28, 3) := by decide +kernel
theorem dX9_firstDayOf_16 : decode cX9_firstDayOf 16 = .ok (.iload_n 1, 1) := by decide +kernel
theorem dX9_firstDayOf_17 : decode cX9_firstDayOf 17 = .ok (.iload_n 2, 1) := by decide +kernel
theorem dX9_firstDayOf_18 : decode cX9_firstDayOf 18 = .ok (.invokevirtual 62, 3) := by decide +kernel
theorem dX9_firstDayOf_21 : decode cX9_firstDayOf 21 = .ok (.ifCond .eq 5, 3) := by decide +kernel
theorem dX9_firstDayOf_24 : decode cX9_firstDayOf 24 = .ok (.iload_n 3, 1) := by decide +kernel
theorem dX9_firstDayOf_25 : decode cX9_firstDayOf 25 = .ok (.ireturn, 1) := by decide +kernel
theorem dX9_firstDayOf_26 : decode cX9_firstDayOf 26 = .ok (.aload_n 0, 1) := by decide +kernel
theorem dX9_firstDayOf_27 : decode cX9_firstDayOf 27 = .ok (.getfield 28, 3) := by decide +kernel
theorem dX9_firstDayOf_30 : decode cX9_firstDayOf 30 = .ok (.invokevirtual 47, 3) := by decide +kernel
theorem dX9_firstDayOf_33 : decode cX9_firstDayOf 33 = .ok (.iinc 3 1, 3) := by decide +kernel
theorem dX9_firstDayOf_36 : decode cX9_firstDayOf 36 = .ok (.goto (-30), 3) := by decide +kernel
theorem dX9_firstDayOf_39 : decode cX9_firstDayOf 39 = .ok (.bipush (-2), 2) := by decide +kernel
theorem dX9_firstDayOf_41 : decode cX9_firstDayOf 41 = .ok (.ireturn, 1) := by decide +kernel
theorem dX9_seekMove_0 : decode cX9_seekMove 0 = .ok (.aload_n 0, 1) := by decide +kernel
theorem dX9_seekMove_1 : decode cX9_seekMove 1 = .ok (.aload_n 0, 1) := by decide +kernel
theorem dX9_seekMove_2 : decode cX9_seekMove 2 = .ok (.iload_n 1, 1) := by decide +kernel
theorem dX9_seekMove_3 : decode cX9_seekMove 3 = .ok (.iconst (-1), 1) := by decide +kernel
theorem dX9_seekMove_4 : decode cX9_seekMove 4 = .ok (.iconst 0, 1) := by decide +kernel
theorem dX9_seekMove_5 : decode cX9_seekMove 5 = .ok (.invokevirtual 66, 3) := by decide +kernel
theorem dX9_seekMove_8 : decode cX9_seekMove 8 = .ok (.putfield 70, 3) := by decide +kernel
theorem dX9_seekMove_11 : decode cX9_seekMove 11 = .ok (.aload_n 0, 1) := by decide +kernel
theorem dX9_seekMove_12 : decode cX9_seekMove 12 = .ok (.bipush 99, 2) := by decide +kernel
theorem dX9_seekMove_14 : decode cX9_seekMove 14 = .ok (.putfield 73, 3) := by decide +kernel
theorem dX9_seekMove_17 : decode cX9_seekMove 17 = .ok (.iconst 0, 1) := by decide +kernel
theorem dX9_seekMove_18 : decode cX9_seekMove 18 = .ok (.istore_n 2, 1) := by decide +kernel
theorem dX9_seekMove_19 : decode cX9_seekMove 19 = .ok (.iload_n 2, 1) := by decide +kernel
theorem dX9_seekMove_20 : decode cX9_seekMove 20 = .ok (.bipush 12, 2) := by decide +kernel
theorem dX9_seekMove_22 : decode cX9_seekMove 22 = .ok (.aload_n 0, 1) := by decide +kernel
theorem dX9_seekMove_23 : decode cX9_seekMove 23 = .ok (.getfield 9, 3) := by decide +kernel
theorem dX9_seekMove_26 : decode cX9_seekMove 26 = .ok (.getfield 31, 3) := by decide +kernel
theorem dX9_seekMove_29 : decode cX9_seekMove 29 = .ok (.imul, 1) := by decide +kernel
theorem dX9_seekMove_30 : decode cX9_seekMove 30 = .ok (.if_icmp .ge 41, 3) := by decide +kernel
theorem dX9_seekMove_33 : decode cX9_seekMove 33 = .ok (.aload_n 0, 1) := by decide +kernel
theorem dX9_seekMove_34 : decode cX9_seekMove 34 = .ok (.iload_n 1, 1) := by decide +kernel
theorem dX9_seekMove_35 : decode cX9_seekMove 35 = .ok (.iload_n 2, 1) := by decide +kernel
theorem dX9_seekMove_36 : decode cX9_seekMove 36 = .ok (.bipush 12, 2) := by decide +kernel
theorem dX9_seekMove_38 : decode cX9_seekMove 38 = .ok (.idiv, 1) := by decide +kernel
theorem dX9_seekMove_39 : decode cX9_seekMove 39 = .ok (.iload_n 2, 1) := by decide +kernel
theorem dX9_seekMove_40 : decode cX9_seekMove 40 = .ok (.bipush 12, 2) := by decide +kernel
theorem dX9_seekMove_42 : decode cX9_seekMove 42 = .ok (.irem, 1) := by decide +kernel
theorem dX9_seekMove_43 : decode cX9_seekMove 43 = .ok (.invokevirtual 66, 3) := by decide +kernel
theorem dX9_seekMove_46 : decode cX9_seekMove 46 = .ok (.istore_n 3, 1) := by decide +kernel
theorem dX9_seekMove_47 : decode cX9_seekMove 47 = .ok (.iload_n 3, 1) := by decide +kernel
theorem dX9_seekMove_48 : decode cX9_seekMove 48 = .ok (.aload_n 0, 1) := by decide +kernel
theorem dX9_seekMove_49 : decode cX9_seekMove 49 = .ok (.getfield 70, 3) := by decide +kernel
theorem dX9_seekMove_52 : decode cX9_seekMove 52 = .ok (.if_icmp .le 13, 3) := by decide +kernel
theorem dX9_seekMove_55 : decode cX9_seekMove 55 = .ok (.aload_n 0, 1) := by decide +kernel
theorem dX9_seekMove_56 : decode cX9_seekMove 56 = .ok (.iload_n 3, 1) := by decide +kernel
theorem dX9_seekMove_57 : decode cX9_seekMove 57 = .ok (.putfield 70, 3) := by decide +kernel
theorem dX9_seekMove_60 : decode cX9_seekMove 60 = .ok (.aload_n 0, 1) := by decide +kernel
theorem dX9_seekMove_61 : decode cX9_seekMove 61 = .ok (.iload_n 2, 1) := by decide +kernel
theorem dX9_seekMove_62 : decode cX9_seekMove 62 = .ok (.putfield 73, 3) := by decide +kernel
theorem dX9_seekMove_65 : decode cX9_seekMove 65 = .ok (.iinc 2 1, 3) := by decide +kernel
theorem dX9_seekMove_68 : decode cX9_seekMove 68 = .ok (.goto (-49), 3) := by decide +kernel
theorem dX9_seekMove_71 : decode cX9_seekMove 71 = .ok (.return_, 1) := by decide +kernel
theorem dX9_seekDue_0 : decode cX9_seekDue 0 = .ok (.aload_n 0, 1) := by decide +kernel
theorem dX9_seekDue_1 : decode cX9_seekDue 1 = .ok (.getfield 9, 3) := by decide +kernel
theorem dX9_seekDue_4 : decode cX9_seekDue 4 = .ok (.getfield 76, 3) := by decide +kernel
theorem dX9_seekDue_7 : decode cX9_seekDue 7 = .ok (.iload_n 1, 1) := by decide +kernel
theorem dX9_seekDue_8 : decode cX9_seekDue 8 = .ok (.iaload, 1) := by decide +kernel
theorem dX9_seekDue_9 : decode cX9_seekDue 9 = .ok (.istore_n 3, 1) := by decide +kernel
theorem dX9_seekDue_10 : decode cX9_seekDue 10 = .ok (.aload_n 0, 1) := by decide +kernel
theorem dX9_seekDue_11 : decode cX9_seekDue 11 = .ok (.iconst (-1), 1) := by decide +kernel
theorem dX9_seekDue_12 : decode cX9_seekDue 12 = .ok (.putfield 70, 3) := by decide +kernel
theorem dX9_seekDue_15 : decode cX9_seekDue 15 = .ok (.iconst 0, 1) := by decide +kernel
theorem dX9_seekDue_16 : decode cX9_seekDue 16 = .ok (.istore 4, 2) := by decide +kernel
theorem dX9_seekDue_18 : decode cX9_seekDue 18 = .ok (.iload 4, 2) := by decide +kernel
theorem dX9_seekDue_20 : decode cX9_seekDue 20 = .ok (.bipush 99, 2) := by decide +kernel
theorem dX9_seekDue_22 : decode cX9_seekDue 22 = .ok (.if_icmp .gt 50, 3) := by decide +kernel
theorem dX9_seekDue_25 : decode cX9_seekDue 25 = .ok (.aload_n 0, 1) := by decide +kernel
theorem dX9_seekDue_26 : decode cX9_seekDue 26 = .ok (.getfield 9, 3) := by decide +kernel
theorem dX9_seekDue_29 : decode cX9_seekDue 29 = .ok (.getfield 76, 3) := by decide +kernel
theorem dX9_seekDue_32 : decode cX9_seekDue 32 = .ok (.iload_n 1, 1) := by decide +kernel
theorem dX9_seekDue_33 : decode cX9_seekDue 33 = .ok (.iload 4, 2) := by decide +kernel
theorem dX9_seekDue_35 : decode cX9_seekDue 35 = .ok (.iastore, 1) := by decide +kernel
theorem dX9_seekDue_36 : decode cX9_seekDue 36 = .ok (.aload_n 0, 1) := by decide +kernel
theorem dX9_seekDue_37 : decode cX9_seekDue 37 = .ok (.iload_n 2, 1) := by decide +kernel
theorem dX9_seekDue_38 : decode cX9_seekDue 38 = .ok (.iconst (-1), 1) := by decide +kernel
theorem dX9_seekDue_39 : decode cX9_seekDue 39 = .ok (.iconst 0, 1) := by decide +kernel
theorem dX9_seekDue_40 : decode cX9_seekDue 40 = .ok (.invokevirtual 66, 3) := by decide +kernel
theorem dX9_seekDue_43 : decode cX9_seekDue 43 = .ok (.istore 5, 2) := by decide +kernel
theorem dX9_seekDue_45 : decode cX9_seekDue 45 = .ok (.iload 5, 2) := by decide +kernel
theorem dX9_seekDue_47 : decode cX9_seekDue 47 = .ok (.aload_n 0, 1) := by decide +kernel
theorem dX9_seekDue_48 : decode cX9_seekDue 48 = .ok (.getfield 70, 3) := by decide +kernel
theorem dX9_seekDue_51 : decode cX9_seekDue 51 = .ok (.if_icmp .le 15, 3) := by decide +kernel
theorem dX9_seekDue_54 : decode cX9_seekDue 54 = .ok (.aload_n 0, 1) := by decide +kernel
theorem dX9_seekDue_55 : decode cX9_seekDue 55 = .ok (.iload 5, 2) := by decide +kernel
theorem dX9_seekDue_57 : decode cX9_seekDue 57 = .ok (.putfield 70, 3) := by decide +kernel
theorem dX9_seekDue_60 : decode cX9_seekDue 60 = .ok (.aload_n 0, 1) := by decide +kernel
theorem dX9_seekDue_61 : decode cX9_seekDue 61 = .ok (.iload 4, 2) := by decide +kernel
theorem dX9_seekDue_63 : decode cX9_seekDue 63 = .ok (.putfield 73, 3) := by decide +kernel
theorem dX9_seekDue_66 : decode cX9_seekDue 66 = .ok (.iinc 4 1, 3) := by decide +kernel
theorem dX9_seekDue_69 : decode cX9_seekDue 69 = .ok (.goto (-51), 3) := by decide +kernel
theorem dX9_seekDue_72 : decode cX9_seekDue 72 = .ok (.aload_n 0, 1) := by decide +kernel
theorem dX9_seekDue_73 : decode cX9_seekDue 73 = .ok (.getfield 9, 3) := by decide +kernel
theorem dX9_seekDue_76 : decode cX9_seekDue 76 = .ok (.getfield 76, 3) := by decide +kernel
theorem dX9_seekDue_79 : decode cX9_seekDue 79 = .ok (.iload_n 1, 1) := by decide +kernel
theorem dX9_seekDue_80 : decode cX9_seekDue 80 = .ok (.iload_n 3, 1) := by decide +kernel
theorem dX9_seekDue_81 : decode cX9_seekDue 81 = .ok (.iastore, 1) := by decide +kernel
theorem dX9_seekDue_82 : decode cX9_seekDue 82 = .ok (.return_, 1) := by decide +kernel
theorem dX9_firstUnlike_0 : decode cX9_firstUnlike 0 = .ok (.aload_n 0, 1) := by decide +kernel
theorem dX9_firstUnlike_1 : decode cX9_firstUnlike 1 = .ok (.invokevirtual 44, 3) := by decide +kernel
theorem dX9_firstUnlike_4 : decode cX9_firstUnlike 4 = .ok (.aload_n 0, 1) := by decide +kernel
theorem dX9_firstUnlike_5 : decode cX9_firstUnlike 5 = .ok (.getfield 19, 3) := by decide +kernel
theorem dX9_firstUnlike_8 : decode cX9_firstUnlike 8 = .ok (.iload_n 1, 1) := by decide +kernel
theorem dX9_firstUnlike_9 : decode cX9_firstUnlike 9 = .ok (.invokevirtual 79, 3) := by decide +kernel
theorem dX9_firstUnlike_12 : decode cX9_firstUnlike 12 = .ok (.bipush 41, 2) := by decide +kernel
theorem dX9_firstUnlike_14 : decode cX9_firstUnlike 14 = .ok (.invokestatic 85, 3) := by decide +kernel
theorem dX9_firstUnlike_17 : decode cX9_firstUnlike 17 = .ok (.istore_n 3, 1) := by decide +kernel
theorem dX9_firstUnlike_18 : decode cX9_firstUnlike 18 = .ok (.iconst 0, 1) := by decide +kernel
theorem dX9_firstUnlike_19 : decode cX9_firstUnlike 19 = .ok (.istore 4, 2) := by decide +kernel
theorem dX9_firstUnlike_21 : decode cX9_firstUnlike 21 = .ok (.iload 4, 2) := by decide +kernel
theorem dX9_firstUnlike_23 : decode cX9_firstUnlike 23 = .ok (.iload_n 3, 1) := by decide +kernel
theorem dX9_firstUnlike_24 : decode cX9_firstUnlike 24 = .ok (.if_icmp .ge 63, 3) := by decide +kernel
theorem dX9_firstUnlike_27 : decode cX9_firstUnlike 27 = .ok (.aload_n 0, 1) := by decide +kernel
theorem dX9_firstUnlike_28 : decode cX9_firstUnlike 28 = .ok (.getfield 19, 3) := by decide +kernel
theorem dX9_firstUnlike_31 : decode cX9_firstUnlike 31 = .ok (.iload_n 1, 1) := by decide +kernel
theorem dX9_firstUnlike_32 : decode cX9_firstUnlike 32 = .ok (.iload 4, 2) := by decide +kernel
theorem dX9_firstUnlike_34 : decode cX9_firstUnlike 34 = .ok (.invokevirtual 91, 3) := by decide +kernel
theorem dX9_firstUnlike_37 : decode cX9_firstUnlike 37 = .ok (.lstore 5, 2) := by decide +kernel
theorem dX9_firstUnlike_39 : decode cX9_firstUnlike 39 = .ok (.lload 5, 2) := by decide +kernel
theorem dX9_firstUnlike_41 : decode cX9_firstUnlike 41 = .ok (.ldc2_w 95, 3) := by decide +kernel
theorem dX9_firstUnlike_44 : decode cX9_firstUnlike 44 = .ok (.lcmp, 1) := by decide +kernel
theorem dX9_firstUnlike_45 : decode cX9_firstUnlike 45 = .ok (.ifCond .eq 29, 3) := by decide +kernel
theorem dX9_firstUnlike_48 : decode cX9_firstUnlike 48 = .ok (.lload 5, 2) := by decide +kernel
theorem dX9_firstUnlike_50 : decode cX9_firstUnlike 50 = .ok (.aload_n 0, 1) := by decide +kernel
theorem dX9_firstUnlike_51 : decode cX9_firstUnlike 51 = .ok (.getfield 28, 3) := by decide +kernel
theorem dX9_firstUnlike_54 : decode cX9_firstUnlike 54 = .ok (.iload_n 2, 1) := by decide +kernel
theorem dX9_firstUnlike_55 : decode cX9_firstUnlike 55 = .ok (.invokevirtual 97, 3) := by decide +kernel
theorem dX9_firstUnlike_58 : decode cX9_firstUnlike 58 = .ok (.ifCond .eq 7, 3) := by decide +kernel
theorem dX9_firstUnlike_61 : decode cX9_firstUnlike 61 = .ok (.iconst 1, 1) := by decide +kernel
theorem dX9_firstUnlike_62 : decode cX9_firstUnlike 62 = .ok (.goto 4, 3) := by decide +kernel
theorem dX9_firstUnlike_65 : decode cX9_firstUnlike 65 = .ok (.iconst 0, 1) := by decide +kernel
theorem dX9_firstUnlike_66 : decode cX9_firstUnlike 66 = .ok (.i2l, 1) := by decide +kernel
theorem dX9_firstUnlike_67 : decode cX9_firstUnlike 67 = .ok (.lcmp, 1) := by decide +kernel
theorem dX9_firstUnlike_68 : decode cX9_firstUnlike 68 = .ok (.ifCond .eq 6, 3) := by decide +kernel
theorem dX9_firstUnlike_71 : decode cX9_firstUnlike 71 = .ok (.iload 4, 2) := by decide +kernel
theorem dX9_firstUnlike_73 : decode cX9_firstUnlike 73 = .ok (.ireturn, 1) := by decide +kernel
theorem dX9_firstUnlike_74 : decode cX9_firstUnlike 74 = .ok (.aload_n 0, 1) := by decide +kernel
theorem dX9_firstUnlike_75 : decode cX9_firstUnlike 75 = .ok (.getfield 28, 3) := by decide +kernel
theorem dX9_firstUnlike_78 : decode cX9_firstUnlike 78 = .ok (.invokevirtual 47, 3) := by decide +kernel
theorem dX9_firstUnlike_81 : decode cX9_firstUnlike 81 = .ok (.iinc 4 1, 3) := by decide +kernel
theorem dX9_firstUnlike_84 : decode cX9_firstUnlike 84 = .ok (.goto (-63), 3) := by decide +kernel
theorem dX9_firstUnlike_87 : decode cX9_firstUnlike 87 = .ok (.bipush (-2), 2) := by decide +kernel
theorem dX9_firstUnlike_89 : decode cX9_firstUnlike 89 = .ok (.ireturn, 1) := by decide +kernel
theorem dX9_seekFits_0 : decode cX9_seekFits 0 = .ok (.aload_n 0, 1) := by decide +kernel
theorem dX9_seekFits_1 : decode cX9_seekFits 1 = .ok (.iconst 0, 1) := by decide +kernel
theorem dX9_seekFits_2 : decode cX9_seekFits 2 = .ok (.putfield 70, 3) := by decide +kernel
theorem dX9_seekFits_5 : decode cX9_seekFits 5 = .ok (.aload_n 0, 1) := by decide +kernel
theorem dX9_seekFits_6 : decode cX9_seekFits 6 = .ok (.bipush (-2), 2) := by decide +kernel
theorem dX9_seekFits_8 : decode cX9_seekFits 8 = .ok (.putfield 73, 3) := by decide +kernel
theorem dX9_seekFits_11 : decode cX9_seekFits 11 = .ok (.iload_n 3, 1) := by decide +kernel
theorem dX9_seekFits_12 : decode cX9_seekFits 12 = .ok (.ifCond .lt 10, 3) := by decide +kernel
theorem dX9_seekFits_15 : decode cX9_seekFits 15 = .ok (.iload_n 3, 1) := by decide +kernel
theorem dX9_seekFits_16 : decode cX9_seekFits 16 = .ok (.aload 4, 2) := by decide +kernel
theorem dX9_seekFits_18 : decode cX9_seekFits 18 = .ok (.arraylength, 1) := by decide +kernel
theorem dX9_seekFits_19 : decode cX9_seekFits 19 = .ok (.if_icmp .lt 4, 3) := by decide +kernel
theorem dX9_seekFits_22 : decode cX9_seekFits 22 = .ok (.return_, 1) := by decide +kernel
theorem dX9_seekFits_23 : decode cX9_seekFits 23 = .ok (.aload 4, 2) := by decide +kernel
theorem dX9_seekFits_25 : decode cX9_seekFits 25 = .ok (.iload_n 3, 1) := by decide +kernel
theorem dX9_seekFits_26 : decode cX9_seekFits 26 = .ok (.iaload, 1) := by decide +kernel
theorem dX9_seekFits_27 : decode cX9_seekFits 27 = .ok (.istore 6, 2) := by decide +kernel
theorem dX9_seekFits_29 : decode cX9_seekFits 29 = .ok (.iconst 0, 1) := by decide +kernel
theorem dX9_seekFits_30 : decode cX9_seekFits 30 = .ok (.istore 7, 2) := by decide +kernel
theorem dX9_seekFits_32 : decode cX9_seekFits 32 = .ok (.iload 7, 2) := by decide +kernel
theorem dX9_seekFits_34 : decode cX9_seekFits 34 = .ok (.iload 5, 2) := by decide +kernel
theorem dX9_seekFits_36 : decode cX9_seekFits 36 = .ok (.if_icmp .gt 52, 3) := by decide +kernel
theorem dX9_seekFits_39 : decode cX9_seekFits 39 = .ok (.aload 4, 2) := by decide +kernel
theorem dX9_seekFits_41 : decode cX9_seekFits 41 = .ok (.iload_n 3, 1) := by decide +kernel
theorem dX9_seekFits_42 : decode cX9_seekFits 42 = .ok (.iload 7, 2) := by decide +kernel
theorem dX9_seekFits_44 : decode cX9_seekFits 44 = .ok (.iastore, 1) := by decide +kernel
theorem dX9_seekFits_45 : decode cX9_seekFits 45 = .ok (.aload_n 0, 1) := by decide +kernel
theorem dX9_seekFits_46 : decode cX9_seekFits 46 = .ok (.iload_n 1, 1) := by decide +kernel
theorem dX9_seekFits_47 : decode cX9_seekFits 47 = .ok (.iload_n 2, 1) := by decide +kernel
theorem dX9_seekFits_48 : decode cX9_seekFits 48 = .ok (.invokevirtual 100, 3) := by decide +kernel
theorem dX9_seekFits_51 : decode cX9_seekFits 51 = .ok (.bipush (-2), 2) := by decide +kernel
theorem dX9_seekFits_53 : decode cX9_seekFits 53 = .ok (.if_icmp .eq 6, 3) := by decide +kernel
theorem dX9_seekFits_56 : decode cX9_seekFits 56 = .ok (.goto 26, 3) := by decide +kernel
theorem dX9_seekFits_59 : decode cX9_seekFits 59 = .ok (.aload_n 0, 1) := by decide +kernel
theorem dX9_seekFits_60 : decode cX9_seekFits 60 = .ok (.getfield 70, 3) := by decide +kernel
theorem dX9_seekFits_63 : decode cX9_seekFits 63 = .ok (.ifCond .ne 9, 3) := by decide +kernel
theorem dX9_seekFits_66 : decode cX9_seekFits 66 = .ok (.aload_n 0, 1) := by decide +kernel
theorem dX9_seekFits_67 : decode cX9_seekFits 67 = .ok (.iload 7, 2) := by decide +kernel
theorem dX9_seekFits_69 : decode cX9_seekFits 69 = .ok (.putfield 73, 3) := by decide +kernel
theorem dX9_seekFits_72 : decode cX9_seekFits 72 = .ok (.aload_n 0, 1) := by decide +kernel
theorem dX9_seekFits_73 : decode cX9_seekFits 73 = .ok (.dup, 1) := by decide +kernel
theorem dX9_seekFits_74 : decode cX9_seekFits 74 = .ok (.getfield 70, 3) := by decide +kernel
theorem dX9_seekFits_77 : decode cX9_seekFits 77 = .ok (.iconst 1, 1) := by decide +kernel
theorem dX9_seekFits_78 : decode cX9_seekFits 78 = .ok (.iadd, 1) := by decide +kernel
theorem dX9_seekFits_79 : decode cX9_seekFits 79 = .ok (.putfield 70, 3) := by decide +kernel
theorem dX9_seekFits_82 : decode cX9_seekFits 82 = .ok (.iinc 7 1, 3) := by decide +kernel
theorem dX9_seekFits_85 : decode cX9_seekFits 85 = .ok (.goto (-53), 3) := by decide +kernel
theorem dX9_seekFits_88 : decode cX9_seekFits 88 = .ok (.aload 4, 2) := by decide +kernel
theorem dX9_seekFits_90 : decode cX9_seekFits 90 = .ok (.iload_n 3, 1) := by decide +kernel
theorem dX9_seekFits_91 : decode cX9_seekFits 91 = .ok (.iload 6, 2) := by decide +kernel
theorem dX9_seekFits_93 : decode cX9_seekFits 93 = .ok (.iastore, 1) := by decide +kernel
theorem dX9_seekFits_94 : decode cX9_seekFits 94 = .ok (.return_, 1) := by decide +kernel
theorem dX9_drawLanes_0 : decode cX9_drawLanes 0 = .ok (.iload_n 1, 1) := by decide +kernel
theorem dX9_drawLanes_1 : decode cX9_drawLanes 1 = .ok (.istore 6, 2) := by decide +kernel
theorem dX9_drawLanes_3 : decode cX9_drawLanes 3 = .ok (.iconst 0, 1) := by decide +kernel
theorem dX9_drawLanes_4 : decode cX9_drawLanes 4 = .ok (.istore 7, 2) := by decide +kernel
theorem dX9_drawLanes_6 : decode cX9_drawLanes 6 = .ok (.iconst 0, 1) := by decide +kernel
theorem dX9_drawLanes_7 : decode cX9_drawLanes 7 = .ok (.istore 8, 2) := by decide +kernel
theorem dX9_drawLanes_9 : decode cX9_drawLanes 9 = .ok (.iload 8, 2) := by decide +kernel
theorem dX9_drawLanes_11 : decode cX9_drawLanes 11 = .ok (.iload_n 2, 1) := by decide +kernel
theorem dX9_drawLanes_12 : decode cX9_drawLanes 12 = .ok (.if_icmp .ge 89, 3) := by decide +kernel
theorem dX9_drawLanes_15 : decode cX9_drawLanes 15 = .ok (.aload_n 0, 1) := by decide +kernel
theorem dX9_drawLanes_16 : decode cX9_drawLanes 16 = .ok (.invokevirtual 44, 3) := by decide +kernel
theorem dX9_drawLanes_19 : decode cX9_drawLanes 19 = .ok (.iconst 0, 1) := by decide +kernel
theorem dX9_drawLanes_20 : decode cX9_drawLanes 20 = .ok (.istore 9, 2) := by decide +kernel
theorem dX9_drawLanes_22 : decode cX9_drawLanes 22 = .ok (.iload 9, 2) := by decide +kernel
theorem dX9_drawLanes_24 : decode cX9_drawLanes 24 = .ok (.iload_n 3, 1) := by decide +kernel
theorem dX9_drawLanes_25 : decode cX9_drawLanes 25 = .ok (.if_icmp .ge 35, 3) := by decide +kernel
theorem dX9_drawLanes_28 : decode cX9_drawLanes 28 = .ok (.iload 6, 2) := by decide +kernel
theorem dX9_drawLanes_30 : decode cX9_drawLanes 30 = .ok (.ldc 103, 2) := by decide +kernel
theorem dX9_drawLanes_32 : decode cX9_drawLanes 32 = .ok (.imul, 1) := by decide +kernel
theorem dX9_drawLanes_33 : decode cX9_drawLanes 33 = .ok (.sipush 12345, 3) := by decide +kernel
theorem dX9_drawLanes_36 : decode cX9_drawLanes 36 = .ok (.iadd, 1) := by decide +kernel
theorem dX9_drawLanes_37 : decode cX9_drawLanes 37 = .ok (.istore 6, 2) := by decide +kernel
theorem dX9_drawLanes_39 : decode cX9_drawLanes 39 = .ok (.aload_n 0, 1) := by decide +kernel
theorem dX9_drawLanes_40 : decode cX9_drawLanes 40 = .ok (.iload 6, 2) := by decide +kernel
theorem dX9_drawLanes_42 : decode cX9_drawLanes 42 = .ok (.iload 4, 2) := by decide +kernel
theorem dX9_drawLanes_44 : decode cX9_drawLanes 44 = .ok (.invokevirtual 104, 3) := by decide +kernel
theorem dX9_drawLanes_47 : decode cX9_drawLanes 47 = .ok (.aload_n 0, 1) := by decide +kernel
theorem dX9_drawLanes_48 : decode cX9_drawLanes 48 = .ok (.getfield 28, 3) := by decide +kernel
theorem dX9_drawLanes_51 : decode cX9_drawLanes 51 = .ok (.invokevirtual 47, 3) := by decide +kernel
theorem dX9_drawLanes_54 : decode cX9_drawLanes 54 = .ok (.iinc 9 1, 3) := by decide +kernel
theorem dX9_drawLanes_57 : decode cX9_drawLanes 57 = .ok (.goto (-35), 3) := by decide +kernel
theorem dX9_drawLanes_60 : decode cX9_drawLanes 60 = .ok (.iload 5, 2) := by decide +kernel
theorem dX9_drawLanes_62 : decode cX9_drawLanes 62 = .ok (.ifCond .ge 18, 3) := by decide +kernel
theorem dX9_drawLanes_65 : decode cX9_drawLanes 65 = .ok (.iload 7, 2) := by decide +kernel
theorem dX9_drawLanes_67 : decode cX9_drawLanes 67 = .ok (.aload_n 0, 1) := by decide +kernel
theorem dX9_drawLanes_68 : decode cX9_drawLanes 68 = .ok (.getfield 28, 3) := by decide +kernel
theorem dX9_drawLanes_71 : decode cX9_drawLanes 71 = .ok (.invokevirtual 58, 3) := by decide +kernel
theorem dX9_drawLanes_74 : decode cX9_drawLanes 74 = .ok (.iadd, 1) := by decide +kernel
theorem dX9_drawLanes_75 : decode cX9_drawLanes 75 = .ok (.istore 7, 2) := by decide +kernel
theorem dX9_drawLanes_77 : decode cX9_drawLanes 77 = .ok (.goto 18, 3) := by decide +kernel
theorem dX9_drawLanes_80 : decode cX9_drawLanes 80 = .ok (.aload_n 0, 1) := by decide +kernel
theorem dX9_drawLanes_81 : decode cX9_drawLanes 81 = .ok (.getfield 28, 3) := by decide +kernel
theorem dX9_drawLanes_84 : decode cX9_drawLanes 84 = .ok (.iload 5, 2) := by decide +kernel
theorem dX9_drawLanes_86 : decode cX9_drawLanes 86 = .ok (.invokevirtual 108, 3) := by decide +kernel
theorem dX9_drawLanes_89 : decode cX9_drawLanes 89 = .ok (.ifCond .eq 6, 3) := by decide +kernel
theorem dX9_drawLanes_92 : decode cX9_drawLanes 92 = .ok (.iinc 7 1, 3) := by decide +kernel
theorem dX9_drawLanes_95 : decode cX9_drawLanes 95 = .ok (.iinc 8 1, 3) := by decide +kernel
theorem dX9_drawLanes_98 : decode cX9_drawLanes 98 = .ok (.goto (-89), 3) := by decide +kernel
theorem dX9_drawLanes_101 : decode cX9_drawLanes 101 = .ok (.iload 7, 2) := by decide +kernel
theorem dX9_drawLanes_103 : decode cX9_drawLanes 103 = .ok (.ireturn, 1) := by decide +kernel
theorem dX9_moveByDraw_0 : decode cX9_moveByDraw 0 = .ok (.aload_n 0, 1) := by decide +kernel
theorem dX9_moveByDraw_1 : decode cX9_moveByDraw 1 = .ok (.getfield 9, 3) := by decide +kernel
theorem dX9_moveByDraw_4 : decode cX9_moveByDraw 4 = .ok (.getfield 31, 3) := by decide +kernel
theorem dX9_moveByDraw_7 : decode cX9_moveByDraw 7 = .ok (.ifCond .le 14, 3) := by decide +kernel
theorem dX9_moveByDraw_10 : decode cX9_moveByDraw 10 = .ok (.iload_n 1, 1) := by decide +kernel
theorem dX9_moveByDraw_11 : decode cX9_moveByDraw 11 = .ok (.bipush 24, 2) := by decide +kernel
theorem dX9_moveByDraw_13 : decode cX9_moveByDraw 13 = .ok (.iushr, 1) := by decide +kernel
theorem dX9_moveByDraw_14 : decode cX9_moveByDraw 14 = .ok (.bipush 12, 2) := by decide +kernel
theorem dX9_moveByDraw_16 : decode cX9_moveByDraw 16 = .ok (.irem, 1) := by decide +kernel
theorem dX9_moveByDraw_17 : decode cX9_moveByDraw 17 = .ok (.iload_n 2, 1) := by decide +kernel
theorem dX9_moveByDraw_18 : decode cX9_moveByDraw 18 = .ok (.if_icmp .lt 4, 3) := by decide +kernel
theorem dX9_moveByDraw_21 : decode cX9_moveByDraw 21 = .ok (.return_, 1) := by decide +kernel
theorem dX9_moveByDraw_22 : decode cX9_moveByDraw 22 = .ok (.iload_n 1, 1) := by decide +kernel
theorem dX9_moveByDraw_23 : decode cX9_moveByDraw 23 = .ok (.bipush 8, 2) := by decide +kernel
theorem dX9_moveByDraw_25 : decode cX9_moveByDraw 25 = .ok (.iushr, 1) := by decide +kernel
theorem dX9_moveByDraw_26 : decode cX9_moveByDraw 26 = .ok (.aload_n 0, 1) := by decide +kernel
theorem dX9_moveByDraw_27 : decode cX9_moveByDraw 27 = .ok (.getfield 9, 3) := by decide +kernel
theorem dX9_moveByDraw_30 : decode cX9_moveByDraw 30 = .ok (.getfield 31, 3) := by decide +kernel
theorem dX9_moveByDraw_33 : decode cX9_moveByDraw 33 = .ok (.irem, 1) := by decide +kernel
theorem dX9_moveByDraw_34 : decode cX9_moveByDraw 34 = .ok (.istore_n 3, 1) := by decide +kernel
theorem dX9_moveByDraw_35 : decode cX9_moveByDraw 35 = .ok (.aload_n 0, 1) := by decide +kernel
theorem dX9_moveByDraw_36 : decode cX9_moveByDraw 36 = .ok (.getfield 9, 3) := by decide +kernel
theorem dX9_moveByDraw_39 : decode cX9_moveByDraw 39 = .ok (.iload_n 3, 1) := by decide +kernel
theorem dX9_moveByDraw_40 : decode cX9_moveByDraw 40 = .ok (.invokevirtual 50, 3) := by decide +kernel
theorem dX9_moveByDraw_43 : decode cX9_moveByDraw 43 = .ok (.ifCond .eq 19, 3) := by decide +kernel
theorem dX9_moveByDraw_46 : decode cX9_moveByDraw 46 = .ok (.aload_n 0, 1) := by decide +kernel
theorem dX9_moveByDraw_47 : decode cX9_moveByDraw 47 = .ok (.getfield 28, 3) := by decide +kernel
theorem dX9_moveByDraw_50 : decode cX9_moveByDraw 50 = .ok (.getfield 54, 3) := by decide +kernel
theorem dX9_moveByDraw_53 : decode cX9_moveByDraw 53 = .ok (.iload_n 3, 1) := by decide +kernel
theorem dX9_moveByDraw_54 : decode cX9_moveByDraw 54 = .ok (.iload_n 1, 1) := by decide +kernel
theorem dX9_moveByDraw_55 : decode cX9_moveByDraw 55 = .ok (.bipush 16, 2) := by decide +kernel
theorem dX9_moveByDraw_57 : decode cX9_moveByDraw 57 = .ok (.iushr, 1) := by decide +kernel
theorem dX9_moveByDraw_58 : decode cX9_moveByDraw 58 = .ok (.bipush 12, 2) := by decide +kernel
theorem dX9_moveByDraw_60 : decode cX9_moveByDraw 60 = .ok (.irem, 1) := by decide +kernel
theorem dX9_moveByDraw_61 : decode cX9_moveByDraw 61 = .ok (.iastore, 1) := by decide +kernel
theorem dX9_moveByDraw_62 : decode cX9_moveByDraw 62 = .ok (.return_, 1) := by decide +kernel
theorem dX10_init_0 : decode cX10_init 0 = .ok (.aload_n 0, 1) := by decide +kernel
theorem dX10_init_1 : decode cX10_init 1 = .ok (.invokespecial 3, 3) := by decide +kernel
theorem dX10_init_4 : decode cX10_init 4 = .ok (.aload_n 0, 1) := by decide +kernel
theorem dX10_init_5 : decode cX10_init 5 = .ok (.bipush 7, 2) := by decide +kernel
theorem dX10_init_7 : decode cX10_init 7 = .ok (.newarray .int, 2) := by decide +kernel
theorem dX10_init_9 : decode cX10_init 9 = .ok (.putfield 9, 3) := by decide +kernel
theorem dX10_init_12 : decode cX10_init 12 = .ok (.aload_n 0, 1) := by decide +kernel
theorem dX10_init_13 : decode cX10_init 13 = .ok (.sipush 128, 3) := by decide +kernel
theorem dX10_init_16 : decode cX10_init 16 = .ok (.newarray .boolean, 2) := by decide +kernel
theorem dX10_init_18 : decode cX10_init 18 = .ok (.putfield 15, 3) := by decide +kernel
theorem dX10_init_21 : decode cX10_init 21 = .ok (.aload_n 0, 1) := by decide +kernel
theorem dX10_init_22 : decode cX10_init 22 = .ok (.aload_n 1, 1) := by decide +kernel
theorem dX10_init_23 : decode cX10_init 23 = .ok (.putfield 19, 3) := by decide +kernel
theorem dX10_init_26 : decode cX10_init 26 = .ok (.aload_n 0, 1) := by decide +kernel
theorem dX10_init_27 : decode cX10_init 27 = .ok (.aload_n 2, 1) := by decide +kernel
theorem dX10_init_28 : decode cX10_init 28 = .ok (.putfield 23, 3) := by decide +kernel
theorem dX10_init_31 : decode cX10_init 31 = .ok (.return_, 1) := by decide +kernel
theorem dX10_fewestToTurn_0 : decode cX10_fewestToTurn 0 = .ok (.iload_n 1, 1) := by decide +kernel
theorem dX10_fewestToTurn_1 : decode cX10_fewestToTurn 1 = .ok (.ifCond .ne 13, 3) := by decide +kernel
theorem dX10_fewestToTurn_4 : decode cX10_fewestToTurn 4 = .ok (.aload_n 0, 1) := by decide +kernel
theorem dX10_fewestToTurn_5 : decode cX10_fewestToTurn 5 = .ok (.getfield 23, 3) := by decide +kernel
theorem dX10_fewestToTurn_8 : decode cX10_fewestToTurn 8 = .ok (.invokevirtual 27, 3) := by decide +kernel
theorem dX10_fewestToTurn_11 : decode cX10_fewestToTurn 11 = .ok (.goto 11, 3) := by decide +kernel
theorem dX10_fewestToTurn_14 : decode cX10_fewestToTurn 14 = .ok (.aload_n 0, 1) := by decide +kernel
theorem dX10_fewestToTurn_15 : decode cX10_fewestToTurn 15 = .ok (.getfield 23, 3) := by decide +kernel
theorem dX10_fewestToTurn_18 : decode cX10_fewestToTurn 18 = .ok (.invokevirtual 27, 3) := by decide +kernel
theorem dX10_fewestToTurn_21 : decode cX10_fewestToTurn 21 = .ok (.ineg, 1) := by decide +kernel
theorem dX10_fewestToTurn_22 : decode cX10_fewestToTurn 22 = .ok (.istore_n 2, 1) := by decide +kernel
theorem dX10_fewestToTurn_23 : decode cX10_fewestToTurn 23 = .ok (.iconst 0, 1) := by decide +kernel
theorem dX10_fewestToTurn_24 : decode cX10_fewestToTurn 24 = .ok (.istore_n 3, 1) := by decide +kernel
theorem dX10_fewestToTurn_25 : decode cX10_fewestToTurn 25 = .ok (.iconst 0, 1) := by decide +kernel
theorem dX10_fewestToTurn_26 : decode cX10_fewestToTurn 26 = .ok (.istore 4, 2) := by decide +kernel
theorem dX10_fewestToTurn_28 : decode cX10_fewestToTurn 28 = .ok (.iload 4, 2) := by decide +kernel
theorem dX10_fewestToTurn_30 : decode cX10_fewestToTurn 30 = .ok (.aload_n 0, 1) := by decide +kernel
theorem dX10_fewestToTurn_31 : decode cX10_fewestToTurn 31 = .ok (.getfield 19, 3) := by decide +kernel
theorem dX10_fewestToTurn_34 : decode cX10_fewestToTurn 34 = .ok (.getfield 33, 3) := by decide +kernel
theorem dX10_fewestToTurn_37 : decode cX10_fewestToTurn 37 = .ok (.if_icmp .ge 28, 3) := by decide +kernel
theorem dX10_fewestToTurn_40 : decode cX10_fewestToTurn 40 = .ok (.aload_n 0, 1) := by decide +kernel
theorem dX10_fewestToTurn_41 : decode cX10_fewestToTurn 41 = .ok (.getfield 23, 3) := by decide +kernel
theorem dX10_fewestToTurn_44 : decode cX10_fewestToTurn 44 = .ok (.getfield 39, 3) := by decide +kernel
theorem dX10_fewestToTurn_47 : decode cX10_fewestToTurn 47 = .ok (.iload 4, 2) := by decide +kernel
theorem dX10_fewestToTurn_49 : decode cX10_fewestToTurn 49 = .ok (.iaload, 1) := by decide +kernel
theorem dX10_fewestToTurn_50 : decode cX10_fewestToTurn 50 = .ok (.iconst 2, 1) := by decide +kernel
theorem dX10_fewestToTurn_51 : decode cX10_fewestToTurn 51 = .ok (.irem, 1) := by decide +kernel
theorem dX10_fewestToTurn_52 : decode cX10_fewestToTurn 52 = .ok (.iload_n 1, 1) := by decide +kernel
theorem dX10_fewestToTurn_53 : decode cX10_fewestToTurn 53 = .ok (.if_icmp .eq 6, 3) := by decide +kernel
theorem dX10_fewestToTurn_56 : decode cX10_fewestToTurn 56 = .ok (.iinc 3 1, 3) := by decide +kernel
theorem dX10_fewestToTurn_59 : decode cX10_fewestToTurn 59 = .ok (.iinc 4 1, 3) := by decide +kernel
theorem dX10_fewestToTurn_62 : decode cX10_fewestToTurn 62 = .ok (.goto (-34), 3) := by decide +kernel
theorem dX10_fewestToTurn_65 : decode cX10_fewestToTurn 65 = .ok (.iconst 0, 1) := by decide +kernel
theorem dX10_fewestToTurn_66 : decode cX10_fewestToTurn 66 = .ok (.istore 4, 2) := by decide +kernel
theorem dX10_fewestToTurn_68 : decode cX10_fewestToTurn 68 = .ok (.iload 4, 2) := by decide +kernel
theorem dX10_fewestToTurn_70 : decode cX10_fewestToTurn 70 = .ok (.iload_n 3, 1) := by decide +kernel
theorem dX10_fewestToTurn_71 : decode cX10_fewestToTurn 71 = .ok (.if_icmp .gt 41, 3) := by decide +kernel
theorem dX10_fewestToTurn_74 : decode cX10_fewestToTurn 74 = .ok (.iload_n 2, 1) := by decide +kernel
theorem dX10_fewestToTurn_75 : decode cX10_fewestToTurn 75 = .ok (.iconst 2, 1) := by decide +kernel
theorem dX10_fewestToTurn_76 : decode cX10_fewestToTurn 76 = .ok (.iload 4, 2) := by decide +kernel
theorem dX10_fewestToTurn_78 : decode cX10_fewestToTurn 78 = .ok (.imul, 1) := by decide +kernel
theorem dX10_fewestToTurn_79 : decode cX10_fewestToTurn 79 = .ok (.iadd, 1) := by decide +kernel
theorem dX10_fewestToTurn_80 : decode cX10_fewestToTurn 80 = .ok (.istore 5, 2) := by decide +kernel
theorem dX10_fewestToTurn_82 : decode cX10_fewestToTurn 82 = .ok (.iload 5, 2) := by decide +kernel
theorem dX10_fewestToTurn_84 : decode cX10_fewestToTurn 84 = .ok (.ifCond .gt 19, 3) := by decide +kernel
theorem dX10_fewestToTurn_87 : decode cX10_fewestToTurn 87 = .ok (.iload 5, 2) := by decide +kernel
theorem dX10_fewestToTurn_89 : decode cX10_fewestToTurn 89 = .ok (.ifCond .ne 17, 3) := by decide +kernel
theorem dX10_fewestToTurn_92 : decode cX10_fewestToTurn 92 = .ok (.aload_n 0, 1) := by decide +kernel
theorem dX10_fewestToTurn_93 : decode cX10_fewestToTurn 93 = .ok (.getfield 23, 3) := by decide +kernel
theorem dX10_fewestToTurn_96 : decode cX10_fewestToTurn 96 = .ok (.getfield 42, 3) := by decide +kernel
theorem dX10_fewestToTurn_99 : decode cX10_fewestToTurn 99 = .ok (.iload_n 1, 1) := by decide +kernel
theorem dX10_fewestToTurn_100 : decode cX10_fewestToTurn 100 = .ok (.if_icmp .ne 6, 3) := by decide +kernel
theorem dX10_fewestToTurn_103 : decode cX10_fewestToTurn 103 = .ok (.iload 4, 2) := by decide +kernel
theorem dX10_fewestToTurn_105 : decode cX10_fewestToTurn 105 = .ok (.ireturn, 1) := by decide +kernel
theorem dX10_fewestToTurn_106 : decode cX10_fewestToTurn 106 = .ok (.iinc 4 1, 3) := by decide +kernel
theorem dX10_fewestToTurn_109 : decode cX10_fewestToTurn 109 = .ok (.goto (-41), 3) := by decide +kernel
theorem dX10_fewestToTurn_112 : decode cX10_fewestToTurn 112 = .ok (.bipush (-2), 2) := by decide +kernel
theorem dX10_fewestToTurn_114 : decode cX10_fewestToTurn 114 = .ok (.ireturn, 1) := by decide +kernel
theorem dX10_areAcross_0 : decode cX10_areAcross 0 = .ok (.aload_n 0, 1) := by decide +kernel
theorem dX10_areAcross_1 : decode cX10_areAcross 1 = .ok (.getfield 23, 3) := by decide +kernel
theorem dX10_areAcross_4 : decode cX10_areAcross 4 = .ok (.getfield 39, 3) := by decide +kernel
theorem dX10_areAcross_7 : decode cX10_areAcross 7 = .ok (.iload_n 1, 1) := by decide +kernel
theorem dX10_areAcross_8 : decode cX10_areAcross 8 = .ok (.iaload, 1) := by decide +kernel
theorem dX10_areAcross_9 : decode cX10_areAcross 9 = .ok (.iconst 2, 1) := by decide +kernel
theorem dX10_areAcross_10 : decode cX10_areAcross 10 = .ok (.irem, 1) := by decide +kernel
theorem dX10_areAcross_11 : decode cX10_areAcross 11 = .ok (.aload_n 0, 1) := by decide +kernel
theorem dX10_areAcross_12 : decode cX10_areAcross 12 = .ok (.getfield 23, 3) := by decide +kernel
theorem dX10_areAcross_15 : decode cX10_areAcross 15 = .ok (.getfield 39, 3) := by decide +kernel
theorem dX10_areAcross_18 : decode cX10_areAcross 18 = .ok (.iload_n 2, 1) := by decide +kernel
theorem dX10_areAcross_19 : decode cX10_areAcross 19 = .ok (.iaload, 1) := by decide +kernel
theorem dX10_areAcross_20 : decode cX10_areAcross 20 = .ok (.iconst 2, 1) := by decide +kernel
theorem dX10_areAcross_21 : decode cX10_areAcross 21 = .ok (.irem, 1) := by decide +kernel
theorem dX10_areAcross_22 : decode cX10_areAcross 22 = .ok (.if_icmp .eq 7, 3) := by decide +kernel
theorem dX10_areAcross_25 : decode cX10_areAcross 25 = .ok (.iconst 1, 1) := by decide +kernel
theorem dX10_areAcross_26 : decode cX10_areAcross 26 = .ok (.goto 4, 3) := by decide +kernel
theorem dX10_areAcross_29 : decode cX10_areAcross 29 = .ok (.iconst 0, 1) := by decide +kernel
theorem dX10_areAcross_30 : decode cX10_areAcross 30 = .ok (.ireturn, 1) := by decide +kernel
theorem dX10_nearestAcross_0 : decode cX10_nearestAcross 0 = .ok (.bipush 12, 2) := by decide +kernel
theorem dX10_nearestAcross_2 : decode cX10_nearestAcross 2 = .ok (.istore_n 2, 1) := by decide +kernel
theorem dX10_nearestAcross_3 : decode cX10_nearestAcross 3 = .ok (.iconst 0, 1) := by decide +kernel
theorem dX10_nearestAcross_4 : decode cX10_nearestAcross 4 = .ok (.istore_n 3, 1) := by decide +kernel
theorem dX10_nearestAcross_5 : decode cX10_nearestAcross 5 = .ok (.iload_n 3, 1) := by decide +kernel
theorem dX10_nearestAcross_6 : decode cX10_nearestAcross 6 = .ok (.aload_n 0, 1) := by decide +kernel
theorem dX10_nearestAcross_7 : decode cX10_nearestAcross 7 = .ok (.getfield 19, 3) := by decide +kernel
theorem dX10_nearestAcross_10 : decode cX10_nearestAcross 10 = .ok (.getfield 33, 3) := by decide +kernel
theorem dX10_nearestAcross_13 : decode cX10_nearestAcross 13 = .ok (.if_icmp .ge 44, 3) := by decide +kernel
theorem dX10_nearestAcross_16 : decode cX10_nearestAcross 16 = .ok (.aload_n 0, 1) := by decide +kernel
theorem dX10_nearestAcross_17 : decode cX10_nearestAcross 17 = .ok (.iload_n 1, 1) := by decide +kernel
theorem dX10_nearestAcross_18 : decode cX10_nearestAcross 18 = .ok (.iload_n 3, 1) := by decide +kernel
theorem dX10_nearestAcross_19 : decode cX10_nearestAcross 19 = .ok (.invokevirtual 45, 3) := by decide +kernel
theorem dX10_nearestAcross_22 : decode cX10_nearestAcross 22 = .ok (.ifCond .eq 29, 3) := by decide +kernel
theorem dX10_nearestAcross_25 : decode cX10_nearestAcross 25 = .ok (.iload_n 2, 1) := by decide +kernel
theorem dX10_nearestAcross_26 : decode cX10_nearestAcross 26 = .ok (.aload_n 0, 1) := by decide +kernel
theorem dX10_nearestAcross_27 : decode cX10_nearestAcross 27 = .ok (.getfield 23, 3) := by decide +kernel
theorem dX10_nearestAcross_30 : decode cX10_nearestAcross 30 = .ok (.getfield 39, 3) := by decide +kernel
theorem dX10_nearestAcross_33 : decode cX10_nearestAcross 33 = .ok (.iload_n 1, 1) := by decide +kernel
theorem dX10_nearestAcross_34 : decode cX10_nearestAcross 34 = .ok (.iaload, 1) := by decide +kernel
theorem dX10_nearestAcross_35 : decode cX10_nearestAcross 35 = .ok (.aload_n 0, 1) := by decide +kernel
theorem dX10_nearestAcross_36 : decode cX10_nearestAcross 36 = .ok (.getfield 23, 3) := by decide +kernel
theorem dX10_nearestAcross_39 : decode cX10_nearestAcross 39 = .ok (.getfield 39, 3) := by decide +kernel
theorem dX10_nearestAcross_42 : decode cX10_nearestAcross 42 = .ok (.iload_n 3, 1) := by decide +kernel
theorem dX10_nearestAcross_43 : decode cX10_nearestAcross 43 = .ok (.iaload, 1) := by decide +kernel
theorem dX10_nearestAcross_44 : decode cX10_nearestAcross 44 = .ok (.invokestatic 49, 3) := by decide +kernel
theorem dX10_nearestAcross_47 : decode cX10_nearestAcross 47 = .ok (.invokestatic 53, 3) := by decide +kernel
theorem dX10_nearestAcross_50 : decode cX10_nearestAcross 50 = .ok (.istore_n 2, 1) := by decide +kernel
theorem dX10_nearestAcross_51 : decode cX10_nearestAcross 51 = .ok (.iinc 3 1, 3) := by decide +kernel
theorem dX10_nearestAcross_54 : decode cX10_nearestAcross 54 = .ok (.goto (-49), 3) := by decide +kernel
theorem dX10_nearestAcross_57 : decode cX10_nearestAcross 57 = .ok (.iload_n 2, 1) := by decide +kernel
theorem dX10_nearestAcross_58 : decode cX10_nearestAcross 58 = .ok (.bipush 12, 2) := by decide +kernel
theorem dX10_nearestAcross_60 : decode cX10_nearestAcross 60 = .ok (.if_icmp .ge 7, 3) := by decide +kernel
theorem dX10_nearestAcross_63 : decode cX10_nearestAcross 63 = .ok (.iload_n 2, 1) := by decide +kernel
theorem dX10_nearestAcross_64 : decode cX10_nearestAcross 64 = .ok (.goto 5, 3) := by decide +kernel
theorem dX10_nearestAcross_67 : decode cX10_nearestAcross 67 = .ok (.bipush (-2), 2) := by decide +kernel
theorem dX10_nearestAcross_69 : decode cX10_nearestAcross 69 = .ok (.ireturn, 1) := by decide +kernel
theorem dX10_mostPairs_0 : decode cX10_mostPairs 0 = .ok (.iconst 0, 1) := by decide +kernel
theorem dX10_mostPairs_1 : decode cX10_mostPairs 1 = .ok (.istore_n 2, 1) := by decide +kernel
theorem dX10_mostPairs_2 : decode cX10_mostPairs 2 = .ok (.iload_n 2, 1) := by decide +kernel
theorem dX10_mostPairs_3 : decode cX10_mostPairs 3 = .ok (.aload_n 0, 1) := by decide +kernel
theorem dX10_mostPairs_4 : decode cX10_mostPairs 4 = .ok (.getfield 15, 3) := by decide +kernel
theorem dX10_mostPairs_7 : decode cX10_mostPairs 7 = .ok (.arraylength, 1) := by decide +kernel
theorem dX10_mostPairs_8 : decode cX10_mostPairs 8 = .ok (.if_icmp .ge 24, 3) := by decide +kernel
theorem dX10_mostPairs_11 : decode cX10_mostPairs 11 = .ok (.aload_n 0, 1) := by decide +kernel
theorem dX10_mostPairs_12 : decode cX10_mostPairs 12 = .ok (.getfield 15, 3) := by decide +kernel
theorem dX10_mostPairs_15 : decode cX10_mostPairs 15 = .ok (.iload_n 2, 1) := by decide +kernel
theorem dX10_mostPairs_16 : decode cX10_mostPairs 16 = .ok (.iload_n 2, 1) := by decide +kernel
theorem dX10_mostPairs_17 : decode cX10_mostPairs 17 = .ok (.ifCond .ne 7, 3) := by decide +kernel
theorem dX10_mostPairs_20 : decode cX10_mostPairs 20 = .ok (.iconst 1, 1) := by decide +kernel
theorem dX10_mostPairs_21 : decode cX10_mostPairs 21 = .ok (.goto 4, 3) := by decide +kernel
theorem dX10_mostPairs_24 : decode cX10_mostPairs 24 = .ok (.iconst 0, 1) := by decide +kernel
theorem dX10_mostPairs_25 : decode cX10_mostPairs 25 = .ok (.bastore, 1) := by decide +kernel
theorem dX10_mostPairs_26 : decode cX10_mostPairs 26 = .ok (.iinc 2 1, 3) := by decide +kernel
theorem dX10_mostPairs_29 : decode cX10_mostPairs 29 = .ok (.goto (-27), 3) := by decide +kernel
theorem dX10_mostPairs_32 : decode cX10_mostPairs 32 = .ok (.iconst 0, 1) := by decide +kernel
theorem dX10_mostPairs_33 : decode cX10_mostPairs 33 = .ok (.istore_n 2, 1) := by decide +kernel
theorem dX10_mostPairs_34 : decode cX10_mostPairs 34 = .ok (.iload_n 2, 1) := by decide +kernel
theorem dX10_mostPairs_35 : decode cX10_mostPairs 35 = .ok (.aload_n 0, 1) := by decide +kernel
theorem dX10_mostPairs_36 : decode cX10_mostPairs 36 = .ok (.getfield 19, 3) := by decide +kernel
theorem dX10_mostPairs_39 : decode cX10_mostPairs 39 = .ok (.getfield 33, 3) := by decide +kernel
theorem dX10_mostPairs_42 : decode cX10_mostPairs 42 = .ok (.if_icmp .ge 29, 3) := by decide +kernel
theorem dX10_mostPairs_45 : decode cX10_mostPairs 45 = .ok (.aload_n 0, 1) := by decide +kernel
theorem dX10_mostPairs_46 : decode cX10_mostPairs 46 = .ok (.getfield 23, 3) := by decide +kernel
theorem dX10_mostPairs_49 : decode cX10_mostPairs 49 = .ok (.getfield 39, 3) := by decide +kernel
theorem dX10_mostPairs_52 : decode cX10_mostPairs 52 = .ok (.iload_n 2, 1) := by decide +kernel
theorem dX10_mostPairs_53 : decode cX10_mostPairs 53 = .ok (.iaload, 1) := by decide +kernel
theorem dX10_mostPairs_54 : decode cX10_mostPairs 54 = .ok (.iconst 2, 1) := by decide +kernel
theorem dX10_mostPairs_55 : decode cX10_mostPairs 55 = .ok (.irem, 1) := by decide +kernel
theorem dX10_mostPairs_56 : decode cX10_mostPairs 56 = .ok (.ifCond .ne 9, 3) := by decide +kernel
theorem dX10_mostPairs_59 : decode cX10_mostPairs 59 = .ok (.aload_n 0, 1) := by decide +kernel
theorem dX10_mostPairs_60 : decode cX10_mostPairs 60 = .ok (.iload_n 2, 1) := by decide +kernel
theorem dX10_mostPairs_61 : decode cX10_mostPairs 61 = .ok (.iload_n 1, 1) := by decide +kernel
theorem dX10_mostPairs_62 : decode cX10_mostPairs 62 = .ok (.invokevirtual 58, 3) := by decide +kernel
theorem dX10_mostPairs_65 : decode cX10_mostPairs 65 = .ok (.iinc 2 1, 3) := by decide +kernel
theorem dX10_mostPairs_68 : decode cX10_mostPairs 68 = .ok (.goto (-34), 3) := by decide +kernel
theorem dX10_mostPairs_71 : decode cX10_mostPairs 71 = .ok (.iconst 0, 1) := by decide +kernel
theorem dX10_mostPairs_72 : decode cX10_mostPairs 72 = .ok (.istore_n 2, 1) := by decide +kernel
theorem dX10_mostPairs_73 : decode cX10_mostPairs 73 = .ok (.iconst 0, 1) := by decide +kernel
theorem dX10_mostPairs_74 : decode cX10_mostPairs 74 = .ok (.istore_n 3, 1) := by decide +kernel
theorem dX10_mostPairs_75 : decode cX10_mostPairs 75 = .ok (.iload_n 3, 1) := by decide +kernel
theorem dX10_mostPairs_76 : decode cX10_mostPairs 76 = .ok (.aload_n 0, 1) := by decide +kernel
theorem dX10_mostPairs_77 : decode cX10_mostPairs 77 = .ok (.getfield 15, 3) := by decide +kernel
theorem dX10_mostPairs_80 : decode cX10_mostPairs 80 = .ok (.arraylength, 1) := by decide +kernel
theorem dX10_mostPairs_81 : decode cX10_mostPairs 81 = .ok (.if_icmp .ge 27, 3) := by decide +kernel
theorem dX10_mostPairs_84 : decode cX10_mostPairs 84 = .ok (.aload_n 0, 1) := by decide +kernel
theorem dX10_mostPairs_85 : decode cX10_mostPairs 85 = .ok (.getfield 15, 3) := by decide +kernel
theorem dX10_mostPairs_88 : decode cX10_mostPairs 88 = .ok (.iload_n 3, 1) := by decide +kernel
theorem dX10_mostPairs_89 : decode cX10_mostPairs 89 = .ok (.baload, 1) := by decide +kernel
theorem dX10_mostPairs_90 : decode cX10_mostPairs 90 = .ok (.ifCond .eq 12, 3) := by decide +kernel
theorem dX10_mostPairs_93 : decode cX10_mostPairs 93 = .ok (.iload_n 2, 1) := by decide +kernel
theorem dX10_mostPairs_94 : decode cX10_mostPairs 94 = .ok (.iload_n 3, 1) := by decide +kernel
theorem dX10_mostPairs_95 : decode cX10_mostPairs 95 = .ok (.invokestatic 62, 3) := by decide +kernel
theorem dX10_mostPairs_98 : decode cX10_mostPairs 98 = .ok (.invokestatic 68, 3) := by decide +kernel
theorem dX10_mostPairs_101 : decode cX10_mostPairs 101 = .ok (.istore_n 2, 1) := by decide +kernel
theorem dX10_mostPairs_102 : decode cX10_mostPairs 102 = .ok (.iinc 3 1, 3) := by decide +kernel
theorem dX10_mostPairs_105 : decode cX10_mostPairs 105 = .ok (.goto (-30), 3) := by decide +kernel
theorem dX10_mostPairs_108 : decode cX10_mostPairs 108 = .ok (.iload_n 2, 1) := by decide +kernel
theorem dX10_mostPairs_109 : decode cX10_mostPairs 109 = .ok (.ireturn, 1) := by decide +kernel
theorem dX10_pairOff_0 : decode cX10_pairOff 0 = .ok (.aload_n 0, 1) := by decide +kernel
theorem dX10_pairOff_1 : decode cX10_pairOff 1 = .ok (.getfield 15, 3) := by decide +kernel
theorem dX10_pairOff_4 : decode cX10_pairOff 4 = .ok (.arraylength, 1) := by decide +kernel
theorem dX10_pairOff_5 : decode cX10_pairOff 5 = .ok (.iconst 1, 1) := by decide +kernel
theorem dX10_pairOff_6 : decode cX10_pairOff 6 = .ok (.isub, 1) := by decide +kernel
theorem dX10_pairOff_7 : decode cX10_pairOff 7 = .ok (.istore_n 3, 1) := by decide +kernel
theorem dX10_pairOff_8 : decode cX10_pairOff 8 = .ok (.iload_n 3, 1) := by decide +kernel
theorem dX10_pairOff_9 : decode cX10_pairOff 9 = .ok (.ifCond .lt 113, 3) := by decide +kernel
theorem dX10_pairOff_12 : decode cX10_pairOff 12 = .ok (.iconst 0, 1) := by decide +kernel
theorem dX10_pairOff_13 : decode cX10_pairOff 13 = .ok (.istore 4, 2) := by decide +kernel
theorem dX10_pairOff_15 : decode cX10_pairOff 15 = .ok (.aload_n 0, 1) := by decide +kernel
theorem dX10_pairOff_16 : decode cX10_pairOff 16 = .ok (.getfield 15, 3) := by decide +kernel
theorem dX10_pairOff_19 : decode cX10_pairOff 19 = .ok (.iload_n 3, 1) := by decide +kernel
theorem dX10_pairOff_20 : decode cX10_pairOff 20 = .ok (.baload, 1) := by decide +kernel
theorem dX10_pairOff_21 : decode cX10_pairOff 21 = .ok (.ifCond .eq 95, 3) := by decide +kernel
theorem dX10_pairOff_24 : decode cX10_pairOff 24 = .ok (.iload 4, 2) := by decide +kernel
theorem dX10_pairOff_26 : decode cX10_pairOff 26 = .ok (.aload_n 0, 1) := by decide +kernel
theorem dX10_pairOff_27 : decode cX10_pairOff 27 = .ok (.getfield 19, 3) := by decide +kernel
theorem dX10_pairOff_30 : decode cX10_pairOff 30 = .ok (.getfield 33, 3) := by decide +kernel
theorem dX10_pairOff_33 : decode cX10_pairOff 33 = .ok (.if_icmp .ge 83, 3) := by decide +kernel
theorem dX10_pairOff_36 : decode cX10_pairOff 36 = .ok (.aload_n 0, 1) := by decide +kernel
theorem dX10_pairOff_37 : decode cX10_pairOff 37 = .ok (.iload_n 1, 1) := by decide +kernel
theorem dX10_pairOff_38 : decode cX10_pairOff 38 = .ok (.iload 4, 2) := by decide +kernel
theorem dX10_pairOff_40 : decode cX10_pairOff 40 = .ok (.invokevirtual 45, 3) := by decide +kernel
theorem dX10_pairOff_43 : decode cX10_pairOff 43 = .ok (.ifCond .eq 33, 3) := by decide +kernel
theorem dX10_pairOff_46 : decode cX10_pairOff 46 = .ok (.aload_n 0, 1) := by decide +kernel
theorem dX10_pairOff_47 : decode cX10_pairOff 47 = .ok (.getfield 23, 3) := by decide +kernel
theorem dX10_pairOff_50 : decode cX10_pairOff 50 = .ok (.getfield 39, 3) := by decide +kernel
theorem dX10_pairOff_53 : decode cX10_pairOff 53 = .ok (.iload_n 1, 1) := by decide +kernel
theorem dX10_pairOff_54 : decode cX10_pairOff 54 = .ok (.iaload, 1) := by decide +kernel
theorem dX10_pairOff_55 : decode cX10_pairOff 55 = .ok (.aload_n 0, 1) := by decide +kernel
theorem dX10_pairOff_56 : decode cX10_pairOff 56 = .ok (.getfield 23, 3) := by decide +kernel
theorem dX10_pairOff_59 : decode cX10_pairOff 59 = .ok (.getfield 39, 3) := by decide +kernel
theorem dX10_pairOff_62 : decode cX10_pairOff 62 = .ok (.iload 4, 2) := by decide +kernel
theorem dX10_pairOff_64 : decode cX10_pairOff 64 = .ok (.iaload, 1) := by decide +kernel
theorem dX10_pairOff_65 : decode cX10_pairOff 65 = .ok (.invokestatic 49, 3) := by decide +kernel
theorem dX10_pairOff_68 : decode cX10_pairOff 68 = .ok (.iload_n 2, 1) := by decide +kernel
theorem dX10_pairOff_69 : decode cX10_pairOff 69 = .ok (.if_icmp .gt 7, 3) := by decide +kernel
theorem dX10_pairOff_72 : decode cX10_pairOff 72 = .ok (.iconst 1, 1) := by decide +kernel
theorem dX10_pairOff_73 : decode cX10_pairOff 73 = .ok (.goto 4, 3) := by decide +kernel
theorem dX10_pairOff_76 : decode cX10_pairOff 76 = .ok (.iconst 0, 1) := by decide +kernel
theorem dX10_pairOff_77 : decode cX10_pairOff 77 = .ok (.istore 5, 2) := by decide +kernel
theorem dX10_pairOff_79 : decode cX10_pairOff 79 = .ok (.iload_n 3, 1) := by decide +kernel
theorem dX10_pairOff_80 : decode cX10_pairOff 80 = .ok (.iconst 1, 1) := by decide +kernel
theorem dX10_pairOff_81 : decode cX10_pairOff 81 = .ok (.iload 4, 2) := by decide +kernel
theorem dX10_pairOff_83 : decode cX10_pairOff 83 = .ok (.ishl, 1) := by decide +kernel
theorem dX10_pairOff_84 : decode cX10_pairOff 84 = .ok (.ior, 1) := by decide +kernel
theorem dX10_pairOff_85 : decode cX10_pairOff 85 = .ok (.istore 6, 2) := by decide +kernel
theorem dX10_pairOff_87 : decode cX10_pairOff 87 = .ok (.iload 5, 2) := by decide +kernel
theorem dX10_pairOff_89 : decode cX10_pairOff 89 = .ok (.ifCond .eq 21, 3) := by decide +kernel
theorem dX10_pairOff_92 : decode cX10_pairOff 92 = .ok (.iload 6, 2) := by decide +kernel
theorem dX10_pairOff_94 : decode cX10_pairOff 94 = .ok (.aload_n 0, 1) := by decide +kernel
theorem dX10_pairOff_95 : decode cX10_pairOff 95 = .ok (.getfield 15, 3) := by decide +kernel
theorem dX10_pairOff_98 : decode cX10_pairOff 98 = .ok (.arraylength, 1) := by decide +kernel
theorem dX10_pairOff_99 : decode cX10_pairOff 99 = .ok (.if_icmp .ge 11, 3) := by decide +kernel
theorem dX10_pairOff_102 : decode cX10_pairOff 102 = .ok (.aload_n 0, 1) := by decide +kernel
theorem dX10_pairOff_103 : decode cX10_pairOff 103 = .ok (.getfield 15, 3) := by decide +kernel
theorem dX10_pairOff_106 : decode cX10_pairOff 106 = .ok (.iload 6, 2) := by decide +kernel
theorem dX10_pairOff_108 : decode cX10_pairOff 108 = .ok (.iconst 1, 1) := by decide +kernel
theorem dX10_pairOff_109 : decode cX10_pairOff 109 = .ok (.bastore, 1) := by decide +kernel
theorem dX10_pairOff_110 : decode cX10_pairOff 110 = .ok (.iinc 4 1, 3) := by decide +kernel
theorem dX10_pairOff_113 : decode cX10_pairOff 113 = .ok (.goto (-98), 3) := by decide +kernel
theorem dX10_pairOff_116 : decode cX10_pairOff 116 = .ok (.iinc 3 (-1), 3) := by decide +kernel
theorem dX10_pairOff_119 : decode cX10_pairOff 119 = .ok (.goto (-111), 3) := by decide +kernel
theorem dX10_pairOff_122 : decode cX10_pairOff 122 = .ok (.return_, 1) := by decide +kernel
theorem dX10_playTurns_0 : decode cX10_playTurns 0 = .ok (.iconst 0, 1) := by decide +kernel
theorem dX10_playTurns_1 : decode cX10_playTurns 1 = .ok (.istore_n 2, 1) := by decide +kernel
theorem dX10_playTurns_2 : decode cX10_playTurns 2 = .ok (.iload_n 2, 1) := by decide +kernel
theorem dX10_playTurns_3 : decode cX10_playTurns 3 = .ok (.aload_n 0, 1) := by decide +kernel
theorem dX10_playTurns_4 : decode cX10_playTurns 4 = .ok (.getfield 19, 3) := by decide +kernel
theorem dX10_playTurns_7 : decode cX10_playTurns 7 = .ok (.getfield 33, 3) := by decide +kernel
theorem dX10_playTurns_10 : decode cX10_playTurns 10 = .ok (.if_icmp .ge 26, 3) := by decide +kernel
theorem dX10_playTurns_13 : decode cX10_playTurns 13 = .ok (.aload_n 0, 1) := by decide +kernel
theorem dX10_playTurns_14 : decode cX10_playTurns 14 = .ok (.getfield 9, 3) := by decide +kernel
theorem dX10_playTurns_17 : decode cX10_playTurns 17 = .ok (.iload_n 2, 1) := by decide +kernel
theorem dX10_playTurns_18 : decode cX10_playTurns 18 = .ok (.aload_n 0, 1) := by decide +kernel
theorem dX10_playTurns_19 : decode cX10_playTurns 19 = .ok (.getfield 23, 3) := by decide +kernel
theorem dX10_playTurns_22 : decode cX10_playTurns 22 = .ok (.getfield 39, 3) := by decide +kernel
theorem dX10_playTurns_25 : decode cX10_playTurns 25 = .ok (.iload_n 2, 1) := by decide +kernel
theorem dX10_playTurns_26 : decode cX10_playTurns 26 = .ok (.iaload, 1) := by decide +kernel
theorem dX10_playTurns_27 : decode cX10_playTurns 27 = .ok (.iconst 2, 1) := by decide +kernel
theorem dX10_playTurns_28 : decode cX10_playTurns 28 = .ok (.irem, 1) := by decide +kernel
theorem dX10_playTurns_29 : decode cX10_playTurns 29 = .ok (.iastore, 1) := by decide +kernel
theorem dX10_playTurns_30 : decode cX10_playTurns 30 = .ok (.iinc 2 1, 3) := by decide +kernel
theorem dX10_playTurns_33 : decode cX10_playTurns 33 = .ok (.goto (-31), 3) := by decide +kernel
theorem dX10_playTurns_36 : decode cX10_playTurns 36 = .ok (.aload_n 0, 1) := by decide +kernel
theorem dX10_playTurns_37 : decode cX10_playTurns 37 = .ok (.getfield 23, 3) := by decide +kernel
theorem dX10_playTurns_40 : decode cX10_playTurns 40 = .ok (.invokevirtual 27, 3) := by decide +kernel
theorem dX10_playTurns_43 : decode cX10_playTurns 43 = .ok (.istore_n 2, 1) := by decide +kernel
theorem dX10_playTurns_44 : decode cX10_playTurns 44 = .ok (.aload_n 0, 1) := by decide +kernel
theorem dX10_playTurns_45 : decode cX10_playTurns 45 = .ok (.aload_n 0, 1) := by decide +kernel
theorem dX10_playTurns_46 : decode cX10_playTurns 46 = .ok (.iload_n 1, 1) := by decide +kernel
theorem dX10_playTurns_47 : decode cX10_playTurns 47 = .ok (.iconst 1, 1) := by decide +kernel
theorem dX10_playTurns_48 : decode cX10_playTurns 48 = .ok (.isub, 1) := by decide +kernel
theorem dX10_playTurns_49 : decode cX10_playTurns 49 = .ok (.iconst 0, 1) := by decide +kernel
theorem dX10_playTurns_50 : decode cX10_playTurns 50 = .ok (.iload_n 2, 1) := by decide +kernel
theorem dX10_playTurns_51 : decode cX10_playTurns 51 = .ok (.invokevirtual 71, 3) := by decide +kernel
theorem dX10_playTurns_54 : decode cX10_playTurns 54 = .ok (.putfield 75, 3) := by decide +kernel
theorem dX10_playTurns_57 : decode cX10_playTurns 57 = .ok (.aload_n 0, 1) := by decide +kernel
theorem dX10_playTurns_58 : decode cX10_playTurns 58 = .ok (.bipush 9, 2) := by decide +kernel
theorem dX10_playTurns_60 : decode cX10_playTurns 60 = .ok (.putfield 78, 3) := by decide +kernel
theorem dX10_playTurns_63 : decode cX10_playTurns 63 = .ok (.iconst 0, 1) := by decide +kernel
theorem dX10_playTurns_64 : decode cX10_playTurns 64 = .ok (.istore_n 3, 1) := by decide +kernel
theorem dX10_playTurns_65 : decode cX10_playTurns 65 = .ok (.iload_n 3, 1) := by decide +kernel
theorem dX10_playTurns_66 : decode cX10_playTurns 66 = .ok (.aload_n 0, 1) := by decide +kernel
theorem dX10_playTurns_67 : decode cX10_playTurns 67 = .ok (.getfield 19, 3) := by decide +kernel
theorem dX10_playTurns_70 : decode cX10_playTurns 70 = .ok (.getfield 33, 3) := by decide +kernel
theorem dX10_playTurns_73 : decode cX10_playTurns 73 = .ok (.if_icmp .ge 41, 3) := by decide +kernel
theorem dX10_playTurns_76 : decode cX10_playTurns 76 = .ok (.aload_n 0, 1) := by decide +kernel
theorem dX10_playTurns_77 : decode cX10_playTurns 77 = .ok (.iload_n 3, 1) := by decide +kernel
theorem dX10_playTurns_78 : decode cX10_playTurns 78 = .ok (.iload_n 1, 1) := by decide +kernel
theorem dX10_playTurns_79 : decode cX10_playTurns 79 = .ok (.iconst 1, 1) := by decide +kernel
theorem dX10_playTurns_80 : decode cX10_playTurns 80 = .ok (.isub, 1) := by decide +kernel
theorem dX10_playTurns_81 : decode cX10_playTurns 81 = .ok (.iconst 0, 1) := by decide +kernel
theorem dX10_playTurns_82 : decode cX10_playTurns 82 = .ok (.iload_n 2, 1) := by decide +kernel
theorem dX10_playTurns_83 : decode cX10_playTurns 83 = .ok (.invokevirtual 81, 3) := by decide +kernel
theorem dX10_playTurns_86 : decode cX10_playTurns 86 = .ok (.istore 4, 2) := by decide +kernel
theorem dX10_playTurns_88 : decode cX10_playTurns 88 = .ok (.iload 4, 2) := by decide +kernel
theorem dX10_playTurns_90 : decode cX10_playTurns 90 = .ok (.aload_n 0, 1) := by decide +kernel
theorem dX10_playTurns_91 : decode cX10_playTurns 91 = .ok (.getfield 75, 3) := by decide +kernel
theorem dX10_playTurns_94 : decode cX10_playTurns 94 = .ok (.if_icmp .le 14, 3) := by decide +kernel
theorem dX10_playTurns_97 : decode cX10_playTurns 97 = .ok (.aload_n 0, 1) := by decide +kernel
theorem dX10_playTurns_98 : decode cX10_playTurns 98 = .ok (.iload 4, 2) := by decide +kernel
theorem dX10_playTurns_100 : decode cX10_playTurns 100 = .ok (.putfield 75, 3) := by decide +kernel
theorem dX10_playTurns_103 : decode cX10_playTurns 103 = .ok (.aload_n 0, 1) := by decide +kernel
theorem dX10_playTurns_104 : decode cX10_playTurns 104 = .ok (.iload_n 3, 1) := by decide +kernel
theorem dX10_playTurns_105 : decode cX10_playTurns 105 = .ok (.putfield 78, 3) := by decide +kernel
theorem dX10_playTurns_108 : decode cX10_playTurns 108 = .ok (.iinc 3 1, 3) := by decide +kernel
theorem dX10_playTurns_111 : decode cX10_playTurns 111 = .ok (.goto (-46), 3) := by decide +kernel
theorem dX10_playTurns_114 : decode cX10_playTurns 114 = .ok (.return_, 1) := by decide +kernel
theorem dX10_bestLead_0 : decode cX10_bestLead 0 = .ok (.iload_n 1, 1) := by decide +kernel
theorem dX10_bestLead_1 : decode cX10_bestLead 1 = .ok (.ifCond .gt 5, 3) := by decide +kernel
theorem dX10_bestLead_4 : decode cX10_bestLead 4 = .ok (.iload_n 3, 1) := by decide +kernel
theorem dX10_bestLead_5 : decode cX10_bestLead 5 = .ok (.ireturn, 1) := by decide +kernel
theorem dX10_bestLead_6 : decode cX10_bestLead 6 = .ok (.aload_n 0, 1) := by decide +kernel
theorem dX10_bestLead_7 : decode cX10_bestLead 7 = .ok (.iload_n 1, 1) := by decide +kernel
theorem dX10_bestLead_8 : decode cX10_bestLead 8 = .ok (.iconst 1, 1) := by decide +kernel
theorem dX10_bestLead_9 : decode cX10_bestLead 9 = .ok (.isub, 1) := by decide +kernel
theorem dX10_bestLead_10 : decode cX10_bestLead 10 = .ok (.iload_n 2, 1) := by decide +kernel
theorem dX10_bestLead_11 : decode cX10_bestLead 11 = .ok (.ifCond .ne 7, 3) := by decide +kernel
theorem dX10_bestLead_14 : decode cX10_bestLead 14 = .ok (.iconst 1, 1) := by decide +kernel
theorem dX10_bestLead_15 : decode cX10_bestLead 15 = .ok (.goto 4, 3) := by decide +kernel
theorem dX10_bestLead_18 : decode cX10_bestLead 18 = .ok (.iconst 0, 1) := by decide +kernel
theorem dX10_bestLead_19 : decode cX10_bestLead 19 = .ok (.iload_n 3, 1) := by decide +kernel
theorem dX10_bestLead_20 : decode cX10_bestLead 20 = .ok (.invokevirtual 71, 3) := by decide +kernel
theorem dX10_bestLead_23 : decode cX10_bestLead 23 = .ok (.istore 4, 2) := by decide +kernel
theorem dX10_bestLead_25 : decode cX10_bestLead 25 = .ok (.iconst 0, 1) := by decide +kernel
theorem dX10_bestLead_26 : decode cX10_bestLead 26 = .ok (.istore 5, 2) := by decide +kernel
theorem dX10_bestLead_28 : decode cX10_bestLead 28 = .ok (.iload 5, 2) := by decide +kernel
theorem dX10_bestLead_30 : decode cX10_bestLead 30 = .ok (.aload_n 0, 1) := by decide +kernel
theorem dX10_bestLead_31 : decode cX10_bestLead 31 = .ok (.getfield 19, 3) := by decide +kernel
theorem dX10_bestLead_34 : decode cX10_bestLead 34 = .ok (.getfield 33, 3) := by decide +kernel
theorem dX10_bestLead_37 : decode cX10_bestLead 37 = .ok (.if_icmp .ge 53, 3) := by decide +kernel
theorem dX10_bestLead_40 : decode cX10_bestLead 40 = .ok (.aload_n 0, 1) := by decide +kernel
theorem dX10_bestLead_41 : decode cX10_bestLead 41 = .ok (.iload 5, 2) := by decide +kernel
theorem dX10_bestLead_43 : decode cX10_bestLead 43 = .ok (.iload_n 1, 1) := by decide +kernel
theorem dX10_bestLead_44 : decode cX10_bestLead 44 = .ok (.iconst 1, 1) := by decide +kernel
theorem dX10_bestLead_45 : decode cX10_bestLead 45 = .ok (.isub, 1) := by decide +kernel
theorem dX10_bestLead_46 : decode cX10_bestLead 46 = .ok (.iload_n 2, 1) := by decide +kernel
theorem dX10_bestLead_47 : decode cX10_bestLead 47 = .ok (.ifCond .ne 7, 3) := by decide +kernel
theorem dX10_bestLead_50 : decode cX10_bestLead 50 = .ok (.iconst 1, 1) := by decide +kernel
theorem dX10_bestLead_51 : decode cX10_bestLead 51 = .ok (.goto 4, 3) := by decide +kernel
theorem dX10_bestLead_54 : decode cX10_bestLead 54 = .ok (.iconst 0, 1) := by decide +kernel
theorem dX10_bestLead_55 : decode cX10_bestLead 55 = .ok (.iload_n 3, 1) := by decide +kernel
theorem dX10_bestLead_56 : decode cX10_bestLead 56 = .ok (.invokevirtual 81, 3) := by decide +kernel
theorem dX10_bestLead_59 : decode cX10_bestLead 59 = .ok (.istore 6, 2) := by decide +kernel
theorem dX10_bestLead_61 : decode cX10_bestLead 61 = .ok (.iload_n 2, 1) := by decide +kernel
theorem dX10_bestLead_62 : decode cX10_bestLead 62 = .ok (.ifCond .eq 13, 3) := by decide +kernel
theorem dX10_bestLead_65 : decode cX10_bestLead 65 = .ok (.iload 4, 2) := by decide +kernel
theorem dX10_bestLead_67 : decode cX10_bestLead 67 = .ok (.iload 6, 2) := by decide +kernel
theorem dX10_bestLead_69 : decode cX10_bestLead 69 = .ok (.invokestatic 68, 3) := by decide +kernel
theorem dX10_bestLead_72 : decode cX10_bestLead 72 = .ok (.goto 10, 3) := by decide +kernel
theorem dX10_bestLead_75 : decode cX10_bestLead 75 = .ok (.iload 4, 2) := by decide +kernel
theorem dX10_bestLead_77 : decode cX10_bestLead 77 = .ok (.iload 6, 2) := by decide +kernel
theorem dX10_bestLead_79 : decode cX10_bestLead 79 = .ok (.invokestatic 53, 3) := by decide +kernel
theorem dX10_bestLead_82 : decode cX10_bestLead 82 = .ok (.istore 4, 2) := by decide +kernel
theorem dX10_bestLead_84 : decode cX10_bestLead 84 = .ok (.iinc 5 1, 3) := by decide +kernel
theorem dX10_bestLead_87 : decode cX10_bestLead 87 = .ok (.goto (-59), 3) := by decide +kernel
theorem dX10_bestLead_90 : decode cX10_bestLead 90 = .ok (.iload 4, 2) := by decide +kernel
theorem dX10_bestLead_92 : decode cX10_bestLead 92 = .ok (.ireturn, 1) := by decide +kernel
theorem dX10_leadIfMoved_0 : decode cX10_leadIfMoved 0 = .ok (.iload 4, 2) := by decide +kernel
theorem dX10_leadIfMoved_2 : decode cX10_leadIfMoved 2 = .ok (.aload_n 0, 1) := by decide +kernel
theorem dX10_leadIfMoved_3 : decode cX10_leadIfMoved 3 = .ok (.getfield 9, 3) := by decide +kernel
theorem dX10_leadIfMoved_6 : decode cX10_leadIfMoved 6 = .ok (.iload_n 1, 1) := by decide +kernel
theorem dX10_leadIfMoved_7 : decode cX10_leadIfMoved 7 = .ok (.iaload, 1) := by decide +kernel
theorem dX10_leadIfMoved_8 : decode cX10_leadIfMoved 8 = .ok (.ifCond .ne 8, 3) := by decide +kernel
theorem dX10_leadIfMoved_11 : decode cX10_leadIfMoved 11 = .ok (.bipush (-2), 2) := by decide +kernel
theorem dX10_leadIfMoved_13 : decode cX10_leadIfMoved 13 = .ok (.goto 4, 3) := by decide +kernel
theorem dX10_leadIfMoved_16 : decode cX10_leadIfMoved 16 = .ok (.iconst 2, 1) := by decide +kernel
theorem dX10_leadIfMoved_17 : decode cX10_leadIfMoved 17 = .ok (.iadd, 1) := by decide +kernel
theorem dX10_leadIfMoved_18 : decode cX10_leadIfMoved 18 = .ok (.istore 5, 2) := by decide +kernel
theorem dX10_leadIfMoved_20 : decode cX10_leadIfMoved 20 = .ok (.aload_n 0, 1) := by decide +kernel
theorem dX10_leadIfMoved_21 : decode cX10_leadIfMoved 21 = .ok (.getfield 9, 3) := by decide +kernel
theorem dX10_leadIfMoved_24 : decode cX10_leadIfMoved 24 = .ok (.iload_n 1, 1) := by decide +kernel
theorem dX10_leadIfMoved_25 : decode cX10_leadIfMoved 25 = .ok (.iconst 1, 1) := by decide +kernel
theorem dX10_leadIfMoved_26 : decode cX10_leadIfMoved 26 = .ok (.aload_n 0, 1) := by decide +kernel
theorem dX10_leadIfMoved_27 : decode cX10_leadIfMoved 27 = .ok (.getfield 9, 3) := by decide +kernel
theorem dX10_leadIfMoved_30 : decode cX10_leadIfMoved 30 = .ok (.iload_n 1, 1) := by decide +kernel
theorem dX10_leadIfMoved_31 : decode cX10_leadIfMoved 31 = .ok (.iaload, 1) := by decide +kernel
theorem dX10_leadIfMoved_32 : decode cX10_leadIfMoved 32 = .ok (.isub, 1) := by decide +kernel
theorem dX10_leadIfMoved_33 : decode cX10_leadIfMoved 33 = .ok (.iastore, 1) := by decide +kernel
theorem dX10_leadIfMoved_34 : decode cX10_leadIfMoved 34 = .ok (.aload_n 0, 1) := by decide +kernel
theorem dX10_leadIfMoved_35 : decode cX10_leadIfMoved 35 = .ok (.iload_n 2, 1) := by decide +kernel
theorem dX10_leadIfMoved_36 : decode cX10_leadIfMoved 36 = .ok (.iload_n 3, 1) := by decide +kernel
theorem dX10_leadIfMoved_37 : decode cX10_leadIfMoved 37 = .ok (.iload 5, 2) := by decide +kernel
theorem dX10_leadIfMoved_39 : decode cX10_leadIfMoved 39 = .ok (.invokevirtual 71, 3) := by decide +kernel
theorem dX10_leadIfMoved_42 : decode cX10_leadIfMoved 42 = .ok (.istore 6, 2) := by decide +kernel
theorem dX10_leadIfMoved_44 : decode cX10_leadIfMoved 44 = .ok (.aload_n 0, 1) := by decide +kernel
theorem dX10_leadIfMoved_45 : decode cX10_leadIfMoved 45 = .ok (.getfield 9, 3) := by decide +kernel
theorem dX10_leadIfMoved_48 : decode cX10_leadIfMoved 48 = .ok (.iload_n 1, 1) := by decide +kernel
theorem dX10_leadIfMoved_49 : decode cX10_leadIfMoved 49 = .ok (.iconst 1, 1) := by decide +kernel
theorem dX10_leadIfMoved_50 : decode cX10_leadIfMoved 50 = .ok (.aload_n 0, 1) := by decide +kernel
theorem dX10_leadIfMoved_51 : decode cX10_leadIfMoved 51 = .ok (.getfield 9, 3) := by decide +kernel
theorem dX10_leadIfMoved_54 : decode cX10_leadIfMoved 54 = .ok (.iload_n 1, 1) := by decide +kernel
theorem dX10_leadIfMoved_55 : decode cX10_leadIfMoved 55 = .ok (.iaload, 1) := by decide +kernel
theorem dX10_leadIfMoved_56 : decode cX10_leadIfMoved 56 = .ok (.isub, 1) := by decide +kernel
theorem dX10_leadIfMoved_57 : decode cX10_leadIfMoved 57 = .ok (.iastore, 1) := by decide +kernel
theorem dX10_leadIfMoved_58 : decode cX10_leadIfMoved 58 = .ok (.iload 6, 2) := by decide +kernel
theorem dX10_leadIfMoved_60 : decode cX10_leadIfMoved 60 = .ok (.ireturn, 1) := by decide +kernel
theorem dX11_init_0 : decode cX11_init 0 = .ok (.aload_n 0, 1) := by decide +kernel
theorem dX11_init_1 : decode cX11_init 1 = .ok (.invokespecial 1, 3) := by decide +kernel
theorem dX11_init_4 : decode cX11_init 4 = .ok (.new 7, 3) := by decide +kernel
theorem dX11_init_7 : decode cX11_init 7 = .ok (.dup, 1) := by decide +kernel
theorem dX11_init_8 : decode cX11_init 8 = .ok (.invokespecial 9, 3) := by decide +kernel
theorem dX11_init_11 : decode cX11_init 11 = .ok (.astore_n 1, 1) := by decide +kernel
theorem dX11_init_12 : decode cX11_init 12 = .ok (.new 10, 3) := by decide +kernel
theorem dX11_init_15 : decode cX11_init 15 = .ok (.dup, 1) := by decide +kernel
theorem dX11_init_16 : decode cX11_init 16 = .ok (.aload_n 1, 1) := by decide +kernel
theorem dX11_init_17 : decode cX11_init 17 = .ok (.invokespecial 12, 3) := by decide +kernel
theorem dX11_init_20 : decode cX11_init 20 = .ok (.astore_n 2, 1) := by decide +kernel
theorem dX11_init_21 : decode cX11_init 21 = .ok (.new 15, 3) := by decide +kernel
theorem dX11_init_24 : decode cX11_init 24 = .ok (.dup, 1) := by decide +kernel
theorem dX11_init_25 : decode cX11_init 25 = .ok (.aload_n 1, 1) := by decide +kernel
theorem dX11_init_26 : decode cX11_init 26 = .ok (.aload_n 2, 1) := by decide +kernel
theorem dX11_init_27 : decode cX11_init 27 = .ok (.invokespecial 17, 3) := by decide +kernel
theorem dX11_init_30 : decode cX11_init 30 = .ok (.astore_n 3, 1) := by decide +kernel
theorem dX11_init_31 : decode cX11_init 31 = .ok (.new 20, 3) := by decide +kernel
theorem dX11_init_34 : decode cX11_init 34 = .ok (.dup, 1) := by decide +kernel
theorem dX11_init_35 : decode cX11_init 35 = .ok (.invokespecial 22, 3) := by decide +kernel
theorem dX11_init_38 : decode cX11_init 38 = .ok (.astore 4, 2) := by decide +kernel
theorem dX11_init_40 : decode cX11_init 40 = .ok (.new 23, 3) := by decide +kernel
theorem dX11_init_43 : decode cX11_init 43 = .ok (.dup, 1) := by decide +kernel
theorem dX11_init_44 : decode cX11_init 44 = .ok (.invokespecial 25, 3) := by decide +kernel
theorem dX11_init_47 : decode cX11_init 47 = .ok (.astore 5, 2) := by decide +kernel
theorem dX11_init_49 : decode cX11_init 49 = .ok (.aload_n 0, 1) := by decide +kernel
theorem dX11_init_50 : decode cX11_init 50 = .ok (.aload_n 1, 1) := by decide +kernel
theorem dX11_init_51 : decode cX11_init 51 = .ok (.putfield 26, 3) := by decide +kernel
theorem dX11_init_54 : decode cX11_init 54 = .ok (.aload_n 0, 1) := by decide +kernel
theorem dX11_init_55 : decode cX11_init 55 = .ok (.aload_n 2, 1) := by decide +kernel
theorem dX11_init_56 : decode cX11_init 56 = .ok (.putfield 32, 3) := by decide +kernel
theorem dX11_init_59 : decode cX11_init 59 = .ok (.aload_n 0, 1) := by decide +kernel
theorem dX11_init_60 : decode cX11_init 60 = .ok (.new 10, 3) := by decide +kernel
theorem dX11_init_63 : decode cX11_init 63 = .ok (.dup, 1) := by decide +kernel
theorem dX11_init_64 : decode cX11_init 64 = .ok (.aload_n 1, 1) := by decide +kernel
theorem dX11_init_65 : decode cX11_init 65 = .ok (.invokespecial 12, 3) := by decide +kernel
theorem dX11_init_68 : decode cX11_init 68 = .ok (.putfield 36, 3) := by decide +kernel
theorem dX11_init_71 : decode cX11_init 71 = .ok (.aload_n 0, 1) := by decide +kernel
theorem dX11_init_72 : decode cX11_init 72 = .ok (.aload_n 3, 1) := by decide +kernel
theorem dX11_init_73 : decode cX11_init 73 = .ok (.putfield 39, 3) := by decide +kernel
theorem dX11_init_76 : decode cX11_init 76 = .ok (.aload_n 0, 1) := by decide +kernel
theorem dX11_init_77 : decode cX11_init 77 = .ok (.new 43, 3) := by decide +kernel
theorem dX11_init_80 : decode cX11_init 80 = .ok (.dup, 1) := by decide +kernel
theorem dX11_init_81 : decode cX11_init 81 = .ok (.aload_n 3, 1) := by decide +kernel
theorem dX11_init_82 : decode cX11_init 82 = .ok (.invokespecial 45, 3) := by decide +kernel
theorem dX11_init_85 : decode cX11_init 85 = .ok (.putfield 48, 3) := by decide +kernel
theorem dX11_init_88 : decode cX11_init 88 = .ok (.aload_n 0, 1) := by decide +kernel
theorem dX11_init_89 : decode cX11_init 89 = .ok (.new 52, 3) := by decide +kernel
theorem dX11_init_92 : decode cX11_init 92 = .ok (.dup, 1) := by decide +kernel
theorem dX11_init_93 : decode cX11_init 93 = .ok (.invokespecial 54, 3) := by decide +kernel
theorem dX11_init_96 : decode cX11_init 96 = .ok (.putfield 55, 3) := by decide +kernel
theorem dX11_init_99 : decode cX11_init 99 = .ok (.aload_n 0, 1) := by decide +kernel
theorem dX11_init_100 : decode cX11_init 100 = .ok (.aload 4, 2) := by decide +kernel
theorem dX11_init_102 : decode cX11_init 102 = .ok (.putfield 59, 3) := by decide +kernel
theorem dX11_init_105 : decode cX11_init 105 = .ok (.aload_n 0, 1) := by decide +kernel
theorem dX11_init_106 : decode cX11_init 106 = .ok (.new 63, 3) := by decide +kernel
theorem dX11_init_109 : decode cX11_init 109 = .ok (.dup, 1) := by decide +kernel
theorem dX11_init_110 : decode cX11_init 110 = .ok (.aload_n 1, 1) := by decide +kernel
theorem dX11_init_111 : decode cX11_init 111 = .ok (.aload_n 2, 1) := by decide +kernel
theorem dX11_init_112 : decode cX11_init 112 = .ok (.aload 4, 2) := by decide +kernel
theorem dX11_init_114 : decode cX11_init 114 = .ok (.invokespecial 65, 3) := by decide +kernel
theorem dX11_init_117 : decode cX11_init 117 = .ok (.putfield 68, 3) := by decide +kernel
theorem dX11_init_120 : decode cX11_init 120 = .ok (.aload_n 0, 1) := by decide +kernel
theorem dX11_init_121 : decode cX11_init 121 = .ok (.new 72, 3) := by decide +kernel
theorem dX11_init_124 : decode cX11_init 124 = .ok (.dup, 1) := by decide +kernel
theorem dX11_init_125 : decode cX11_init 125 = .ok (.aload_n 1, 1) := by decide +kernel
theorem dX11_init_126 : decode cX11_init 126 = .ok (.aload_n 2, 1) := by decide +kernel
theorem dX11_init_127 : decode cX11_init 127 = .ok (.aload 5, 2) := by decide +kernel
theorem dX11_init_129 : decode cX11_init 129 = .ok (.invokespecial 74, 3) := by decide +kernel
theorem dX11_init_132 : decode cX11_init 132 = .ok (.putfield 77, 3) := by decide +kernel
theorem dX11_init_135 : decode cX11_init 135 = .ok (.aload_n 0, 1) := by decide +kernel
theorem dX11_init_136 : decode cX11_init 136 = .ok (.new 81, 3) := by decide +kernel
theorem dX11_init_139 : decode cX11_init 139 = .ok (.dup, 1) := by decide +kernel
theorem dX11_init_140 : decode cX11_init 140 = .ok (.aload_n 1, 1) := by decide +kernel
theorem dX11_init_141 : decode cX11_init 141 = .ok (.aload_n 2, 1) := by decide +kernel
theorem dX11_init_142 : decode cX11_init 142 = .ok (.invokespecial 83, 3) := by decide +kernel
theorem dX11_init_145 : decode cX11_init 145 = .ok (.putfield 84, 3) := by decide +kernel
theorem dX11_init_148 : decode cX11_init 148 = .ok (.aload_n 0, 1) := by decide +kernel
theorem dX11_init_149 : decode cX11_init 149 = .ok (.new 88, 3) := by decide +kernel
theorem dX11_init_152 : decode cX11_init 152 = .ok (.dup, 1) := by decide +kernel
theorem dX11_init_153 : decode cX11_init 153 = .ok (.invokespecial 90, 3) := by decide +kernel
theorem dX11_init_156 : decode cX11_init 156 = .ok (.putfield 91, 3) := by decide +kernel
theorem dX11_init_159 : decode cX11_init 159 = .ok (.aload_n 0, 1) := by decide +kernel
theorem dX11_init_160 : decode cX11_init 160 = .ok (.aload 5, 2) := by decide +kernel
theorem dX11_init_162 : decode cX11_init 162 = .ok (.putfield 95, 3) := by decide +kernel
theorem dX11_init_165 : decode cX11_init 165 = .ok (.return_, 1) := by decide +kernel
theorem dX11_person_0 : decode cX11_person 0 = .ok (.iload_n 1, 1) := by decide +kernel
theorem dX11_person_1 : decode cX11_person 1 = .ok (.iconst 0, 1) := by decide +kernel
theorem dX11_person_2 : decode cX11_person 2 = .ok (.bipush 11, 2) := by decide +kernel
theorem dX11_person_4 : decode cX11_person 4 = .ok (.invokestatic 99, 3) := by decide +kernel
theorem dX11_person_7 : decode cX11_person 7 = .ok (.ifCond .ne 5, 3) := by decide +kernel
theorem dX11_person_10 : decode cX11_person 10 = .ok (.iconst (-1), 1) := by decide +kernel
theorem dX11_person_11 : decode cX11_person 11 = .ok (.ireturn, 1) := by decide +kernel
theorem dX11_person_12 : decode cX11_person 12 = .ok (.aload_n 0, 1) := by decide +kernel
theorem dX11_person_13 : decode cX11_person 13 = .ok (.getfield 26, 3) := by decide +kernel
theorem dX11_person_16 : decode cX11_person 16 = .ok (.getfield 103, 3) := by decide +kernel
theorem dX11_person_19 : decode cX11_person 19 = .ok (.bipush 7, 2) := by decide +kernel
theorem dX11_person_21 : decode cX11_person 21 = .ok (.if_icmp .lt 6, 3) := by decide +kernel
theorem dX11_person_24 : decode cX11_person 24 = .ok (.bipush (-3), 2) := by decide +kernel
theorem dX11_person_26 : decode cX11_person 26 = .ok (.ireturn, 1) := by decide +kernel
theorem dX11_person_27 : decode cX11_person 27 = .ok (.aload_n 0, 1) := by decide +kernel
theorem dX11_person_28 : decode cX11_person 28 = .ok (.getfield 32, 3) := by decide +kernel
theorem dX11_person_31 : decode cX11_person 31 = .ok (.getfield 107, 3) := by decide +kernel
theorem dX11_person_34 : decode cX11_person 34 = .ok (.aload_n 0, 1) := by decide +kernel
theorem dX11_person_35 : decode cX11_person 35 = .ok (.getfield 26, 3) := by decide +kernel
theorem dX11_person_38 : decode cX11_person 38 = .ok (.getfield 103, 3) := by decide +kernel
theorem dX11_person_41 : decode cX11_person 41 = .ok (.iload_n 1, 1) := by decide +kernel
theorem dX11_person_42 : decode cX11_person 42 = .ok (.iastore, 1) := by decide +kernel
theorem dX11_person_43 : decode cX11_person 43 = .ok (.aload_n 0, 1) := by decide +kernel
theorem dX11_person_44 : decode cX11_person 44 = .ok (.getfield 26, 3) := by decide +kernel
theorem dX11_person_47 : decode cX11_person 47 = .ok (.dup, 1) := by decide +kernel
theorem dX11_person_48 : decode cX11_person 48 = .ok (.getfield 103, 3) := by decide +kernel
theorem dX11_person_51 : decode cX11_person 51 = .ok (.dup_x1, 1) := by decide +kernel
theorem dX11_person_52 : decode cX11_person 52 = .ok (.iconst 1, 1) := by decide +kernel
theorem dX11_person_53 : decode cX11_person 53 = .ok (.iadd, 1) := by decide +kernel
theorem dX11_person_54 : decode cX11_person 54 = .ok (.putfield 103, 3) := by decide +kernel
theorem dX11_person_57 : decode cX11_person 57 = .ok (.ireturn, 1) := by decide +kernel
theorem dX11_joy_0 : decode cX11_joy 0 = .ok (.aload_n 0, 1) := by decide +kernel
theorem dX11_joy_1 : decode cX11_joy 1 = .ok (.getfield 26, 3) := by decide +kernel
theorem dX11_joy_4 : decode cX11_joy 4 = .ok (.iload_n 1, 1) := by decide +kernel
theorem dX11_joy_5 : decode cX11_joy 5 = .ok (.invokevirtual 111, 3) := by decide +kernel
theorem dX11_joy_8 : decode cX11_joy 8 = .ok (.ifCond .eq 13, 3) := by decide +kernel
theorem dX11_joy_11 : decode cX11_joy 11 = .ok (.iload_n 2, 1) := by decide +kernel
theorem dX11_joy_12 : decode cX11_joy 12 = .ok (.iconst 0, 1) := by decide +kernel
theorem dX11_joy_13 : decode cX11_joy 13 = .ok (.bipush 99, 2) := by decide +kernel
theorem dX11_joy_15 : decode cX11_joy 15 = .ok (.invokestatic 99, 3) := by decide +kernel
theorem dX11_joy_18 : decode cX11_joy 18 = .ok (.ifCond .ne 5, 3) := by decide +kernel
theorem dX11_joy_21 : decode cX11_joy 21 = .ok (.iconst (-1), 1) := by decide +kernel
theorem dX11_joy_22 : decode cX11_joy 22 = .ok (.ireturn, 1) := by decide +kernel
theorem dX11_joy_23 : decode cX11_joy 23 = .ok (.aload_n 0, 1) := by decide +kernel
theorem dX11_joy_24 : decode cX11_joy 24 = .ok (.getfield 26, 3) := by decide +kernel
theorem dX11_joy_27 : decode cX11_joy 27 = .ok (.getfield 115, 3) := by decide +kernel
theorem dX11_joy_30 : decode cX11_joy 30 = .ok (.bipush 10, 2) := by decide +kernel
theorem dX11_joy_32 : decode cX11_joy 32 = .ok (.if_icmp .lt 6, 3) := by decide +kernel
theorem dX11_joy_35 : decode cX11_joy 35 = .ok (.bipush (-3), 2) := by decide +kernel
theorem dX11_joy_37 : decode cX11_joy 37 = .ok (.ireturn, 1) := by decide +kernel
theorem dX11_joy_38 : decode cX11_joy 38 = .ok (.aload_n 0, 1) := by decide +kernel
theorem dX11_joy_39 : decode cX11_joy 39 = .ok (.getfield 26, 3) := by decide +kernel
theorem dX11_joy_42 : decode cX11_joy 42 = .ok (.iload_n 1, 1) := by decide +kernel
theorem dX11_joy_43 : decode cX11_joy 43 = .ok (.iload_n 2, 1) := by decide +kernel
theorem dX11_joy_44 : decode cX11_joy 44 = .ok (.invokevirtual 118, 3) := by decide +kernel
theorem dX11_joy_47 : decode cX11_joy 47 = .ok (.ireturn, 1) := by decide +kernel
theorem dX11_joys_0 : decode cX11_joys 0 = .ok (.iload_n 3, 1) := by decide +kernel
theorem dX11_joys_1 : decode cX11_joys 1 = .ok (.iconst 1, 1) := by decide +kernel
theorem dX11_joys_2 : decode cX11_joys 2 = .ok (.bipush 10, 2) := by decide +kernel
theorem dX11_joys_4 : decode cX11_joys 4 = .ok (.invokestatic 99, 3) := by decide +kernel
theorem dX11_joys_7 : decode cX11_joys 7 = .ok (.ifCond .ne 5, 3) := by decide +kernel
theorem dX11_joys_10 : decode cX11_joys 10 = .ok (.iconst (-1), 1) := by decide +kernel
theorem dX11_joys_11 : decode cX11_joys 11 = .ok (.ireturn, 1) := by decide +kernel
theorem dX11_joys_12 : decode cX11_joys 12 = .ok (.aload_n 0, 1) := by decide +kernel
theorem dX11_joys_13 : decode cX11_joys 13 = .ok (.getfield 95, 3) := by decide +kernel
theorem dX11_joys_16 : decode cX11_joys 16 = .ok (.iload_n 1, 1) := by decide +kernel
theorem dX11_joys_17 : decode cX11_joys 17 = .ok (.invokevirtual 122, 3) := by decide +kernel
theorem dX11_joys_20 : decode cX11_joys 20 = .ok (.istore 4, 2) := by decide +kernel
theorem dX11_joys_22 : decode cX11_joys 22 = .ok (.iload 4, 2) := by decide +kernel
theorem dX11_joys_24 : decode cX11_joys 24 = .ok (.bipush (-11), 2) := by decide +kernel
theorem dX11_joys_26 : decode cX11_joys 26 = .ok (.if_icmp .ne 5, 3) := by decide +kernel
theorem dX11_joys_29 : decode cX11_joys 29 = .ok (.iconst 0, 1) := by decide +kernel
theorem dX11_joys_30 : decode cX11_joys 30 = .ok (.ireturn, 1) := by decide +kernel
theorem dX11_joys_31 : decode cX11_joys 31 = .ok (.iload 4, 2) := by decide +kernel
theorem dX11_joys_33 : decode cX11_joys 33 = .ok (.ifCond .eq 6, 3) := by decide +kernel
theorem dX11_joys_36 : decode cX11_joys 36 = .ok (.iload 4, 2) := by decide +kernel
theorem dX11_joys_38 : decode cX11_joys 38 = .ok (.ireturn, 1) := by decide +kernel
theorem dX11_joys_39 : decode cX11_joys 39 = .ok (.iconst 0, 1) := by decide +kernel
theorem dX11_joys_40 : decode cX11_joys 40 = .ok (.istore 5, 2) := by decide +kernel
theorem dX11_joys_42 : decode cX11_joys 42 = .ok (.iconst 0, 1) := by decide +kernel
theorem dX11_joys_43 : decode cX11_joys 43 = .ok (.istore 6, 2) := by decide +kernel
theorem dX11_joys_45 : decode cX11_joys 45 = .ok (.iload 6, 2) := by decide +kernel
theorem dX11_joys_47 : decode cX11_joys 47 = .ok (.iload_n 3, 1) := by decide +kernel
theorem dX11_joys_48 : decode cX11_joys 48 = .ok (.if_icmp .ge 26, 3) := by decide +kernel
theorem dX11_joys_51 : decode cX11_joys 51 = .ok (.aload_n 0, 1) := by decide +kernel
theorem dX11_joys_52 : decode cX11_joys 52 = .ok (.iload_n 1, 1) := by decide +kernel
theorem dX11_joys_53 : decode cX11_joys 53 = .ok (.iload_n 2, 1) := by decide +kernel
theorem dX11_joys_54 : decode cX11_joys 54 = .ok (.iconst 3, 1) := by decide +kernel
theorem dX11_joys_55 : decode cX11_joys 55 = .ok (.iload 6, 2) := by decide +kernel
theorem dX11_joys_57 : decode cX11_joys 57 = .ok (.imul, 1) := by decide +kernel
theorem dX11_joys_58 : decode cX11_joys 58 = .ok (.iadd, 1) := by decide +kernel
theorem dX11_joys_59 : decode cX11_joys 59 = .ok (.invokevirtual 126, 3) := by decide +kernel
theorem dX11_joys_62 : decode cX11_joys 62 = .ok (.ifCond .eq 12, 3) := by decide +kernel
theorem dX11_joys_65 : decode cX11_joys 65 = .ok (.iinc 5 1, 3) := by decide +kernel
theorem dX11_joys_68 : decode cX11_joys 68 = .ok (.iinc 6 1, 3) := by decide +kernel
theorem dX11_joys_71 : decode cX11_joys 71 = .ok (.goto (-26), 3) := by decide +kernel
theorem dX11_joys_74 : decode cX11_joys 74 = .ok (.iload 5, 2) := by decide +kernel
theorem dX11_joys_76 : decode cX11_joys 76 = .ok (.ireturn, 1) := by decide +kernel
theorem dX11_joyFromRow_0 : decode cX11_joyFromRow 0 = .ok (.iload_n 2, 1) := by decide +kernel
theorem dX11_joyFromRow_1 : decode cX11_joyFromRow 1 = .ok (.ifCond .lt 17, 3) := by decide +kernel
theorem dX11_joyFromRow_4 : decode cX11_joyFromRow 4 = .ok (.iload_n 2, 1) := by decide +kernel
theorem dX11_joyFromRow_5 : decode cX11_joyFromRow 5 = .ok (.aload_n 0, 1) := by decide +kernel
theorem dX11_joyFromRow_6 : decode cX11_joyFromRow 6 = .ok (.getfield 95, 3) := by decide +kernel
theorem dX11_joyFromRow_9 : decode cX11_joyFromRow 9 = .ok (.iload_n 1, 1) := by decide +kernel
theorem dX11_joyFromRow_10 : decode cX11_joyFromRow 10 = .ok (.invokevirtual 130, 3) := by decide +kernel
theorem dX11_joyFromRow_13 : decode cX11_joyFromRow 13 = .ok (.iconst 3, 1) := by decide +kernel
theorem dX11_joyFromRow_14 : decode cX11_joyFromRow 14 = .ok (.isub, 1) := by decide +kernel
theorem dX11_joyFromRow_15 : decode cX11_joyFromRow 15 = .ok (.if_icmp .le 5, 3) := by decide +kernel
theorem dX11_joyFromRow_18 : decode cX11_joyFromRow 18 = .ok (.iconst 0, 1) := by decide +kernel
theorem dX11_joyFromRow_19 : decode cX11_joyFromRow 19 = .ok (.ireturn, 1) := by decide +kernel
theorem dX11_joyFromRow_20 : decode cX11_joyFromRow 20 = .ok (.aload_n 0, 1) := by decide +kernel
theorem dX11_joyFromRow_21 : decode cX11_joyFromRow 21 = .ok (.getfield 95, 3) := by decide +kernel
theorem dX11_joyFromRow_24 : decode cX11_joyFromRow 24 = .ok (.iload_n 1, 1) := by decide +kernel
theorem dX11_joyFromRow_25 : decode cX11_joyFromRow 25 = .ok (.iload_n 2, 1) := by decide +kernel
theorem dX11_joyFromRow_26 : decode cX11_joyFromRow 26 = .ok (.invokevirtual 133, 3) := by decide +kernel
theorem dX11_joyFromRow_29 : decode cX11_joyFromRow 29 = .ok (.l2i, 1) := by decide +kernel
theorem dX11_joyFromRow_30 : decode cX11_joyFromRow 30 = .ok (.istore_n 3, 1) := by decide +kernel
theorem dX11_joyFromRow_31 : decode cX11_joyFromRow 31 = .ok (.aload_n 0, 1) := by decide +kernel
theorem dX11_joyFromRow_32 : decode cX11_joyFromRow 32 = .ok (.getfield 95, 3) := by decide +kernel
theorem dX11_joyFromRow_35 : decode cX11_joyFromRow 35 = .ok (.iload_n 1, 1) := by decide +kernel
theorem dX11_joyFromRow_36 : decode cX11_joyFromRow 36 = .ok (.iload_n 2, 1) := by decide +kernel
theorem dX11_joyFromRow_37 : decode cX11_joyFromRow 37 = .ok (.iconst 1, 1) := by decide +kernel
theorem dX11_joyFromRow_38 : decode cX11_joyFromRow 38 = .ok (.iadd, 1) := by decide +kernel
theorem dX11_joyFromRow_39 : decode cX11_joyFromRow 39 = .ok (.invokevirtual 133, 3) := by decide +kernel
theorem dX11_joyFromRow_42 : decode cX11_joyFromRow 42 = .ok (.l2i, 1) := by decide +kernel
theorem dX11_joyFromRow_43 : decode cX11_joyFromRow 43 = .ok (.istore 4, 2) := by decide +kernel
theorem dX11_joyFromRow_45 : decode cX11_joyFromRow 45 = .ok (.aload_n 0, 1) := by decide +kernel
theorem dX11_joyFromRow_46 : decode cX11_joyFromRow 46 = .ok (.getfield 95, 3) := by decide +kernel
theorem dX11_joyFromRow_49 : decode cX11_joyFromRow 49 = .ok (.iload_n 1, 1) := by decide +kernel
theorem dX11_joyFromRow_50 : decode cX11_joyFromRow 50 = .ok (.iload_n 2, 1) := by decide +kernel
theorem dX11_joyFromRow_51 : decode cX11_joyFromRow 51 = .ok (.iconst 2, 1) := by decide +kernel
theorem dX11_joyFromRow_52 : decode cX11_joyFromRow 52 = .ok (.iadd, 1) := by decide +kernel
theorem dX11_joyFromRow_53 : decode cX11_joyFromRow 53 = .ok (.invokevirtual 133, 3) := by decide +kernel
theorem dX11_joyFromRow_56 : decode cX11_joyFromRow 56 = .ok (.l2i, 1) := by decide +kernel
theorem dX11_joyFromRow_57 : decode cX11_joyFromRow 57 = .ok (.istore 5, 2) := by decide +kernel
theorem dX11_joyFromRow_59 : decode cX11_joyFromRow 59 = .ok (.iconst 4, 1) := by decide +kernel
theorem dX11_joyFromRow_60 : decode cX11_joyFromRow 60 = .ok (.iload 5, 2) := by decide +kernel
theorem dX11_joyFromRow_62 : decode cX11_joyFromRow 62 = .ok (.invokestatic 137, 3) := by decide +kernel
theorem dX11_joyFromRow_65 : decode cX11_joyFromRow 65 = .ok (.ifCond .ne 5, 3) := by decide +kernel
theorem dX11_joyFromRow_68 : decode cX11_joyFromRow 68 = .ok (.iconst 0, 1) := by decide +kernel
theorem dX11_joyFromRow_69 : decode cX11_joyFromRow 69 = .ok (.ireturn, 1) := by decide +kernel
theorem dX11_joyFromRow_70 : decode cX11_joyFromRow 70 = .ok (.aload_n 0, 1) := by decide +kernel
theorem dX11_joyFromRow_71 : decode cX11_joyFromRow 71 = .ok (.iload_n 3, 1) := by decide +kernel
theorem dX11_joyFromRow_72 : decode cX11_joyFromRow 72 = .ok (.iload 4, 2) := by decide +kernel
theorem dX11_joyFromRow_74 : decode cX11_joyFromRow 74 = .ok (.invokevirtual 140, 3) := by decide +kernel
theorem dX11_joyFromRow_77 : decode cX11_joyFromRow 77 = .ok (.istore 6, 2) := by decide +kernel
theorem dX11_joyFromRow_79 : decode cX11_joyFromRow 79 = .ok (.aload_n 0, 1) := by decide +kernel
theorem dX11_joyFromRow_80 : decode cX11_joyFromRow 80 = .ok (.getfield 26, 3) := by decide +kernel
theorem dX11_joyFromRow_83 : decode cX11_joyFromRow 83 = .ok (.iload 6, 2) := by decide +kernel
theorem dX11_joyFromRow_85 : decode cX11_joyFromRow 85 = .ok (.invokevirtual 143, 3) := by decide +kernel
theorem dX11_joyFromRow_88 : decode cX11_joyFromRow 88 = .ok (.ifCond .ne 5, 3) := by decide +kernel
theorem dX11_joyFromRow_91 : decode cX11_joyFromRow 91 = .ok (.iconst 0, 1) := by decide +kernel
theorem dX11_joyFromRow_92 : decode cX11_joyFromRow 92 = .ok (.ireturn, 1) := by decide +kernel
theorem dX11_joyFromRow_93 : decode cX11_joyFromRow 93 = .ok (.aload_n 0, 1) := by decide +kernel
theorem dX11_joyFromRow_94 : decode cX11_joyFromRow 94 = .ok (.getfield 26, 3) := by decide +kernel
theorem dX11_joyFromRow_97 : decode cX11_joyFromRow 97 = .ok (.getfield 146, 3) := by decide +kernel
theorem dX11_joyFromRow_100 : decode cX11_joyFromRow 100 = .ok (.iload 6, 2) := by decide +kernel
theorem dX11_joyFromRow_102 : decode cX11_joyFromRow 102 = .ok (.iload 5, 2) := by decide +kernel
theorem dX11_joyFromRow_104 : decode cX11_joyFromRow 104 = .ok (.iastore, 1) := by decide +kernel
theorem dX11_joyFromRow_105 : decode cX11_joyFromRow 105 = .ok (.iconst 1, 1) := by decide +kernel
theorem dX11_joyFromRow_106 : decode cX11_joyFromRow 106 = .ok (.ireturn, 1) := by decide +kernel
theorem dX11_mend_0 : decode cX11_mend 0 = .ok (.aload_n 0, 1) := by decide +kernel
theorem dX11_mend_1 : decode cX11_mend 1 = .ok (.getfield 39, 3) := by decide +kernel
theorem dX11_mend_4 : decode cX11_mend 4 = .ok (.iload_n 1, 1) := by decide +kernel
theorem dX11_mend_5 : decode cX11_mend 5 = .ok (.iload_n 2, 1) := by decide +kernel
theorem dX11_mend_6 : decode cX11_mend 6 = .ok (.invokevirtual 149, 3) := by decide +kernel
theorem dX11_mend_9 : decode cX11_mend 9 = .ok (.ifCond .eq 11, 3) := by decide +kernel
theorem dX11_mend_12 : decode cX11_mend 12 = .ok (.iload_n 2, 1) := by decide +kernel
theorem dX11_mend_13 : decode cX11_mend 13 = .ok (.iload_n 3, 1) := by decide +kernel
theorem dX11_mend_14 : decode cX11_mend 14 = .ok (.invokestatic 137, 3) := by decide +kernel
theorem dX11_mend_17 : decode cX11_mend 17 = .ok (.ifCond .ne 5, 3) := by decide +kernel
theorem dX11_mend_20 : decode cX11_mend 20 = .ok (.iconst (-1), 1) := by decide +kernel
theorem dX11_mend_21 : decode cX11_mend 21 = .ok (.ireturn, 1) := by decide +kernel
theorem dX11_mend_22 : decode cX11_mend 22 = .ok (.aload_n 0, 1) := by decide +kernel
theorem dX11_mend_23 : decode cX11_mend 23 = .ok (.getfield 39, 3) := by decide +kernel
theorem dX11_mend_26 : decode cX11_mend 26 = .ok (.iload_n 1, 1) := by decide +kernel
theorem dX11_mend_27 : decode cX11_mend 27 = .ok (.iload_n 2, 1) := by decide +kernel
theorem dX11_mend_28 : decode cX11_mend 28 = .ok (.invokevirtual 152, 3) := by decide +kernel
theorem dX11_mend_31 : decode cX11_mend 31 = .ok (.istore 4, 2) := by decide +kernel
theorem dX11_mend_33 : decode cX11_mend 33 = .ok (.iload 4, 2) := by decide +kernel
theorem dX11_mend_35 : decode cX11_mend 35 = .ok (.iload_n 3, 1) := by decide +kernel
theorem dX11_mend_36 : decode cX11_mend 36 = .ok (.if_icmp .eq 25, 3) := by decide +kernel
theorem dX11_mend_39 : decode cX11_mend 39 = .ok (.aload_n 0, 1) := by decide +kernel
theorem dX11_mend_40 : decode cX11_mend 40 = .ok (.getfield 48, 3) := by decide +kernel
theorem dX11_mend_43 : decode cX11_mend 43 = .ok (.iload_n 1, 1) := by decide +kernel
theorem dX11_mend_44 : decode cX11_mend 44 = .ok (.iload_n 2, 1) := by decide +kernel
theorem dX11_mend_45 : decode cX11_mend 45 = .ok (.iload 4, 2) := by decide +kernel
theorem dX11_mend_47 : decode cX11_mend 47 = .ok (.iload_n 3, 1) := by decide +kernel
theorem dX11_mend_48 : decode cX11_mend 48 = .ok (.invokevirtual 155, 3) := by decide +kernel
theorem dX11_mend_51 : decode cX11_mend 51 = .ok (.aload_n 0, 1) := by decide +kernel
theorem dX11_mend_52 : decode cX11_mend 52 = .ok (.getfield 39, 3) := by decide +kernel
theorem dX11_mend_55 : decode cX11_mend 55 = .ok (.iload_n 1, 1) := by decide +kernel
theorem dX11_mend_56 : decode cX11_mend 56 = .ok (.iload_n 2, 1) := by decide +kernel
theorem dX11_mend_57 : decode cX11_mend 57 = .ok (.iload_n 3, 1) := by decide +kernel
theorem dX11_mend_58 : decode cX11_mend 58 = .ok (.invokevirtual 159, 3) := by decide +kernel
theorem dX11_mend_61 : decode cX11_mend 61 = .ok (.iload 4, 2) := by decide +kernel
theorem dX11_mend_63 : decode cX11_mend 63 = .ok (.ireturn, 1) := by decide +kernel
theorem dX11_of_0 : decode cX11_of 0 = .ok (.iload_n 2, 1) := by decide +kernel
theorem dX11_of_1 : decode cX11_of 1 = .ok (.bipush 12, 2) := by decide +kernel
theorem dX11_of_3 : decode cX11_of 3 = .ok (.if_icmp .ne 28, 3) := by decide +kernel
theorem dX11_of_6 : decode cX11_of 6 = .ok (.aload_n 0, 1) := by decide +kernel
theorem dX11_of_7 : decode cX11_of 7 = .ok (.getfield 26, 3) := by decide +kernel
theorem dX11_of_10 : decode cX11_of 10 = .ok (.iload_n 1, 1) := by decide +kernel
theorem dX11_of_11 : decode cX11_of 11 = .ok (.invokevirtual 143, 3) := by decide +kernel
theorem dX11_of_14 : decode cX11_of 14 = .ok (.ifCond .eq 15, 3) := by decide +kernel
theorem dX11_of_17 : decode cX11_of 17 = .ok (.aload_n 0, 1) := by decide +kernel
theorem dX11_of_18 : decode cX11_of 18 = .ok (.getfield 26, 3) := by decide +kernel
theorem dX11_of_21 : decode cX11_of 21 = .ok (.getfield 163, 3) := by decide +kernel
theorem dX11_of_24 : decode cX11_of 24 = .ok (.iload_n 1, 1) := by decide +kernel
theorem dX11_of_25 : decode cX11_of 25 = .ok (.iaload, 1) := by decide +kernel
theorem dX11_of_26 : decode cX11_of 26 = .ok (.goto 4, 3) := by decide +kernel
theorem dX11_of_29 : decode cX11_of 29 = .ok (.iconst (-1), 1) := by decide +kernel
theorem dX11_of_30 : decode cX11_of 30 = .ok (.ireturn, 1) := by decide +kernel
theorem dX11_of_31 : decode cX11_of 31 = .ok (.aload_n 0, 1) := by decide +kernel
theorem dX11_of_32 : decode cX11_of 32 = .ok (.getfield 39, 3) := by decide +kernel
theorem dX11_of_35 : decode cX11_of 35 = .ok (.iload_n 1, 1) := by decide +kernel
theorem dX11_of_36 : decode cX11_of 36 = .ok (.iload_n 2, 1) := by decide +kernel
theorem dX11_of_37 : decode cX11_of 37 = .ok (.invokevirtual 149, 3) := by decide +kernel
theorem dX11_of_40 : decode cX11_of 40 = .ok (.ifCond .eq 15, 3) := by decide +kernel
theorem dX11_of_43 : decode cX11_of 43 = .ok (.aload_n 0, 1) := by decide +kernel
theorem dX11_of_44 : decode cX11_of 44 = .ok (.getfield 39, 3) := by decide +kernel
theorem dX11_of_47 : decode cX11_of 47 = .ok (.iload_n 1, 1) := by decide +kernel
theorem dX11_of_48 : decode cX11_of 48 = .ok (.iload_n 2, 1) := by decide +kernel
theorem dX11_of_49 : decode cX11_of 49 = .ok (.invokevirtual 152, 3) := by decide +kernel
theorem dX11_of_52 : decode cX11_of 52 = .ok (.goto 4, 3) := by decide +kernel
theorem dX11_of_55 : decode cX11_of 55 = .ok (.iconst (-1), 1) := by decide +kernel
theorem dX11_of_56 : decode cX11_of 56 = .ok (.ireturn, 1) := by decide +kernel
theorem dX11_feed_0 : decode cX11_feed 0 = .ok (.iload_n 1, 1) := by decide +kernel
theorem dX11_feed_1 : decode cX11_feed 1 = .ok (.iconst 0, 1) := by decide +kernel
theorem dX11_feed_2 : decode cX11_feed 2 = .ok (.sipush 255, 3) := by decide +kernel
theorem dX11_feed_5 : decode cX11_feed 5 = .ok (.invokestatic 99, 3) := by decide +kernel
theorem dX11_feed_8 : decode cX11_feed 8 = .ok (.ifCond .ne 5, 3) := by decide +kernel
theorem dX11_feed_11 : decode cX11_feed 11 = .ok (.iconst (-1), 1) := by decide +kernel
theorem dX11_feed_12 : decode cX11_feed 12 = .ok (.ireturn, 1) := by decide +kernel
theorem dX11_feed_13 : decode cX11_feed 13 = .ok (.aload_n 0, 1) := by decide +kernel
theorem dX11_feed_14 : decode cX11_feed 14 = .ok (.getfield 55, 3) := by decide +kernel
theorem dX11_feed_17 : decode cX11_feed 17 = .ok (.iload_n 1, 1) := by decide +kernel
theorem dX11_feed_18 : decode cX11_feed 18 = .ok (.invokevirtual 166, 3) := by decide +kernel
theorem dX11_feed_21 : decode cX11_feed 21 = .ok (.ifCond .eq 13, 3) := by decide +kernel
theorem dX11_feed_24 : decode cX11_feed 24 = .ok (.aload_n 0, 1) := by decide +kernel
theorem dX11_feed_25 : decode cX11_feed 25 = .ok (.getfield 55, 3) := by decide +kernel
theorem dX11_feed_28 : decode cX11_feed 28 = .ok (.getfield 169, 3) := by decide +kernel
theorem dX11_feed_31 : decode cX11_feed 31 = .ok (.goto 5, 3) := by decide +kernel
theorem dX11_feed_34 : decode cX11_feed 34 = .ok (.bipush (-3), 2) := by decide +kernel
theorem dX11_feed_36 : decode cX11_feed 36 = .ok (.ireturn, 1) := by decide +kernel
theorem dX11_law_0 : decode cX11_law 0 = .ok (.aload_n 0, 1) := by decide +kernel
theorem dX11_law_1 : decode cX11_law 1 = .ok (.getfield 55, 3) := by decide +kernel
theorem dX11_law_4 : decode cX11_law 4 = .ok (.invokevirtual 172, 3) := by decide +kernel
theorem dX11_law_7 : decode cX11_law 7 = .ok (.istore_n 1, 1) := by decide +kernel
theorem dX11_law_8 : decode cX11_law 8 = .ok (.iload_n 1, 1) := by decide +kernel
theorem dX11_law_9 : decode cX11_law 9 = .ok (.iconst 1, 1) := by decide +kernel
theorem dX11_law_10 : decode cX11_law 10 = .ok (.if_icmp .ne 17, 3) := by decide +kernel
theorem dX11_law_13 : decode cX11_law 13 = .ok (.aload_n 0, 1) := by decide +kernel
theorem dX11_law_14 : decode cX11_law 14 = .ok (.getfield 59, 3) := by decide +kernel
theorem dX11_law_17 : decode cX11_law 17 = .ok (.aload_n 0, 1) := by decide +kernel
theorem dX11_law_18 : decode cX11_law 18 = .ok (.getfield 55, 3) := by decide +kernel
theorem dX11_law_21 : decode cX11_law 21 = .ok (.getfield 176, 3) := by decide +kernel
theorem dX11_law_24 : decode cX11_law 24 = .ok (.invokevirtual 179, 3) := by decide +kernel
theorem dX11_law_27 : decode cX11_law 27 = .ok (.aload_n 0, 1) := by decide +kernel
theorem dX11_law_28 : decode cX11_law 28 = .ok (.getfield 55, 3) := by decide +kernel
theorem dX11_law_31 : decode cX11_law 31 = .ok (.iconst 0, 1) := by decide +kernel
theorem dX11_law_32 : decode cX11_law 32 = .ok (.putfield 169, 3) := by decide +kernel
theorem dX11_law_35 : decode cX11_law 35 = .ok (.iload_n 1, 1) := by decide +kernel
theorem dX11_law_36 : decode cX11_law 36 = .ok (.ireturn, 1) := by decide +kernel
theorem dX11_smell_0 : decode cX11_smell 0 = .ok (.aload_n 0, 1) := by decide +kernel
theorem dX11_smell_1 : decode cX11_smell 1 = .ok (.getfield 26, 3) := by decide +kernel
theorem dX11_smell_4 : decode cX11_smell 4 = .ok (.iload_n 1, 1) := by decide +kernel
theorem dX11_smell_5 : decode cX11_smell 5 = .ok (.invokevirtual 143, 3) := by decide +kernel
theorem dX11_smell_8 : decode cX11_smell 8 = .ok (.ifCond .eq 13, 3) := by decide +kernel
theorem dX11_smell_11 : decode cX11_smell 11 = .ok (.iload_n 2, 1) := by decide +kernel
theorem dX11_smell_12 : decode cX11_smell 12 = .ok (.iconst 0, 1) := by decide +kernel
theorem dX11_smell_13 : decode cX11_smell 13 = .ok (.bipush 11, 2) := by decide +kernel
theorem dX11_smell_15 : decode cX11_smell 15 = .ok (.invokestatic 99, 3) := by decide +kernel
theorem dX11_smell_18 : decode cX11_smell 18 = .ok (.ifCond .ne 5, 3) := by decide +kernel
theorem dX11_smell_21 : decode cX11_smell 21 = .ok (.iconst (-1), 1) := by decide +kernel
theorem dX11_smell_22 : decode cX11_smell 22 = .ok (.ireturn, 1) := by decide +kernel
theorem dX11_smell_23 : decode cX11_smell 23 = .ok (.iload_n 2, 1) := by decide +kernel
theorem dX11_smell_24 : decode cX11_smell 24 = .ok (.iconst 2, 1) := by decide +kernel
theorem dX11_smell_25 : decode cX11_smell 25 = .ok (.irem, 1) := by decide +kernel
theorem dX11_smell_26 : decode cX11_smell 26 = .ok (.aload_n 0, 1) := by decide +kernel
theorem dX11_smell_27 : decode cX11_smell 27 = .ok (.getfield 32, 3) := by decide +kernel
theorem dX11_smell_30 : decode cX11_smell 30 = .ok (.iload_n 1, 1) := by decide +kernel
theorem dX11_smell_31 : decode cX11_smell 31 = .ok (.invokevirtual 183, 3) := by decide +kernel
theorem dX11_smell_34 : decode cX11_smell 34 = .ok (.if_icmp .ne 5, 3) := by decide +kernel
theorem dX11_smell_37 : decode cX11_smell 37 = .ok (.iconst (-1), 1) := by decide +kernel
theorem dX11_smell_38 : decode cX11_smell 38 = .ok (.ireturn, 1) := by decide +kernel
theorem dX11_smell_39 : decode cX11_smell 39 = .ok (.aload_n 0, 1) := by decide +kernel
theorem dX11_smell_40 : decode cX11_smell 40 = .ok (.getfield 68, 3) := by decide +kernel
theorem dX11_smell_43 : decode cX11_smell 43 = .ok (.iload_n 1, 1) := by decide +kernel
theorem dX11_smell_44 : decode cX11_smell 44 = .ok (.iload_n 2, 1) := by decide +kernel
theorem dX11_smell_45 : decode cX11_smell 45 = .ok (.invokevirtual 186, 3) := by decide +kernel
theorem dX11_smell_48 : decode cX11_smell 48 = .ok (.ireturn, 1) := by decide +kernel
theorem dX11_smelt_0 : decode cX11_smelt 0 = .ok (.aload_n 0, 1) := by decide +kernel
theorem dX11_smelt_1 : decode cX11_smelt 1 = .ok (.getfield 26, 3) := by decide +kernel
theorem dX11_smelt_4 : decode cX11_smelt 4 = .ok (.iload_n 1, 1) := by decide +kernel
theorem dX11_smelt_5 : decode cX11_smelt 5 = .ok (.invokevirtual 143, 3) := by decide +kernel
theorem dX11_smelt_8 : decode cX11_smelt 8 = .ok (.ifCond .eq 14, 3) := by decide +kernel
theorem dX11_smelt_11 : decode cX11_smelt 11 = .ok (.aload_n 0, 1) := by decide +kernel
theorem dX11_smelt_12 : decode cX11_smelt 12 = .ok (.getfield 68, 3) := by decide +kernel
theorem dX11_smelt_15 : decode cX11_smelt 15 = .ok (.iload_n 1, 1) := by decide +kernel
theorem dX11_smelt_16 : decode cX11_smelt 16 = .ok (.invokevirtual 189, 3) := by decide +kernel
theorem dX11_smelt_19 : decode cX11_smelt 19 = .ok (.goto 4, 3) := by decide +kernel
theorem dX11_smelt_22 : decode cX11_smelt 22 = .ok (.iconst (-1), 1) := by decide +kernel
theorem dX11_smelt_23 : decode cX11_smelt 23 = .ok (.ireturn, 1) := by decide +kernel
theorem dX11_shut_0 : decode cX11_shut 0 = .ok (.iload_n 1, 1) := by decide +kernel
theorem dX11_shut_1 : decode cX11_shut 1 = .ok (.iconst 0, 1) := by decide +kernel
theorem dX11_shut_2 : decode cX11_shut 2 = .ok (.iconst 1, 1) := by decide +kernel
theorem dX11_shut_3 : decode cX11_shut 3 = .ok (.invokestatic 99, 3) := by decide +kernel
theorem dX11_shut_6 : decode cX11_shut 6 = .ok (.ifCond .ne 5, 3) := by decide +kernel
theorem dX11_shut_9 : decode cX11_shut 9 = .ok (.iconst (-1), 1) := by decide +kernel
theorem dX11_shut_10 : decode cX11_shut 10 = .ok (.ireturn, 1) := by decide +kernel
theorem dX11_shut_11 : decode cX11_shut 11 = .ok (.aload_n 0, 1) := by decide +kernel
theorem dX11_shut_12 : decode cX11_shut 12 = .ok (.getfield 68, 3) := by decide +kernel
theorem dX11_shut_15 : decode cX11_shut 15 = .ok (.invokevirtual 192, 3) := by decide +kernel
theorem dX11_shut_18 : decode cX11_shut 18 = .ok (.istore_n 2, 1) := by decide +kernel
theorem dX11_shut_19 : decode cX11_shut 19 = .ok (.iload_n 1, 1) := by decide +kernel
theorem dX11_shut_20 : decode cX11_shut 20 = .ok (.ifCond .ne 10, 3) := by decide +kernel
theorem dX11_shut_23 : decode cX11_shut 23 = .ok (.iload_n 2, 1) := by decide +kernel
theorem dX11_shut_24 : decode cX11_shut 24 = .ok (.invokestatic 195, 3) := by decide +kernel
theorem dX11_shut_27 : decode cX11_shut 27 = .ok (.goto 4, 3) := by decide +kernel
theorem dX11_shut_30 : decode cX11_shut 30 = .ok (.iload_n 2, 1) := by decide +kernel
theorem dX11_shut_31 : decode cX11_shut 31 = .ok (.ireturn, 1) := by decide +kernel
theorem dX11_lane_0 : decode cX11_lane 0 = .ok (.iload_n 1, 1) := by decide +kernel
theorem dX11_lane_1 : decode cX11_lane 1 = .ok (.iconst 0, 1) := by decide +kernel
theorem dX11_lane_2 : decode cX11_lane 2 = .ok (.bipush 60, 2) := by decide +kernel
theorem dX11_lane_4 : decode cX11_lane 4 = .ok (.invokestatic 99, 3) := by decide +kernel
theorem dX11_lane_7 : decode cX11_lane 7 = .ok (.ifCond .eq 13, 3) := by decide +kernel
theorem dX11_lane_10 : decode cX11_lane 10 = .ok (.iload_n 2, 1) := by decide +kernel
theorem dX11_lane_11 : decode cX11_lane 11 = .ok (.iconst 0, 1) := by decide +kernel
theorem dX11_lane_12 : decode cX11_lane 12 = .ok (.bipush 8, 2) := by decide +kernel
theorem dX11_lane_14 : decode cX11_lane 14 = .ok (.invokestatic 99, 3) := by decide +kernel
theorem dX11_lane_17 : decode cX11_lane 17 = .ok (.ifCond .ne 5, 3) := by decide +kernel
theorem dX11_lane_20 : decode cX11_lane 20 = .ok (.iconst (-1), 1) := by decide +kernel
theorem dX11_lane_21 : decode cX11_lane 21 = .ok (.ireturn, 1) := by decide +kernel
theorem dX11_lane_22 : decode cX11_lane 22 = .ok (.aload_n 0, 1) := by decide +kernel
theorem dX11_lane_23 : decode cX11_lane 23 = .ok (.getfield 77, 3) := by decide +kernel
theorem dX11_lane_26 : decode cX11_lane 26 = .ok (.iload_n 1, 1) := by decide +kernel
theorem dX11_lane_27 : decode cX11_lane 27 = .ok (.invokevirtual 200, 3) := by decide +kernel
theorem dX11_lane_30 : decode cX11_lane 30 = .ok (.astore_n 3, 1) := by decide +kernel
theorem dX11_lane_31 : decode cX11_lane 31 = .ok (.iload_n 2, 1) := by decide +kernel
theorem dX11_lane_32 : decode cX11_lane 32 = .ok (.tableswitch 73 4 8 #[36, 41, 46, 51, 56], 36) := by decide +kernel
theorem dX11_lane_68 : decode cX11_lane 68 = .ok (.aload_n 3, 1) := by decide +kernel
theorem dX11_lane_69 : decode cX11_lane 69 = .ok (.invokevirtual 204, 3) := by decide +kernel
theorem dX11_lane_72 : decode cX11_lane 72 = .ok (.ireturn, 1) := by decide +kernel
theorem dX11_lane_73 : decode cX11_lane 73 = .ok (.aload_n 3, 1) := by decide +kernel
theorem dX11_lane_74 : decode cX11_lane 74 = .ok (.getfield 207, 3) := by decide +kernel
theorem dX11_lane_77 : decode cX11_lane 77 = .ok (.ireturn, 1) := by decide +kernel
theorem dX11_lane_78 : decode cX11_lane 78 = .ok (.aload_n 3, 1) := by decide +kernel
theorem dX11_lane_79 : decode cX11_lane 79 = .ok (.invokevirtual 210, 3) := by decide +kernel
theorem dX11_lane_82 : decode cX11_lane 82 = .ok (.ireturn, 1) := by decide +kernel
theorem dX11_lane_83 : decode cX11_lane 83 = .ok (.aload_n 3, 1) := by decide +kernel
theorem dX11_lane_84 : decode cX11_lane 84 = .ok (.invokevirtual 213, 3) := by decide +kernel
theorem dX11_lane_87 : decode cX11_lane 87 = .ok (.ireturn, 1) := by decide +kernel
theorem dX11_lane_88 : decode cX11_lane 88 = .ok (.aload_n 3, 1) := by decide +kernel
theorem dX11_lane_89 : decode cX11_lane 89 = .ok (.getfield 216, 3) := by decide +kernel
theorem dX11_lane_92 : decode cX11_lane 92 = .ok (.iconst 3, 1) := by decide +kernel
theorem dX11_lane_93 : decode cX11_lane 93 = .ok (.iaload, 1) := by decide +kernel
theorem dX11_lane_94 : decode cX11_lane 94 = .ok (.aload_n 0, 1) := by decide +kernel
theorem dX11_lane_95 : decode cX11_lane 95 = .ok (.getfield 32, 3) := by decide +kernel
theorem dX11_lane_98 : decode cX11_lane 98 = .ok (.getfield 216, 3) := by decide +kernel
theorem dX11_lane_101 : decode cX11_lane 101 = .ok (.iconst 3, 1) := by decide +kernel
theorem dX11_lane_102 : decode cX11_lane 102 = .ok (.iaload, 1) := by decide +kernel
theorem dX11_lane_103 : decode cX11_lane 103 = .ok (.isub, 1) := by decide +kernel
theorem dX11_lane_104 : decode cX11_lane 104 = .ok (.ireturn, 1) := by decide +kernel
theorem dX11_lane_105 : decode cX11_lane 105 = .ok (.aload_n 3, 1) := by decide +kernel
theorem dX11_lane_106 : decode cX11_lane 106 = .ok (.iload_n 2, 1) := by decide +kernel
theorem dX11_lane_107 : decode cX11_lane 107 = .ok (.invokevirtual 219, 3) := by decide +kernel
theorem dX11_lane_110 : decode cX11_lane 110 = .ok (.ireturn, 1) := by decide +kernel
theorem dX11_when_0 : decode cX11_when 0 = .ok (.aload_n 0, 1) := by decide +kernel
theorem dX11_when_1 : decode cX11_when 1 = .ok (.getfield 26, 3) := by decide +kernel
theorem dX11_when_4 : decode cX11_when 4 = .ok (.iload_n 1, 1) := by decide +kernel
theorem dX11_when_5 : decode cX11_when 5 = .ok (.invokevirtual 143, 3) := by decide +kernel
theorem dX11_when_8 : decode cX11_when 8 = .ok (.ifCond .eq 12, 3) := by decide +kernel
theorem dX11_when_11 : decode cX11_when 11 = .ok (.iload_n 2, 1) := by decide +kernel
theorem dX11_when_12 : decode cX11_when 12 = .ok (.iconst 0, 1) := by decide +kernel
theorem dX11_when_13 : decode cX11_when 13 = .ok (.iconst 1, 1) := by decide +kernel
theorem dX11_when_14 : decode cX11_when 14 = .ok (.invokestatic 99, 3) := by decide +kernel
theorem dX11_when_17 : decode cX11_when 17 = .ok (.ifCond .ne 5, 3) := by decide +kernel
theorem dX11_when_20 : decode cX11_when 20 = .ok (.iconst (-1), 1) := by decide +kernel
theorem dX11_when_21 : decode cX11_when 21 = .ok (.ireturn, 1) := by decide +kernel
theorem dX11_when_22 : decode cX11_when 22 = .ok (.aload_n 0, 1) := by decide +kernel
theorem dX11_when_23 : decode cX11_when 23 = .ok (.getfield 77, 3) := by decide +kernel
theorem dX11_when_26 : decode cX11_when 26 = .ok (.iload_n 1, 1) := by decide +kernel
theorem dX11_when_27 : decode cX11_when 27 = .ok (.iload_n 2, 1) := by decide +kernel
theorem dX11_when_28 : decode cX11_when 28 = .ok (.ifCond .ne 7, 3) := by decide +kernel
theorem dX11_when_31 : decode cX11_when 31 = .ok (.iconst 2, 1) := by decide +kernel
theorem dX11_when_32 : decode cX11_when 32 = .ok (.goto 4, 3) := by decide +kernel
theorem dX11_when_35 : decode cX11_when 35 = .ok (.iconst 3, 1) := by decide +kernel
theorem dX11_when_36 : decode cX11_when 36 = .ok (.invokevirtual 222, 3) := by decide +kernel
theorem dX11_when_39 : decode cX11_when 39 = .ok (.ireturn, 1) := by decide +kernel
theorem dX11_move_0 : decode cX11_move 0 = .ok (.iload_n 1, 1) := by decide +kernel
theorem dX11_move_1 : decode cX11_move 1 = .ok (.iconst 0, 1) := by decide +kernel
theorem dX11_move_2 : decode cX11_move 2 = .ok (.bipush 40, 2) := by decide +kernel
theorem dX11_move_4 : decode cX11_move 4 = .ok (.invokestatic 99, 3) := by decide +kernel
theorem dX11_move_7 : decode cX11_move 7 = .ok (.ifCond .eq 12, 3) := by decide +kernel
theorem dX11_move_10 : decode cX11_move 10 = .ok (.iload_n 2, 1) := by decide +kernel
theorem dX11_move_11 : decode cX11_move 11 = .ok (.iconst 0, 1) := by decide +kernel
theorem dX11_move_12 : decode cX11_move 12 = .ok (.iconst 1, 1) := by decide +kernel
theorem dX11_move_13 : decode cX11_move 13 = .ok (.invokestatic 99, 3) := by decide +kernel
theorem dX11_move_16 : decode cX11_move 16 = .ok (.ifCond .ne 5, 3) := by decide +kernel
theorem dX11_move_19 : decode cX11_move 19 = .ok (.iconst (-1), 1) := by decide +kernel
theorem dX11_move_20 : decode cX11_move 20 = .ok (.ireturn, 1) := by decide +kernel
theorem dX11_move_21 : decode cX11_move 21 = .ok (.aload_n 0, 1) := by decide +kernel
theorem dX11_move_22 : decode cX11_move 22 = .ok (.getfield 77, 3) := by decide +kernel
theorem dX11_move_25 : decode cX11_move 25 = .ok (.iload_n 1, 1) := by decide +kernel
theorem dX11_move_26 : decode cX11_move 26 = .ok (.invokevirtual 225, 3) := by decide +kernel
theorem dX11_move_29 : decode cX11_move 29 = .ok (.iload_n 2, 1) := by decide +kernel
theorem dX11_move_30 : decode cX11_move 30 = .ok (.ifCond .ne 13, 3) := by decide +kernel
theorem dX11_move_33 : decode cX11_move 33 = .ok (.aload_n 0, 1) := by decide +kernel
theorem dX11_move_34 : decode cX11_move 34 = .ok (.getfield 77, 3) := by decide +kernel
theorem dX11_move_37 : decode cX11_move 37 = .ok (.getfield 229, 3) := by decide +kernel
theorem dX11_move_40 : decode cX11_move 40 = .ok (.goto 10, 3) := by decide +kernel
theorem dX11_move_43 : decode cX11_move 43 = .ok (.aload_n 0, 1) := by decide +kernel
theorem dX11_move_44 : decode cX11_move 44 = .ok (.getfield 77, 3) := by decide +kernel
theorem dX11_move_47 : decode cX11_move 47 = .ok (.getfield 232, 3) := by decide +kernel
theorem dX11_move_50 : decode cX11_move 50 = .ok (.ireturn, 1) := by decide +kernel
theorem dX11_over_0 : decode cX11_over 0 = .ok (.iload_n 1, 1) := by decide +kernel
theorem dX11_over_1 : decode cX11_over 1 = .ok (.iconst 0, 1) := by decide +kernel
theorem dX11_over_2 : decode cX11_over 2 = .ok (.iconst 1, 1) := by decide +kernel
theorem dX11_over_3 : decode cX11_over 3 = .ok (.invokestatic 99, 3) := by decide +kernel
theorem dX11_over_6 : decode cX11_over 6 = .ok (.ifCond .eq 14, 3) := by decide +kernel
theorem dX11_over_9 : decode cX11_over 9 = .ok (.aload_n 0, 1) := by decide +kernel
theorem dX11_over_10 : decode cX11_over 10 = .ok (.getfield 84, 3) := by decide +kernel
theorem dX11_over_13 : decode cX11_over 13 = .ok (.iload_n 1, 1) := by decide +kernel
theorem dX11_over_14 : decode cX11_over 14 = .ok (.invokevirtual 235, 3) := by decide +kernel
theorem dX11_over_17 : decode cX11_over 17 = .ok (.goto 4, 3) := by decide +kernel
theorem dX11_over_20 : decode cX11_over 20 = .ok (.iconst (-1), 1) := by decide +kernel
theorem dX11_over_21 : decode cX11_over 21 = .ok (.ireturn, 1) := by decide +kernel
theorem dX11_date_0 : decode cX11_date 0 = .ok (.aload_n 0, 1) := by decide +kernel
theorem dX11_date_1 : decode cX11_date 1 = .ok (.getfield 26, 3) := by decide +kernel
theorem dX11_date_4 : decode cX11_date 4 = .ok (.iload_n 1, 1) := by decide +kernel
theorem dX11_date_5 : decode cX11_date 5 = .ok (.invokevirtual 143, 3) := by decide +kernel
theorem dX11_date_8 : decode cX11_date 8 = .ok (.ifCond .eq 22, 3) := by decide +kernel
theorem dX11_date_11 : decode cX11_date 11 = .ok (.iload_n 2, 1) := by decide +kernel
theorem dX11_date_12 : decode cX11_date 12 = .ok (.iconst 0, 1) := by decide +kernel
theorem dX11_date_13 : decode cX11_date 13 = .ok (.bipush 60, 2) := by decide +kernel
theorem dX11_date_15 : decode cX11_date 15 = .ok (.invokestatic 99, 3) := by decide +kernel
theorem dX11_date_18 : decode cX11_date 18 = .ok (.ifCond .eq 12, 3) := by decide +kernel
theorem dX11_date_21 : decode cX11_date 21 = .ok (.iload_n 3, 1) := by decide +kernel
theorem dX11_date_22 : decode cX11_date 22 = .ok (.iconst 0, 1) := by decide +kernel
theorem dX11_date_23 : decode cX11_date 23 = .ok (.iconst 1, 1) := by decide +kernel
theorem dX11_date_24 : decode cX11_date 24 = .ok (.invokestatic 99, 3) := by decide +kernel
theorem dX11_date_27 : decode cX11_date 27 = .ok (.ifCond .ne 5, 3) := by decide +kernel
theorem dX11_date_30 : decode cX11_date 30 = .ok (.iconst (-1), 1) := by decide +kernel
theorem dX11_date_31 : decode cX11_date 31 = .ok (.ireturn, 1) := by decide +kernel
theorem dX11_date_32 : decode cX11_date 32 = .ok (.aload_n 0, 1) := by decide +kernel
theorem dX11_date_33 : decode cX11_date 33 = .ok (.getfield 77, 3) := by decide +kernel
theorem dX11_date_36 : decode cX11_date 36 = .ok (.iload_n 1, 1) := by decide +kernel
theorem dX11_date_37 : decode cX11_date 37 = .ok (.iload_n 2, 1) := by decide +kernel
theorem dX11_date_38 : decode cX11_date 38 = .ok (.invokevirtual 238, 3) := by decide +kernel
theorem dX11_date_41 : decode cX11_date 41 = .ok (.iload_n 3, 1) := by decide +kernel
theorem dX11_date_42 : decode cX11_date 42 = .ok (.ifCond .ne 13, 3) := by decide +kernel
theorem dX11_date_45 : decode cX11_date 45 = .ok (.aload_n 0, 1) := by decide +kernel
theorem dX11_date_46 : decode cX11_date 46 = .ok (.getfield 77, 3) := by decide +kernel
theorem dX11_date_49 : decode cX11_date 49 = .ok (.getfield 232, 3) := by decide +kernel
theorem dX11_date_52 : decode cX11_date 52 = .ok (.goto 10, 3) := by decide +kernel
theorem dX11_date_55 : decode cX11_date 55 = .ok (.aload_n 0, 1) := by decide +kernel
theorem dX11_date_56 : decode cX11_date 56 = .ok (.getfield 77, 3) := by decide +kernel
theorem dX11_date_59 : decode cX11_date 59 = .ok (.getfield 229, 3) := by decide +kernel
theorem dX11_date_62 : decode cX11_date 62 = .ok (.ireturn, 1) := by decide +kernel
theorem dX11_judge_0 : decode cX11_judge 0 = .ok (.aload_n 0, 1) := by decide +kernel
theorem dX11_judge_1 : decode cX11_judge 1 = .ok (.getfield 26, 3) := by decide +kernel
theorem dX11_judge_4 : decode cX11_judge 4 = .ok (.iload_n 2, 1) := by decide +kernel
theorem dX11_judge_5 : decode cX11_judge 5 = .ok (.invokevirtual 111, 3) := by decide +kernel
theorem dX11_judge_8 : decode cX11_judge 8 = .ok (.ifCond .ne 5, 3) := by decide +kernel
theorem dX11_judge_11 : decode cX11_judge 11 = .ok (.iconst (-1), 1) := by decide +kernel
theorem dX11_judge_12 : decode cX11_judge 12 = .ok (.ireturn, 1) := by decide +kernel
theorem dX11_judge_13 : decode cX11_judge 13 = .ok (.aload_n 0, 1) := by decide +kernel
theorem dX11_judge_14 : decode cX11_judge 14 = .ok (.getfield 95, 3) := by decide +kernel
theorem dX11_judge_17 : decode cX11_judge 17 = .ok (.iload_n 1, 1) := by decide +kernel
theorem dX11_judge_18 : decode cX11_judge 18 = .ok (.invokevirtual 122, 3) := by decide +kernel
theorem dX11_judge_21 : decode cX11_judge 21 = .ok (.istore_n 3, 1) := by decide +kernel
theorem dX11_judge_22 : decode cX11_judge 22 = .ok (.iload_n 3, 1) := by decide +kernel
theorem dX11_judge_23 : decode cX11_judge 23 = .ok (.ifCond .eq 7, 3) := by decide +kernel
theorem dX11_judge_26 : decode cX11_judge 26 = .ok (.iload_n 3, 1) := by decide +kernel
theorem dX11_judge_27 : decode cX11_judge 27 = .ok (.goto 12, 3) := by decide +kernel
theorem dX11_judge_30 : decode cX11_judge 30 = .ok (.aload_n 0, 1) := by decide +kernel
theorem dX11_judge_31 : decode cX11_judge 31 = .ok (.getfield 77, 3) := by decide +kernel
theorem dX11_judge_34 : decode cX11_judge 34 = .ok (.iload_n 1, 1) := by decide +kernel
theorem dX11_judge_35 : decode cX11_judge 35 = .ok (.iload_n 2, 1) := by decide +kernel
theorem dX11_judge_36 : decode cX11_judge 36 = .ok (.invokevirtual 242, 3) := by decide +kernel
theorem dX11_judge_39 : decode cX11_judge 39 = .ok (.ireturn, 1) := by decide +kernel
theorem dX11_fits_0 : decode cX11_fits 0 = .ok (.iload_n 2, 1) := by decide +kernel
theorem dX11_fits_1 : decode cX11_fits 1 = .ok (.ifCond .lt 12, 3) := by decide +kernel
theorem dX11_fits_4 : decode cX11_fits 4 = .ok (.iload_n 3, 1) := by decide +kernel
theorem dX11_fits_5 : decode cX11_fits 5 = .ok (.iconst 0, 1) := by decide +kernel
theorem dX11_fits_6 : decode cX11_fits 6 = .ok (.iconst 3, 1) := by decide +kernel
theorem dX11_fits_7 : decode cX11_fits 7 = .ok (.invokestatic 99, 3) := by decide +kernel
theorem dX11_fits_10 : decode cX11_fits 10 = .ok (.ifCond .ne 5, 3) := by decide +kernel
theorem dX11_fits_13 : decode cX11_fits 13 = .ok (.iconst (-1), 1) := by decide +kernel
theorem dX11_fits_14 : decode cX11_fits 14 = .ok (.ireturn, 1) := by decide +kernel
theorem dX11_fits_15 : decode cX11_fits 15 = .ok (.iload_n 2, 1) := by decide +kernel
theorem dX11_fits_16 : decode cX11_fits 16 = .ok (.bipush 10, 2) := by decide +kernel
theorem dX11_fits_18 : decode cX11_fits 18 = .ok (.idiv, 1) := by decide +kernel
theorem dX11_fits_19 : decode cX11_fits 19 = .ok (.istore 4, 2) := by decide +kernel
theorem dX11_fits_21 : decode cX11_fits 21 = .ok (.iload_n 2, 1) := by decide +kernel
theorem dX11_fits_22 : decode cX11_fits 22 = .ok (.bipush 10, 2) := by decide +kernel
theorem dX11_fits_24 : decode cX11_fits 24 = .ok (.irem, 1) := by decide +kernel
theorem dX11_fits_25 : decode cX11_fits 25 = .ok (.istore 5, 2) := by decide +kernel
theorem dX11_fits_27 : decode cX11_fits 27 = .ok (.aload_n 0, 1) := by decide +kernel
theorem dX11_fits_28 : decode cX11_fits 28 = .ok (.getfield 26, 3) := by decide +kernel
theorem dX11_fits_31 : decode cX11_fits 31 = .ok (.iload 4, 2) := by decide +kernel
theorem dX11_fits_33 : decode cX11_fits 33 = .ok (.invokevirtual 111, 3) := by decide +kernel
theorem dX11_fits_36 : decode cX11_fits 36 = .ok (.ifCond .eq 15, 3) := by decide +kernel
theorem dX11_fits_39 : decode cX11_fits 39 = .ok (.aload_n 0, 1) := by decide +kernel
theorem dX11_fits_40 : decode cX11_fits 40 = .ok (.getfield 26, 3) := by decide +kernel
theorem dX11_fits_43 : decode cX11_fits 43 = .ok (.iload 5, 2) := by decide +kernel
theorem dX11_fits_45 : decode cX11_fits 45 = .ok (.invokevirtual 143, 3) := by decide +kernel
theorem dX11_fits_48 : decode cX11_fits 48 = .ok (.ifCond .ne 5, 3) := by decide +kernel
theorem dX11_fits_51 : decode cX11_fits 51 = .ok (.iconst (-1), 1) := by decide +kernel
theorem dX11_fits_52 : decode cX11_fits 52 = .ok (.ireturn, 1) := by decide +kernel
theorem dX11_fits_53 : decode cX11_fits 53 = .ok (.aload_n 0, 1) := by decide +kernel
theorem dX11_fits_54 : decode cX11_fits 54 = .ok (.getfield 95, 3) := by decide +kernel
theorem dX11_fits_57 : decode cX11_fits 57 = .ok (.iload_n 1, 1) := by decide +kernel
theorem dX11_fits_58 : decode cX11_fits 58 = .ok (.invokevirtual 122, 3) := by decide +kernel
theorem dX11_fits_61 : decode cX11_fits 61 = .ok (.istore 6, 2) := by decide +kernel
theorem dX11_fits_63 : decode cX11_fits 63 = .ok (.iload 6, 2) := by decide +kernel
theorem dX11_fits_65 : decode cX11_fits 65 = .ok (.ifCond .eq 6, 3) := by decide +kernel
theorem dX11_fits_68 : decode cX11_fits 68 = .ok (.iload 6, 2) := by decide +kernel
theorem dX11_fits_70 : decode cX11_fits 70 = .ok (.ireturn, 1) := by decide +kernel
theorem dX11_fits_71 : decode cX11_fits 71 = .ok (.iload_n 3, 1) := by decide +kernel
theorem dX11_fits_72 : decode cX11_fits 72 = .ok (.iconst 2, 1) := by decide +kernel
theorem dX11_fits_73 : decode cX11_fits 73 = .ok (.if_icmp .ge 27, 3) := by decide +kernel
theorem dX11_fits_76 : decode cX11_fits 76 = .ok (.aload_n 0, 1) := by decide +kernel
theorem dX11_fits_77 : decode cX11_fits 77 = .ok (.getfield 77, 3) := by decide +kernel
theorem dX11_fits_80 : decode cX11_fits 80 = .ok (.iload_n 1, 1) := by decide +kernel
theorem dX11_fits_81 : decode cX11_fits 81 = .ok (.iload 4, 2) := by decide +kernel
theorem dX11_fits_83 : decode cX11_fits 83 = .ok (.iload 5, 2) := by decide +kernel
theorem dX11_fits_85 : decode cX11_fits 85 = .ok (.aload_n 0, 1) := by decide +kernel
theorem dX11_fits_86 : decode cX11_fits 86 = .ok (.getfield 26, 3) := by decide +kernel
theorem dX11_fits_89 : decode cX11_fits 89 = .ok (.getfield 245, 3) := by decide +kernel
theorem dX11_fits_92 : decode cX11_fits 92 = .ok (.bipush 99, 2) := by decide +kernel
theorem dX11_fits_94 : decode cX11_fits 94 = .ok (.invokevirtual 248, 3) := by decide +kernel
theorem dX11_fits_97 : decode cX11_fits 97 = .ok (.goto 24, 3) := by decide +kernel
theorem dX11_fits_100 : decode cX11_fits 100 = .ok (.aload_n 0, 1) := by decide +kernel
theorem dX11_fits_101 : decode cX11_fits 101 = .ok (.getfield 77, 3) := by decide +kernel
theorem dX11_fits_104 : decode cX11_fits 104 = .ok (.iload_n 1, 1) := by decide +kernel
theorem dX11_fits_105 : decode cX11_fits 105 = .ok (.iload 4, 2) := by decide +kernel
theorem dX11_fits_107 : decode cX11_fits 107 = .ok (.iload 5, 2) := by decide +kernel
theorem dX11_fits_109 : decode cX11_fits 109 = .ok (.aload_n 0, 1) := by decide +kernel
theorem dX11_fits_110 : decode cX11_fits 110 = .ok (.getfield 26, 3) := by decide +kernel
theorem dX11_fits_113 : decode cX11_fits 113 = .ok (.getfield 252, 3) := by decide +kernel
theorem dX11_fits_116 : decode cX11_fits 116 = .ok (.bipush 40, 2) := by decide +kernel
theorem dX11_fits_118 : decode cX11_fits 118 = .ok (.invokevirtual 248, 3) := by decide +kernel
theorem dX11_fits_121 : decode cX11_fits 121 = .ok (.iload_n 3, 1) := by decide +kernel
theorem dX11_fits_122 : decode cX11_fits 122 = .ok (.iconst 2, 1) := by decide +kernel
theorem dX11_fits_123 : decode cX11_fits 123 = .ok (.irem, 1) := by decide +kernel
theorem dX11_fits_124 : decode cX11_fits 124 = .ok (.ifCond .ne 13, 3) := by decide +kernel
theorem dX11_fits_127 : decode cX11_fits 127 = .ok (.aload_n 0, 1) := by decide +kernel
theorem dX11_fits_128 : decode cX11_fits 128 = .ok (.getfield 77, 3) := by decide +kernel
theorem dX11_fits_131 : decode cX11_fits 131 = .ok (.getfield 229, 3) := by decide +kernel
theorem dX11_fits_134 : decode cX11_fits 134 = .ok (.goto 10, 3) := by decide +kernel
theorem dX11_fits_137 : decode cX11_fits 137 = .ok (.aload_n 0, 1) := by decide +kernel
theorem dX11_fits_138 : decode cX11_fits 138 = .ok (.getfield 77, 3) := by decide +kernel
theorem dX11_fits_141 : decode cX11_fits 141 = .ok (.getfield 232, 3) := by decide +kernel
theorem dX11_fits_144 : decode cX11_fits 144 = .ok (.ireturn, 1) := by decide +kernel
theorem dX11_who_0 : decode cX11_who 0 = .ok (.aload_n 0, 1) := by decide +kernel
theorem dX11_who_1 : decode cX11_who 1 = .ok (.getfield 95, 3) := by decide +kernel
theorem dX11_who_4 : decode cX11_who 4 = .ok (.iload_n 1, 1) := by decide +kernel
theorem dX11_who_5 : decode cX11_who 5 = .ok (.invokevirtual 122, 3) := by decide +kernel
theorem dX11_who_8 : decode cX11_who 8 = .ok (.istore_n 2, 1) := by decide +kernel
theorem dX11_who_9 : decode cX11_who 9 = .ok (.iload_n 2, 1) := by decide +kernel
theorem dX11_who_10 : decode cX11_who 10 = .ok (.ifCond .eq 5, 3) := by decide +kernel
theorem dX11_who_13 : decode cX11_who 13 = .ok (.iload_n 2, 1) := by decide +kernel
theorem dX11_who_14 : decode cX11_who 14 = .ok (.ireturn, 1) := by decide +kernel
theorem dX11_who_15 : decode cX11_who 15 = .ok (.iconst 0, 1) := by decide +kernel
theorem dX11_who_16 : decode cX11_who 16 = .ok (.istore_n 3, 1) := by decide +kernel
theorem dX11_who_17 : decode cX11_who 17 = .ok (.iconst 0, 1) := by decide +kernel
theorem dX11_who_18 : decode cX11_who 18 = .ok (.istore 4, 2) := by decide +kernel
theorem dX11_who_20 : decode cX11_who 20 = .ok (.iload 4, 2) := by decide +kernel
theorem dX11_who_22 : decode cX11_who 22 = .ok (.aload_n 0, 1) := by decide +kernel
theorem dX11_who_23 : decode cX11_who 23 = .ok (.getfield 26, 3) := by decide +kernel
theorem dX11_who_26 : decode cX11_who 26 = .ok (.getfield 103, 3) := by decide +kernel
theorem dX11_who_29 : decode cX11_who 29 = .ok (.if_icmp .ge 31, 3) := by decide +kernel
theorem dX11_who_32 : decode cX11_who 32 = .ok (.aload_n 0, 1) := by decide +kernel
theorem dX11_who_33 : decode cX11_who 33 = .ok (.getfield 77, 3) := by decide +kernel
theorem dX11_who_36 : decode cX11_who 36 = .ok (.iload_n 1, 1) := by decide +kernel
theorem dX11_who_37 : decode cX11_who 37 = .ok (.iload 4, 2) := by decide +kernel
theorem dX11_who_39 : decode cX11_who 39 = .ok (.invokevirtual 242, 3) := by decide +kernel
theorem dX11_who_42 : decode cX11_who 42 = .ok (.bipush (-2), 2) := by decide +kernel
theorem dX11_who_44 : decode cX11_who 44 = .ok (.if_icmp .ne 10, 3) := by decide +kernel
theorem dX11_who_47 : decode cX11_who 47 = .ok (.iload_n 3, 1) := by decide +kernel
theorem dX11_who_48 : decode cX11_who 48 = .ok (.iconst 1, 1) := by decide +kernel
theorem dX11_who_49 : decode cX11_who 49 = .ok (.iload 4, 2) := by decide +kernel
theorem dX11_who_51 : decode cX11_who 51 = .ok (.ishl, 1) := by decide +kernel
theorem dX11_who_52 : decode cX11_who 52 = .ok (.ior, 1) := by decide +kernel
theorem dX11_who_53 : decode cX11_who 53 = .ok (.istore_n 3, 1) := by decide +kernel
theorem dX11_who_54 : decode cX11_who 54 = .ok (.iinc 4 1, 3) := by decide +kernel
theorem dX11_who_57 : decode cX11_who 57 = .ok (.goto (-37), 3) := by decide +kernel
theorem dX11_who_60 : decode cX11_who 60 = .ok (.iload_n 3, 1) := by decide +kernel
theorem dX11_who_61 : decode cX11_who 61 = .ok (.ireturn, 1) := by decide +kernel
theorem dX11_share_0 : decode cX11_share 0 = .ok (.aload_n 0, 1) := by decide +kernel
theorem dX11_share_1 : decode cX11_share 1 = .ok (.getfield 26, 3) := by decide +kernel
theorem dX11_share_4 : decode cX11_share 4 = .ok (.iload_n 1, 1) := by decide +kernel
theorem dX11_share_5 : decode cX11_share 5 = .ok (.invokevirtual 111, 3) := by decide +kernel
theorem dX11_share_8 : decode cX11_share 8 = .ok (.ifCond .eq 14, 3) := by decide +kernel
theorem dX11_share_11 : decode cX11_share 11 = .ok (.iload_n 2, 1) := by decide +kernel
theorem dX11_share_12 : decode cX11_share 12 = .ok (.iconst 0, 1) := by decide +kernel
theorem dX11_share_13 : decode cX11_share 13 = .ok (.sipush 9999, 3) := by decide +kernel
theorem dX11_share_16 : decode cX11_share 16 = .ok (.invokestatic 99, 3) := by decide +kernel
theorem dX11_share_19 : decode cX11_share 19 = .ok (.ifCond .ne 5, 3) := by decide +kernel
theorem dX11_share_22 : decode cX11_share 22 = .ok (.iconst (-1), 1) := by decide +kernel
theorem dX11_share_23 : decode cX11_share 23 = .ok (.ireturn, 1) := by decide +kernel
theorem dX11_share_24 : decode cX11_share 24 = .ok (.aload_n 0, 1) := by decide +kernel
theorem dX11_share_25 : decode cX11_share 25 = .ok (.getfield 32, 3) := by decide +kernel
theorem dX11_share_28 : decode cX11_share 28 = .ok (.invokevirtual 210, 3) := by decide +kernel
theorem dX11_share_31 : decode cX11_share 31 = .ok (.istore_n 3, 1) := by decide +kernel
theorem dX11_share_32 : decode cX11_share 32 = .ok (.iload_n 3, 1) := by decide +kernel
theorem dX11_share_33 : decode cX11_share 33 = .ok (.ifCond .le 18, 3) := by decide +kernel
theorem dX11_share_36 : decode cX11_share 36 = .ok (.iload_n 2, 1) := by decide +kernel
theorem dX11_share_37 : decode cX11_share 37 = .ok (.aload_n 0, 1) := by decide +kernel
theorem dX11_share_38 : decode cX11_share 38 = .ok (.getfield 32, 3) := by decide +kernel
theorem dX11_share_41 : decode cX11_share 41 = .ok (.iload_n 1, 1) := by decide +kernel
theorem dX11_share_42 : decode cX11_share 42 = .ok (.invokevirtual 255, 3) := by decide +kernel
theorem dX11_share_45 : decode cX11_share 45 = .ok (.imul, 1) := by decide +kernel
theorem dX11_share_46 : decode cX11_share 46 = .ok (.iload_n 3, 1) := by decide +kernel
theorem dX11_share_47 : decode cX11_share 47 = .ok (.idiv, 1) := by decide +kernel
theorem dX11_share_48 : decode cX11_share 48 = .ok (.goto 4, 3) := by decide +kernel
theorem dX11_share_51 : decode cX11_share 51 = .ok (.iconst 0, 1) := by decide +kernel
theorem dX11_share_52 : decode cX11_share 52 = .ok (.ireturn, 1) := by decide +kernel
theorem dX11_near_0 : decode cX11_near 0 = .ok (.aload_n 0, 1) := by decide +kernel
theorem dX11_near_1 : decode cX11_near 1 = .ok (.getfield 26, 3) := by decide +kernel
theorem dX11_near_4 : decode cX11_near 4 = .ok (.iload_n 1, 1) := by decide +kernel
theorem dX11_near_5 : decode cX11_near 5 = .ok (.invokevirtual 111, 3) := by decide +kernel
theorem dX11_near_8 : decode cX11_near 8 = .ok (.ifCond .eq 14, 3) := by decide +kernel
theorem dX11_near_11 : decode cX11_near 11 = .ok (.aload_n 0, 1) := by decide +kernel
theorem dX11_near_12 : decode cX11_near 12 = .ok (.getfield 84, 3) := by decide +kernel
theorem dX11_near_15 : decode cX11_near 15 = .ok (.iload_n 1, 1) := by decide +kernel
theorem dX11_near_16 : decode cX11_near 16 = .ok (.invokevirtual 258, 3) := by decide +kernel
theorem dX11_near_19 : decode cX11_near 19 = .ok (.goto 4, 3) := by decide +kernel
theorem dX11_near_22 : decode cX11_near 22 = .ok (.iconst (-1), 1) := by decide +kernel
theorem dX11_near_23 : decode cX11_near 23 = .ok (.ireturn, 1) := by decide +kernel
theorem dX11_mates_0 : decode cX11_mates 0 = .ok (.iload_n 1, 1) := by decide +kernel
theorem dX11_mates_1 : decode cX11_mates 1 = .ok (.iconst 0, 1) := by decide +kernel
theorem dX11_mates_2 : decode cX11_mates 2 = .ok (.iconst 5, 1) := by decide +kernel
theorem dX11_mates_3 : decode cX11_mates 3 = .ok (.invokestatic 99, 3) := by decide +kernel
theorem dX11_mates_6 : decode cX11_mates 6 = .ok (.ifCond .eq 14, 3) := by decide +kernel
theorem dX11_mates_9 : decode cX11_mates 9 = .ok (.aload_n 0, 1) := by decide +kernel
theorem dX11_mates_10 : decode cX11_mates 10 = .ok (.getfield 84, 3) := by decide +kernel
theorem dX11_mates_13 : decode cX11_mates 13 = .ok (.iload_n 1, 1) := by decide +kernel
theorem dX11_mates_14 : decode cX11_mates 14 = .ok (.invokevirtual 261, 3) := by decide +kernel
theorem dX11_mates_17 : decode cX11_mates 17 = .ok (.goto 4, 3) := by decide +kernel
theorem dX11_mates_20 : decode cX11_mates 20 = .ok (.iconst (-1), 1) := by decide +kernel
theorem dX11_mates_21 : decode cX11_mates 21 = .ok (.ireturn, 1) := by decide +kernel
theorem dX11_byTurns_0 : decode cX11_byTurns 0 = .ok (.iload_n 1, 1) := by decide +kernel
theorem dX11_byTurns_1 : decode cX11_byTurns 1 = .ok (.iconst 1, 1) := by decide +kernel
theorem dX11_byTurns_2 : decode cX11_byTurns 2 = .ok (.iconst 4, 1) := by decide +kernel
theorem dX11_byTurns_3 : decode cX11_byTurns 3 = .ok (.invokestatic 99, 3) := by decide +kernel
theorem dX11_byTurns_6 : decode cX11_byTurns 6 = .ok (.ifCond .eq 12, 3) := by decide +kernel
theorem dX11_byTurns_9 : decode cX11_byTurns 9 = .ok (.iload_n 2, 1) := by decide +kernel
theorem dX11_byTurns_10 : decode cX11_byTurns 10 = .ok (.iconst 0, 1) := by decide +kernel
theorem dX11_byTurns_11 : decode cX11_byTurns 11 = .ok (.iconst 1, 1) := by decide +kernel
theorem dX11_byTurns_12 : decode cX11_byTurns 12 = .ok (.invokestatic 99, 3) := by decide +kernel
theorem dX11_byTurns_15 : decode cX11_byTurns 15 = .ok (.ifCond .ne 7, 3) := by decide +kernel
theorem dX11_byTurns_18 : decode cX11_byTurns 18 = .ok (.ldc_w 264, 3) := by decide +kernel
theorem dX11_byTurns_21 : decode cX11_byTurns 21 = .ok (.ireturn, 1) := by decide +kernel
theorem dX11_byTurns_22 : decode cX11_byTurns 22 = .ok (.aload_n 0, 1) := by decide +kernel
theorem dX11_byTurns_23 : decode cX11_byTurns 23 = .ok (.getfield 84, 3) := by decide +kernel
theorem dX11_byTurns_26 : decode cX11_byTurns 26 = .ok (.iload_n 1, 1) := by decide +kernel
theorem dX11_byTurns_27 : decode cX11_byTurns 27 = .ok (.invokevirtual 265, 3) := by decide +kernel
theorem dX11_byTurns_30 : decode cX11_byTurns 30 = .ok (.iload_n 2, 1) := by decide +kernel
theorem dX11_byTurns_31 : decode cX11_byTurns 31 = .ok (.ifCond .ne 13, 3) := by decide +kernel
theorem dX11_byTurns_34 : decode cX11_byTurns 34 = .ok (.aload_n 0, 1) := by decide +kernel
theorem dX11_byTurns_35 : decode cX11_byTurns 35 = .ok (.getfield 84, 3) := by decide +kernel
theorem dX11_byTurns_38 : decode cX11_byTurns 38 = .ok (.getfield 268, 3) := by decide +kernel
theorem dX11_byTurns_41 : decode cX11_byTurns 41 = .ok (.goto 10, 3) := by decide +kernel
theorem dX11_byTurns_44 : decode cX11_byTurns 44 = .ok (.aload_n 0, 1) := by decide +kernel
theorem dX11_byTurns_45 : decode cX11_byTurns 45 = .ok (.getfield 84, 3) := by decide +kernel
theorem dX11_byTurns_48 : decode cX11_byTurns 48 = .ok (.getfield 271, 3) := by decide +kernel
theorem dX11_byTurns_51 : decode cX11_byTurns 51 = .ok (.ireturn, 1) := by decide +kernel
theorem dX11_drawn_0 : decode cX11_drawn 0 = .ok (.iload_n 2, 1) := by decide +kernel
theorem dX11_drawn_1 : decode cX11_drawn 1 = .ok (.sipush 10000, 3) := by decide +kernel
theorem dX11_drawn_4 : decode cX11_drawn 4 = .ok (.idiv, 1) := by decide +kernel
theorem dX11_drawn_5 : decode cX11_drawn 5 = .ok (.istore 4, 2) := by decide +kernel
theorem dX11_drawn_7 : decode cX11_drawn 7 = .ok (.iload_n 2, 1) := by decide +kernel
theorem dX11_drawn_8 : decode cX11_drawn 8 = .ok (.bipush 100, 2) := by decide +kernel
theorem dX11_drawn_10 : decode cX11_drawn 10 = .ok (.idiv, 1) := by decide +kernel
theorem dX11_drawn_11 : decode cX11_drawn 11 = .ok (.bipush 100, 2) := by decide +kernel
theorem dX11_drawn_13 : decode cX11_drawn 13 = .ok (.irem, 1) := by decide +kernel
theorem dX11_drawn_14 : decode cX11_drawn 14 = .ok (.istore 5, 2) := by decide +kernel
theorem dX11_drawn_16 : decode cX11_drawn 16 = .ok (.iload_n 2, 1) := by decide +kernel
theorem dX11_drawn_17 : decode cX11_drawn 17 = .ok (.bipush 100, 2) := by decide +kernel
theorem dX11_drawn_19 : decode cX11_drawn 19 = .ok (.irem, 1) := by decide +kernel
theorem dX11_drawn_20 : decode cX11_drawn 20 = .ok (.istore 6, 2) := by decide +kernel
theorem dX11_drawn_22 : decode cX11_drawn 22 = .ok (.iload 4, 2) := by decide +kernel
theorem dX11_drawn_24 : decode cX11_drawn 24 = .ok (.iconst 1, 1) := by decide +kernel
theorem dX11_drawn_25 : decode cX11_drawn 25 = .ok (.bipush 30, 2) := by decide +kernel
theorem dX11_drawn_27 : decode cX11_drawn 27 = .ok (.invokestatic 99, 3) := by decide +kernel
theorem dX11_drawn_30 : decode cX11_drawn 30 = .ok (.ifCond .eq 25, 3) := by decide +kernel
theorem dX11_drawn_33 : decode cX11_drawn 33 = .ok (.iload 5, 2) := by decide +kernel
theorem dX11_drawn_35 : decode cX11_drawn 35 = .ok (.iconst 1, 1) := by decide +kernel
theorem dX11_drawn_36 : decode cX11_drawn 36 = .ok (.bipush 40, 2) := by decide +kernel
theorem dX11_drawn_38 : decode cX11_drawn 38 = .ok (.invokestatic 99, 3) := by decide +kernel
theorem dX11_drawn_41 : decode cX11_drawn 41 = .ok (.ifCond .eq 14, 3) := by decide +kernel
theorem dX11_drawn_44 : decode cX11_drawn 44 = .ok (.iload 6, 2) := by decide +kernel
theorem dX11_drawn_46 : decode cX11_drawn 46 = .ok (.iconst 0, 1) := by decide +kernel
theorem dX11_drawn_47 : decode cX11_drawn 47 = .ok (.bipush 12, 2) := by decide +kernel
theorem dX11_drawn_49 : decode cX11_drawn 49 = .ok (.invokestatic 99, 3) := by decide +kernel
theorem dX11_drawn_52 : decode cX11_drawn 52 = .ok (.ifCond .ne 5, 3) := by decide +kernel
theorem dX11_drawn_55 : decode cX11_drawn 55 = .ok (.iconst (-1), 1) := by decide +kernel
theorem dX11_drawn_56 : decode cX11_drawn 56 = .ok (.ireturn, 1) := by decide +kernel
theorem dX11_drawn_57 : decode cX11_drawn 57 = .ok (.iload_n 3, 1) := by decide +kernel
theorem dX11_drawn_58 : decode cX11_drawn 58 = .ok (.iconst (-1), 1) := by decide +kernel
theorem dX11_drawn_59 : decode cX11_drawn 59 = .ok (.if_icmp .eq 16, 3) := by decide +kernel
theorem dX11_drawn_62 : decode cX11_drawn 62 = .ok (.aload_n 0, 1) := by decide +kernel
theorem dX11_drawn_63 : decode cX11_drawn 63 = .ok (.getfield 26, 3) := by decide +kernel
theorem dX11_drawn_66 : decode cX11_drawn 66 = .ok (.iload_n 3, 1) := by decide +kernel
theorem dX11_drawn_67 : decode cX11_drawn 67 = .ok (.invokevirtual 143, 3) := by decide +kernel
theorem dX11_drawn_70 : decode cX11_drawn 70 = .ok (.ifCond .ne 5, 3) := by decide +kernel
theorem dX11_drawn_73 : decode cX11_drawn 73 = .ok (.iconst (-1), 1) := by decide +kernel
theorem dX11_drawn_74 : decode cX11_drawn 74 = .ok (.ireturn, 1) := by decide +kernel
theorem dX11_drawn_75 : decode cX11_drawn 75 = .ok (.aload_n 0, 1) := by decide +kernel
theorem dX11_drawn_76 : decode cX11_drawn 76 = .ok (.getfield 77, 3) := by decide +kernel
theorem dX11_drawn_79 : decode cX11_drawn 79 = .ok (.iload_n 1, 1) := by decide +kernel
theorem dX11_drawn_80 : decode cX11_drawn 80 = .ok (.iload 4, 2) := by decide +kernel
theorem dX11_drawn_82 : decode cX11_drawn 82 = .ok (.iload 5, 2) := by decide +kernel
theorem dX11_drawn_84 : decode cX11_drawn 84 = .ok (.iload 6, 2) := by decide +kernel
theorem dX11_drawn_86 : decode cX11_drawn 86 = .ok (.iload_n 3, 1) := by decide +kernel
theorem dX11_drawn_87 : decode cX11_drawn 87 = .ok (.invokevirtual 274, 3) := by decide +kernel
theorem dX11_drawn_90 : decode cX11_drawn 90 = .ok (.ireturn, 1) := by decide +kernel
theorem dX11_moves_0 : decode cX11_moves 0 = .ok (.aload_n 0, 1) := by decide +kernel
theorem dX11_moves_1 : decode cX11_moves 1 = .ok (.getfield 26, 3) := by decide +kernel
theorem dX11_moves_4 : decode cX11_moves 4 = .ok (.iload_n 1, 1) := by decide +kernel
theorem dX11_moves_5 : decode cX11_moves 5 = .ok (.invokevirtual 111, 3) := by decide +kernel
theorem dX11_moves_8 : decode cX11_moves 8 = .ok (.ifCond .eq 13, 3) := by decide +kernel
theorem dX11_moves_11 : decode cX11_moves 11 = .ok (.iload_n 2, 1) := by decide +kernel
theorem dX11_moves_12 : decode cX11_moves 12 = .ok (.iconst 0, 1) := by decide +kernel
theorem dX11_moves_13 : decode cX11_moves 13 = .ok (.bipush 11, 2) := by decide +kernel
theorem dX11_moves_15 : decode cX11_moves 15 = .ok (.invokestatic 99, 3) := by decide +kernel
theorem dX11_moves_18 : decode cX11_moves 18 = .ok (.ifCond .ne 5, 3) := by decide +kernel
theorem dX11_moves_21 : decode cX11_moves 21 = .ok (.iconst (-1), 1) := by decide +kernel
theorem dX11_moves_22 : decode cX11_moves 22 = .ok (.ireturn, 1) := by decide +kernel
theorem dX11_moves_23 : decode cX11_moves 23 = .ok (.aload_n 0, 1) := by decide +kernel
theorem dX11_moves_24 : decode cX11_moves 24 = .ok (.getfield 32, 3) := by decide +kernel
theorem dX11_moves_27 : decode cX11_moves 27 = .ok (.getfield 107, 3) := by decide +kernel
theorem dX11_moves_30 : decode cX11_moves 30 = .ok (.iload_n 1, 1) := by decide +kernel
theorem dX11_moves_31 : decode cX11_moves 31 = .ok (.iaload, 1) := by decide +kernel
theorem dX11_moves_32 : decode cX11_moves 32 = .ok (.istore_n 3, 1) := by decide +kernel
theorem dX11_moves_33 : decode cX11_moves 33 = .ok (.aload_n 0, 1) := by decide +kernel
theorem dX11_moves_34 : decode cX11_moves 34 = .ok (.getfield 32, 3) := by decide +kernel
theorem dX11_moves_37 : decode cX11_moves 37 = .ok (.getfield 107, 3) := by decide +kernel
theorem dX11_moves_40 : decode cX11_moves 40 = .ok (.iload_n 1, 1) := by decide +kernel
theorem dX11_moves_41 : decode cX11_moves 41 = .ok (.iload_n 2, 1) := by decide +kernel
theorem dX11_moves_42 : decode cX11_moves 42 = .ok (.iastore, 1) := by decide +kernel
theorem dX11_moves_43 : decode cX11_moves 43 = .ok (.aload_n 0, 1) := by decide +kernel
theorem dX11_moves_44 : decode cX11_moves 44 = .ok (.getfield 32, 3) := by decide +kernel
theorem dX11_moves_47 : decode cX11_moves 47 = .ok (.getfield 216, 3) := by decide +kernel
theorem dX11_moves_50 : decode cX11_moves 50 = .ok (.iconst 0, 1) := by decide +kernel
theorem dX11_moves_51 : decode cX11_moves 51 = .ok (.dup2, 1) := by decide +kernel
theorem dX11_moves_52 : decode cX11_moves 52 = .ok (.iaload, 1) := by decide +kernel
theorem dX11_moves_53 : decode cX11_moves 53 = .ok (.iconst 1, 1) := by decide +kernel
theorem dX11_moves_54 : decode cX11_moves 54 = .ok (.iadd, 1) := by decide +kernel
theorem dX11_moves_55 : decode cX11_moves 55 = .ok (.iastore, 1) := by decide +kernel
theorem dX11_moves_56 : decode cX11_moves 56 = .ok (.iload_n 3, 1) := by decide +kernel
theorem dX11_moves_57 : decode cX11_moves 57 = .ok (.ireturn, 1) := by decide +kernel
theorem dX11_day_0 : decode cX11_day 0 = .ok (.aload_n 0, 1) := by decide +kernel
theorem dX11_day_1 : decode cX11_day 1 = .ok (.getfield 32, 3) := by decide +kernel
theorem dX11_day_4 : decode cX11_day 4 = .ok (.invokevirtual 278, 3) := by decide +kernel
theorem dX11_day_7 : decode cX11_day 7 = .ok (.aload_n 0, 1) := by decide +kernel
theorem dX11_day_8 : decode cX11_day 8 = .ok (.getfield 32, 3) := by decide +kernel
theorem dX11_day_11 : decode cX11_day 11 = .ok (.invokevirtual 204, 3) := by decide +kernel
theorem dX11_day_14 : decode cX11_day 14 = .ok (.ireturn, 1) := by decide +kernel
theorem dX11_inspect_0 : decode cX11_inspect 0 = .ok (.aload_n 0, 1) := by decide +kernel
theorem dX11_inspect_1 : decode cX11_inspect 1 = .ok (.getfield 68, 3) := by decide +kernel
theorem dX11_inspect_4 : decode cX11_inspect 4 = .ok (.invokevirtual 281, 3) := by decide +kernel
theorem dX11_inspect_7 : decode cX11_inspect 7 = .ok (.istore_n 1, 1) := by decide +kernel
theorem dX11_inspect_8 : decode cX11_inspect 8 = .ok (.aload_n 0, 1) := by decide +kernel
theorem dX11_inspect_9 : decode cX11_inspect 9 = .ok (.getfield 32, 3) := by decide +kernel
theorem dX11_inspect_12 : decode cX11_inspect 12 = .ok (.getfield 216, 3) := by decide +kernel
theorem dX11_inspect_15 : decode cX11_inspect 15 = .ok (.iconst 4, 1) := by decide +kernel
theorem dX11_inspect_16 : decode cX11_inspect 16 = .ok (.dup2, 1) := by decide +kernel
theorem dX11_inspect_17 : decode cX11_inspect 17 = .ok (.iaload, 1) := by decide +kernel
theorem dX11_inspect_18 : decode cX11_inspect 18 = .ok (.iload_n 1, 1) := by decide +kernel
theorem dX11_inspect_19 : decode cX11_inspect 19 = .ok (.iadd, 1) := by decide +kernel
theorem dX11_inspect_20 : decode cX11_inspect 20 = .ok (.iastore, 1) := by decide +kernel
theorem dX11_inspect_21 : decode cX11_inspect 21 = .ok (.iload_n 1, 1) := by decide +kernel
theorem dX11_inspect_22 : decode cX11_inspect 22 = .ok (.ireturn, 1) := by decide +kernel
theorem dX11_led_0 : decode cX11_led 0 = .ok (.iload_n 1, 1) := by decide +kernel
theorem dX11_led_1 : decode cX11_led 1 = .ok (.iconst 0, 1) := by decide +kernel
theorem dX11_led_2 : decode cX11_led 2 = .ok (.iconst 5, 1) := by decide +kernel
theorem dX11_led_3 : decode cX11_led 3 = .ok (.invokestatic 99, 3) := by decide +kernel
theorem dX11_led_6 : decode cX11_led 6 = .ok (.ifCond .eq 15, 3) := by decide +kernel
theorem dX11_led_9 : decode cX11_led 9 = .ok (.aload_n 0, 1) := by decide +kernel
theorem dX11_led_10 : decode cX11_led 10 = .ok (.getfield 32, 3) := by decide +kernel
theorem dX11_led_13 : decode cX11_led 13 = .ok (.getfield 216, 3) := by decide +kernel
theorem dX11_led_16 : decode cX11_led 16 = .ok (.iload_n 1, 1) := by decide +kernel
theorem dX11_led_17 : decode cX11_led 17 = .ok (.iaload, 1) := by decide +kernel
theorem dX11_led_18 : decode cX11_led 18 = .ok (.goto 4, 3) := by decide +kernel
theorem dX11_led_21 : decode cX11_led 21 = .ok (.iconst (-1), 1) := by decide +kernel
theorem dX11_led_22 : decode cX11_led 22 = .ok (.ireturn, 1) := by decide +kernel
theorem dX11_image_0 : decode cX11_image 0 = .ok (.aload_n 0, 1) := by decide +kernel
theorem dX11_image_1 : decode cX11_image 1 = .ok (.iconst 1, 1) := by decide +kernel
theorem dX11_image_2 : decode cX11_image 2 = .ok (.putfield 284, 3) := by decide +kernel
theorem dX11_image_5 : decode cX11_image 5 = .ok (.aload_n 0, 1) := by decide +kernel
theorem dX11_image_6 : decode cX11_image 6 = .ok (.aload_n 0, 1) := by decide +kernel
theorem dX11_image_7 : decode cX11_image 7 = .ok (.getfield 26, 3) := by decide +kernel
theorem dX11_image_10 : decode cX11_image 10 = .ok (.getfield 103, 3) := by decide +kernel
theorem dX11_image_13 : decode cX11_image 13 = .ok (.putfield 288, 3) := by decide +kernel
theorem dX11_image_16 : decode cX11_image 16 = .ok (.aload_n 0, 1) := by decide +kernel
theorem dX11_image_17 : decode cX11_image 17 = .ok (.aload_n 0, 1) := by decide +kernel
theorem dX11_image_18 : decode cX11_image 18 = .ok (.getfield 26, 3) := by decide +kernel
theorem dX11_image_21 : decode cX11_image 21 = .ok (.getfield 115, 3) := by decide +kernel
theorem dX11_image_24 : decode cX11_image 24 = .ok (.putfield 291, 3) := by decide +kernel
theorem dX11_image_27 : decode cX11_image 27 = .ok (.aload_n 0, 1) := by decide +kernel
theorem dX11_image_28 : decode cX11_image 28 = .ok (.getfield 36, 3) := by decide +kernel
theorem dX11_image_31 : decode cX11_image 31 = .ok (.aload_n 0, 1) := by decide +kernel
theorem dX11_image_32 : decode cX11_image 32 = .ok (.getfield 32, 3) := by decide +kernel
theorem dX11_image_35 : decode cX11_image 35 = .ok (.aload_n 0, 1) := by decide +kernel
theorem dX11_image_36 : decode cX11_image 36 = .ok (.getfield 288, 3) := by decide +kernel
theorem dX11_image_39 : decode cX11_image 39 = .ok (.aload_n 0, 1) := by decide +kernel
theorem dX11_image_40 : decode cX11_image 40 = .ok (.getfield 291, 3) := by decide +kernel
theorem dX11_image_43 : decode cX11_image 43 = .ok (.invokevirtual 294, 3) := by decide +kernel
theorem dX11_image_46 : decode cX11_image 46 = .ok (.aload_n 0, 1) := by decide +kernel
theorem dX11_image_47 : decode cX11_image 47 = .ok (.getfield 32, 3) := by decide +kernel
theorem dX11_image_50 : decode cX11_image 50 = .ok (.getfield 216, 3) := by decide +kernel
theorem dX11_image_53 : decode cX11_image 53 = .ok (.iconst 1, 1) := by decide +kernel
theorem dX11_image_54 : decode cX11_image 54 = .ok (.iaload, 1) := by decide +kernel
theorem dX11_image_55 : decode cX11_image 55 = .ok (.ireturn, 1) := by decide +kernel
theorem dX11_back_0 : decode cX11_back 0 = .ok (.aload_n 0, 1) := by decide +kernel
theorem dX11_back_1 : decode cX11_back 1 = .ok (.getfield 284, 3) := by decide +kernel
theorem dX11_back_4 : decode cX11_back 4 = .ok (.ifCond .ne 6, 3) := by decide +kernel
theorem dX11_back_7 : decode cX11_back 7 = .ok (.bipush (-5), 2) := by decide +kernel
theorem dX11_back_9 : decode cX11_back 9 = .ok (.ireturn, 1) := by decide +kernel
theorem dX11_back_10 : decode cX11_back 10 = .ok (.aload_n 0, 1) := by decide +kernel
theorem dX11_back_11 : decode cX11_back 11 = .ok (.getfield 32, 3) := by decide +kernel
theorem dX11_back_14 : decode cX11_back 14 = .ok (.aload_n 0, 1) := by decide +kernel
theorem dX11_back_15 : decode cX11_back 15 = .ok (.getfield 36, 3) := by decide +kernel
theorem dX11_back_18 : decode cX11_back 18 = .ok (.aload_n 0, 1) := by decide +kernel
theorem dX11_back_19 : decode cX11_back 19 = .ok (.getfield 288, 3) := by decide +kernel
theorem dX11_back_22 : decode cX11_back 22 = .ok (.aload_n 0, 1) := by decide +kernel
theorem dX11_back_23 : decode cX11_back 23 = .ok (.getfield 291, 3) := by decide +kernel
theorem dX11_back_26 : decode cX11_back 26 = .ok (.invokevirtual 294, 3) := by decide +kernel
theorem dX11_back_29 : decode cX11_back 29 = .ok (.aload_n 0, 1) := by decide +kernel
theorem dX11_back_30 : decode cX11_back 30 = .ok (.getfield 32, 3) := by decide +kernel
theorem dX11_back_33 : decode cX11_back 33 = .ok (.getfield 216, 3) := by decide +kernel
theorem dX11_back_36 : decode cX11_back 36 = .ok (.iconst 1, 1) := by decide +kernel
theorem dX11_back_37 : decode cX11_back 37 = .ok (.iaload, 1) := by decide +kernel
theorem dX11_back_38 : decode cX11_back 38 = .ok (.ireturn, 1) := by decide +kernel
theorem dX11_undo_0 : decode cX11_undo 0 = .ok (.aload_n 0, 1) := by decide +kernel
theorem dX11_undo_1 : decode cX11_undo 1 = .ok (.getfield 48, 3) := by decide +kernel
theorem dX11_undo_4 : decode cX11_undo 4 = .ok (.invokevirtual 297, 3) := by decide +kernel
theorem dX11_undo_7 : decode cX11_undo 7 = .ok (.ifCond .eq 13, 3) := by decide +kernel
theorem dX11_undo_10 : decode cX11_undo 10 = .ok (.aload_n 0, 1) := by decide +kernel
theorem dX11_undo_11 : decode cX11_undo 11 = .ok (.getfield 48, 3) := by decide +kernel
theorem dX11_undo_14 : decode cX11_undo 14 = .ok (.getfield 301, 3) := by decide +kernel
theorem dX11_undo_17 : decode cX11_undo 17 = .ok (.goto 5, 3) := by decide +kernel
theorem dX11_undo_20 : decode cX11_undo 20 = .ok (.bipush (-5), 2) := by decide +kernel
theorem dX11_undo_22 : decode cX11_undo 22 = .ok (.ireturn, 1) := by decide +kernel
theorem dX11_redo_0 : decode cX11_redo 0 = .ok (.aload_n 0, 1) := by decide +kernel
theorem dX11_redo_1 : decode cX11_redo 1 = .ok (.getfield 48, 3) := by decide +kernel
theorem dX11_redo_4 : decode cX11_redo 4 = .ok (.invokevirtual 304, 3) := by decide +kernel
theorem dX11_redo_7 : decode cX11_redo 7 = .ok (.ifCond .eq 21, 3) := by decide +kernel
theorem dX11_redo_10 : decode cX11_redo 10 = .ok (.aload_n 0, 1) := by decide +kernel
theorem dX11_redo_11 : decode cX11_redo 11 = .ok (.getfield 48, 3) := by decide +kernel
theorem dX11_redo_14 : decode cX11_redo 14 = .ok (.getfield 307, 3) := by decide +kernel
theorem dX11_redo_17 : decode cX11_redo 17 = .ok (.aload_n 0, 1) := by decide +kernel
theorem dX11_redo_18 : decode cX11_redo 18 = .ok (.getfield 48, 3) := by decide +kernel
theorem dX11_redo_21 : decode cX11_redo 21 = .ok (.getfield 301, 3) := by decide +kernel
theorem dX11_redo_24 : decode cX11_redo 24 = .ok (.isub, 1) := by decide +kernel
theorem dX11_redo_25 : decode cX11_redo 25 = .ok (.goto 5, 3) := by decide +kernel
theorem dX11_redo_28 : decode cX11_redo 28 = .ok (.bipush (-5), 2) := by decide +kernel
theorem dX11_redo_30 : decode cX11_redo 30 = .ok (.ireturn, 1) := by decide +kernel
theorem dX11_body_0 : decode cX11_body 0 = .ok (.iload_n 1, 1) := by decide +kernel
theorem dX11_body_1 : decode cX11_body 1 = .ok (.iconst 0, 1) := by decide +kernel
theorem dX11_body_2 : decode cX11_body 2 = .ok (.bipush 7, 2) := by decide +kernel
theorem dX11_body_4 : decode cX11_body 4 = .ok (.invokestatic 99, 3) := by decide +kernel
theorem dX11_body_7 : decode cX11_body 7 = .ok (.ifCond .ne 5, 3) := by decide +kernel
theorem dX11_body_10 : decode cX11_body 10 = .ok (.iconst (-1), 1) := by decide +kernel
theorem dX11_body_11 : decode cX11_body 11 = .ok (.ireturn, 1) := by decide +kernel
theorem dX11_body_12 : decode cX11_body 12 = .ok (.aload_n 0, 1) := by decide +kernel
theorem dX11_body_13 : decode cX11_body 13 = .ok (.getfield 91, 3) := by decide +kernel
theorem dX11_body_16 : decode cX11_body 16 = .ok (.iload_n 1, 1) := by decide +kernel
theorem dX11_body_17 : decode cX11_body 17 = .ok (.invokevirtual 310, 3) := by decide +kernel
theorem dX11_body_20 : decode cX11_body 20 = .ok (.ireturn, 1) := by decide +kernel
theorem dX11_act_0 : decode cX11_act 0 = .ok (.aload_n 0, 1) := by decide +kernel
theorem dX11_act_1 : decode cX11_act 1 = .ok (.getfield 91, 3) := by decide +kernel
theorem dX11_act_4 : decode cX11_act 4 = .ok (.iload_n 1, 1) := by decide +kernel
theorem dX11_act_5 : decode cX11_act 5 = .ok (.iload_n 2, 1) := by decide +kernel
theorem dX11_act_6 : decode cX11_act 6 = .ok (.iload_n 3, 1) := by decide +kernel
theorem dX11_act_7 : decode cX11_act 7 = .ok (.invokevirtual 312, 3) := by decide +kernel
theorem dX11_act_10 : decode cX11_act 10 = .ok (.ireturn, 1) := by decide +kernel
theorem dX11_trace_0 : decode cX11_trace 0 = .ok (.iload_n 1, 1) := by decide +kernel
theorem dX11_trace_1 : decode cX11_trace 1 = .ok (.ifCond .lt 26, 3) := by decide +kernel
theorem dX11_trace_4 : decode cX11_trace 4 = .ok (.iload_n 1, 1) := by decide +kernel
theorem dX11_trace_5 : decode cX11_trace 5 = .ok (.aload_n 0, 1) := by decide +kernel
theorem dX11_trace_6 : decode cX11_trace 6 = .ok (.getfield 91, 3) := by decide +kernel
theorem dX11_trace_9 : decode cX11_trace 9 = .ok (.invokevirtual 316, 3) := by decide +kernel
theorem dX11_trace_12 : decode cX11_trace 12 = .ok (.if_icmp .ge 15, 3) := by decide +kernel
theorem dX11_trace_15 : decode cX11_trace 15 = .ok (.aload_n 0, 1) := by decide +kernel
theorem dX11_trace_16 : decode cX11_trace 16 = .ok (.getfield 91, 3) := by decide +kernel
theorem dX11_trace_19 : decode cX11_trace 19 = .ok (.getfield 319, 3) := by decide +kernel
theorem dX11_trace_22 : decode cX11_trace 22 = .ok (.iload_n 1, 1) := by decide +kernel
theorem dX11_trace_23 : decode cX11_trace 23 = .ok (.iaload, 1) := by decide +kernel
theorem dX11_trace_24 : decode cX11_trace 24 = .ok (.goto 4, 3) := by decide +kernel
theorem dX11_trace_27 : decode cX11_trace 27 = .ok (.iconst (-1), 1) := by decide +kernel
theorem dX11_trace_28 : decode cX11_trace 28 = .ok (.ireturn, 1) := by decide +kernel
theorem dX11_keep_0 : decode cX11_keep 0 = .ok (.iload_n 1, 1) := by decide +kernel
theorem dX11_keep_1 : decode cX11_keep 1 = .ok (.invokestatic 322, 3) := by decide +kernel
theorem dX11_keep_4 : decode cX11_keep 4 = .ok (.ifCond .ne 5, 3) := by decide +kernel
theorem dX11_keep_7 : decode cX11_keep 7 = .ok (.iconst (-1), 1) := by decide +kernel
theorem dX11_keep_8 : decode cX11_keep 8 = .ok (.ireturn, 1) := by decide +kernel
theorem dX11_keep_9 : decode cX11_keep 9 = .ok (.iload_n 2, 1) := by decide +kernel
theorem dX11_keep_10 : decode cX11_keep 10 = .ok (.iconst (-1), 1) := by decide +kernel
theorem dX11_keep_11 : decode cX11_keep 11 = .ok (.if_icmp .ne 14, 3) := by decide +kernel
theorem dX11_keep_14 : decode cX11_keep 14 = .ok (.aload_n 0, 1) := by decide +kernel
theorem dX11_keep_15 : decode cX11_keep 15 = .ok (.getfield 95, 3) := by decide +kernel
theorem dX11_keep_18 : decode cX11_keep 18 = .ok (.iload_n 1, 1) := by decide +kernel
theorem dX11_keep_19 : decode cX11_keep 19 = .ok (.invokevirtual 325, 3) := by decide +kernel
theorem dX11_keep_22 : decode cX11_keep 22 = .ok (.goto 28, 3) := by decide +kernel
theorem dX11_keep_25 : decode cX11_keep 25 = .ok (.aload_n 0, 1) := by decide +kernel
theorem dX11_keep_26 : decode cX11_keep 26 = .ok (.getfield 91, 3) := by decide +kernel
theorem dX11_keep_29 : decode cX11_keep 29 = .ok (.iload_n 2, 1) := by decide +kernel
theorem dX11_keep_30 : decode cX11_keep 30 = .ok (.invokevirtual 328, 3) := by decide +kernel
theorem dX11_keep_33 : decode cX11_keep 33 = .ok (.ifCond .eq 15, 3) := by decide +kernel
theorem dX11_keep_36 : decode cX11_keep 36 = .ok (.aload_n 0, 1) := by decide +kernel
theorem dX11_keep_37 : decode cX11_keep 37 = .ok (.getfield 95, 3) := by decide +kernel
theorem dX11_keep_40 : decode cX11_keep 40 = .ok (.iload_n 1, 1) := by decide +kernel
theorem dX11_keep_41 : decode cX11_keep 41 = .ok (.iload_n 2, 1) := by decide +kernel
theorem dX11_keep_42 : decode cX11_keep 42 = .ok (.invokevirtual 331, 3) := by decide +kernel
theorem dX11_keep_45 : decode cX11_keep 45 = .ok (.goto 5, 3) := by decide +kernel
theorem dX11_keep_48 : decode cX11_keep 48 = .ok (.iconst (-1), 1) := by decide +kernel
theorem dX11_keep_49 : decode cX11_keep 49 = .ok (.ireturn, 1) := by decide +kernel
theorem dX11_keep_50 : decode cX11_keep 50 = .ok (.iconst 1, 1) := by decide +kernel
theorem dX11_keep_51 : decode cX11_keep 51 = .ok (.ireturn, 1) := by decide +kernel
theorem dX11_row_0 : decode cX11_row 0 = .ok (.iload_n 1, 1) := by decide +kernel
theorem dX11_row_1 : decode cX11_row 1 = .ok (.invokestatic 322, 3) := by decide +kernel
theorem dX11_row_4 : decode cX11_row 4 = .ok (.ifCond .eq 18, 3) := by decide +kernel
theorem dX11_row_7 : decode cX11_row 7 = .ok (.iload_n 2, 1) := by decide +kernel
theorem dX11_row_8 : decode cX11_row 8 = .ok (.iconst 0, 1) := by decide +kernel
theorem dX11_row_9 : decode cX11_row 9 = .ok (.iconst 4, 1) := by decide +kernel
theorem dX11_row_10 : decode cX11_row 10 = .ok (.invokestatic 99, 3) := by decide +kernel
theorem dX11_row_13 : decode cX11_row 13 = .ok (.ifCond .eq 9, 3) := by decide +kernel
theorem dX11_row_16 : decode cX11_row 16 = .ok (.iload_n 3, 1) := by decide +kernel
theorem dX11_row_17 : decode cX11_row 17 = .ok (.bipush 60, 2) := by decide +kernel
theorem dX11_row_19 : decode cX11_row 19 = .ok (.if_icmp .le 5, 3) := by decide +kernel
theorem dX11_row_22 : decode cX11_row 22 = .ok (.iconst (-1), 1) := by decide +kernel
theorem dX11_row_23 : decode cX11_row 23 = .ok (.ireturn, 1) := by decide +kernel
theorem dX11_row_24 : decode cX11_row 24 = .ok (.iload_n 3, 1) := by decide +kernel
theorem dX11_row_25 : decode cX11_row 25 = .ok (.ifCond .ge 6, 3) := by decide +kernel
theorem dX11_row_28 : decode cX11_row 28 = .ok (.bipush (-14), 2) := by decide +kernel
theorem dX11_row_30 : decode cX11_row 30 = .ok (.ireturn, 1) := by decide +kernel
theorem dX11_row_31 : decode cX11_row 31 = .ok (.aload_n 0, 1) := by decide +kernel
theorem dX11_row_32 : decode cX11_row 32 = .ok (.getfield 95, 3) := by decide +kernel
theorem dX11_row_35 : decode cX11_row 35 = .ok (.iload_n 1, 1) := by decide +kernel
theorem dX11_row_36 : decode cX11_row 36 = .ok (.iload_n 2, 1) := by decide +kernel
theorem dX11_row_37 : decode cX11_row 37 = .ok (.iload_n 3, 1) := by decide +kernel
theorem dX11_row_38 : decode cX11_row 38 = .ok (.invokevirtual 334, 3) := by decide +kernel
theorem dX11_row_41 : decode cX11_row 41 = .ok (.iconst 1, 1) := by decide +kernel
theorem dX11_row_42 : decode cX11_row 42 = .ok (.ireturn, 1) := by decide +kernel
theorem dX11_put_0 : decode cX11_put 0 = .ok (.aload_n 0, 1) := by decide +kernel
theorem dX11_put_1 : decode cX11_put 1 = .ok (.getfield 95, 3) := by decide +kernel
theorem dX11_put_4 : decode cX11_put 4 = .ok (.iload_n 1, 1) := by decide +kernel
theorem dX11_put_5 : decode cX11_put 5 = .ok (.iload_n 2, 1) := by decide +kernel
theorem dX11_put_6 : decode cX11_put 6 = .ok (.invokevirtual 337, 3) := by decide +kernel
theorem dX11_put_9 : decode cX11_put 9 = .ok (.istore 5, 2) := by decide +kernel
theorem dX11_put_11 : decode cX11_put 11 = .ok (.iload 5, 2) := by decide +kernel
theorem dX11_put_13 : decode cX11_put 13 = .ok (.ifCond .eq 6, 3) := by decide +kernel
theorem dX11_put_16 : decode cX11_put 16 = .ok (.iload 5, 2) := by decide +kernel
theorem dX11_put_18 : decode cX11_put 18 = .ok (.ireturn, 1) := by decide +kernel
theorem dX11_put_19 : decode cX11_put 19 = .ok (.aload_n 0, 1) := by decide +kernel
theorem dX11_put_20 : decode cX11_put 20 = .ok (.getfield 95, 3) := by decide +kernel
theorem dX11_put_23 : decode cX11_put 23 = .ok (.iload_n 1, 1) := by decide +kernel
theorem dX11_put_24 : decode cX11_put 24 = .ok (.iload_n 2, 1) := by decide +kernel
theorem dX11_put_25 : decode cX11_put 25 = .ok (.lload_n 3, 1) := by decide +kernel
theorem dX11_put_26 : decode cX11_put 26 = .ok (.invokevirtual 340, 3) := by decide +kernel
theorem dX11_put_29 : decode cX11_put 29 = .ok (.iconst 1, 1) := by decide +kernel
theorem dX11_put_30 : decode cX11_put 30 = .ok (.ireturn, 1) := by decide +kernel
theorem dX11_element_0 : decode cX11_element 0 = .ok (.aload_n 0, 1) := by decide +kernel
theorem dX11_element_1 : decode cX11_element 1 = .ok (.getfield 95, 3) := by decide +kernel
theorem dX11_element_4 : decode cX11_element 4 = .ok (.iload_n 1, 1) := by decide +kernel
theorem dX11_element_5 : decode cX11_element 5 = .ok (.iload_n 2, 1) := by decide +kernel
theorem dX11_element_6 : decode cX11_element 6 = .ok (.invokevirtual 337, 3) := by decide +kernel
theorem dX11_element_9 : decode cX11_element 9 = .ok (.ifCond .eq 9, 3) := by decide +kernel
theorem dX11_element_12 : decode cX11_element 12 = .ok (.ldc2_w 346, 3) := by decide +kernel
theorem dX11_element_15 : decode cX11_element 15 = .ok (.goto 12, 3) := by decide +kernel
theorem dX11_element_18 : decode cX11_element 18 = .ok (.aload_n 0, 1) := by decide +kernel
theorem dX11_element_19 : decode cX11_element 19 = .ok (.getfield 95, 3) := by decide +kernel
theorem dX11_element_22 : decode cX11_element 22 = .ok (.iload_n 1, 1) := by decide +kernel
theorem dX11_element_23 : decode cX11_element 23 = .ok (.iload_n 2, 1) := by decide +kernel
theorem dX11_element_24 : decode cX11_element 24 = .ok (.invokevirtual 133, 3) := by decide +kernel
theorem dX11_element_27 : decode cX11_element 27 = .ok (.lreturn, 1) := by decide +kernel
theorem dX11_shift_0 : decode cX11_shift 0 = .ok (.aload_n 0, 1) := by decide +kernel
theorem dX11_shift_1 : decode cX11_shift 1 = .ok (.getfield 95, 3) := by decide +kernel
theorem dX11_shift_4 : decode cX11_shift 4 = .ok (.iload_n 1, 1) := by decide +kernel
theorem dX11_shift_5 : decode cX11_shift 5 = .ok (.iload_n 3, 1) := by decide +kernel
theorem dX11_shift_6 : decode cX11_shift 6 = .ok (.invokevirtual 348, 3) := by decide +kernel
theorem dX11_shift_9 : decode cX11_shift 9 = .ok (.istore 6, 2) := by decide +kernel
theorem dX11_shift_11 : decode cX11_shift 11 = .ok (.iload 6, 2) := by decide +kernel
theorem dX11_shift_13 : decode cX11_shift 13 = .ok (.ifCond .eq 6, 3) := by decide +kernel
theorem dX11_shift_16 : decode cX11_shift 16 = .ok (.iload 6, 2) := by decide +kernel
theorem dX11_shift_18 : decode cX11_shift 18 = .ok (.ireturn, 1) := by decide +kernel
theorem dX11_shift_19 : decode cX11_shift 19 = .ok (.aload_n 0, 1) := by decide +kernel
theorem dX11_shift_20 : decode cX11_shift 20 = .ok (.getfield 95, 3) := by decide +kernel
theorem dX11_shift_23 : decode cX11_shift 23 = .ok (.iload_n 1, 1) := by decide +kernel
theorem dX11_shift_24 : decode cX11_shift 24 = .ok (.iload_n 2, 1) := by decide +kernel
theorem dX11_shift_25 : decode cX11_shift 25 = .ok (.iload 5, 2) := by decide +kernel
theorem dX11_shift_27 : decode cX11_shift 27 = .ok (.invokevirtual 351, 3) := by decide +kernel
theorem dX11_shift_30 : decode cX11_shift 30 = .ok (.ifCond .eq 18, 3) := by decide +kernel
theorem dX11_shift_33 : decode cX11_shift 33 = .ok (.aload_n 0, 1) := by decide +kernel
theorem dX11_shift_34 : decode cX11_shift 34 = .ok (.getfield 95, 3) := by decide +kernel
theorem dX11_shift_37 : decode cX11_shift 37 = .ok (.iload_n 3, 1) := by decide +kernel
theorem dX11_shift_38 : decode cX11_shift 38 = .ok (.iload 4, 2) := by decide +kernel
theorem dX11_shift_40 : decode cX11_shift 40 = .ok (.iload 5, 2) := by decide +kernel
theorem dX11_shift_42 : decode cX11_shift 42 = .ok (.invokevirtual 351, 3) := by decide +kernel
theorem dX11_shift_45 : decode cX11_shift 45 = .ok (.ifCond .ne 6, 3) := by decide +kernel
theorem dX11_shift_48 : decode cX11_shift 48 = .ok (.bipush (-13), 2) := by decide +kernel
theorem dX11_shift_50 : decode cX11_shift 50 = .ok (.ireturn, 1) := by decide +kernel
theorem dX11_shift_51 : decode cX11_shift 51 = .ok (.aload_n 0, 1) := by decide +kernel
theorem dX11_shift_52 : decode cX11_shift 52 = .ok (.getfield 95, 3) := by decide +kernel
theorem dX11_shift_55 : decode cX11_shift 55 = .ok (.iload_n 1, 1) := by decide +kernel
theorem dX11_shift_56 : decode cX11_shift 56 = .ok (.iload_n 2, 1) := by decide +kernel
theorem dX11_shift_57 : decode cX11_shift 57 = .ok (.iload_n 3, 1) := by decide +kernel
theorem dX11_shift_58 : decode cX11_shift 58 = .ok (.iload 4, 2) := by decide +kernel
theorem dX11_shift_60 : decode cX11_shift 60 = .ok (.iload 5, 2) := by decide +kernel
theorem dX11_shift_62 : decode cX11_shift 62 = .ok (.invokevirtual 354, 3) := by decide +kernel
theorem dX11_shift_65 : decode cX11_shift 65 = .ok (.iload 5, 2) := by decide +kernel
theorem dX11_shift_67 : decode cX11_shift 67 = .ok (.ireturn, 1) := by decide +kernel
theorem dX11_taken_0 : decode cX11_taken 0 = .ok (.iload_n 1, 1) := by decide +kernel
theorem dX11_taken_1 : decode cX11_taken 1 = .ok (.invokestatic 322, 3) := by decide +kernel
theorem dX11_taken_4 : decode cX11_taken 4 = .ok (.ifCond .eq 13, 3) := by decide +kernel
theorem dX11_taken_7 : decode cX11_taken 7 = .ok (.iload_n 2, 1) := by decide +kernel
theorem dX11_taken_8 : decode cX11_taken 8 = .ok (.iconst 0, 1) := by decide +kernel
theorem dX11_taken_9 : decode cX11_taken 9 = .ok (.bipush 7, 2) := by decide +kernel
theorem dX11_taken_11 : decode cX11_taken 11 = .ok (.invokestatic 99, 3) := by decide +kernel
theorem dX11_taken_14 : decode cX11_taken 14 = .ok (.ifCond .ne 5, 3) := by decide +kernel
theorem dX11_taken_17 : decode cX11_taken 17 = .ok (.iconst (-1), 1) := by decide +kernel
theorem dX11_taken_18 : decode cX11_taken 18 = .ok (.ireturn, 1) := by decide +kernel
theorem dX11_taken_19 : decode cX11_taken 19 = .ok (.aload_n 0, 1) := by decide +kernel
theorem dX11_taken_20 : decode cX11_taken 20 = .ok (.getfield 95, 3) := by decide +kernel
theorem dX11_taken_23 : decode cX11_taken 23 = .ok (.iload_n 1, 1) := by decide +kernel
theorem dX11_taken_24 : decode cX11_taken 24 = .ok (.invokevirtual 358, 3) := by decide +kernel
theorem dX11_taken_27 : decode cX11_taken 27 = .ok (.ifCond .eq 6, 3) := by decide +kernel
theorem dX11_taken_30 : decode cX11_taken 30 = .ok (.bipush (-11), 2) := by decide +kernel
theorem dX11_taken_32 : decode cX11_taken 32 = .ok (.ireturn, 1) := by decide +kernel
theorem dX11_taken_33 : decode cX11_taken 33 = .ok (.aload_n 0, 1) := by decide +kernel
theorem dX11_taken_34 : decode cX11_taken 34 = .ok (.getfield 95, 3) := by decide +kernel
theorem dX11_taken_37 : decode cX11_taken 37 = .ok (.iload_n 1, 1) := by decide +kernel
theorem dX11_taken_38 : decode cX11_taken 38 = .ok (.invokevirtual 361, 3) := by decide +kernel
theorem dX11_taken_41 : decode cX11_taken 41 = .ok (.istore_n 3, 1) := by decide +kernel
theorem dX11_taken_42 : decode cX11_taken 42 = .ok (.aload_n 0, 1) := by decide +kernel
theorem dX11_taken_43 : decode cX11_taken 43 = .ok (.getfield 91, 3) := by decide +kernel
theorem dX11_taken_46 : decode cX11_taken 46 = .ok (.iload_n 3, 1) := by decide +kernel
theorem dX11_taken_47 : decode cX11_taken 47 = .ok (.invokevirtual 328, 3) := by decide +kernel
theorem dX11_taken_50 : decode cX11_taken 50 = .ok (.ifCond .eq 31, 3) := by decide +kernel
theorem dX11_taken_53 : decode cX11_taken 53 = .ok (.aload_n 0, 1) := by decide +kernel
theorem dX11_taken_54 : decode cX11_taken 54 = .ok (.getfield 91, 3) := by decide +kernel
theorem dX11_taken_57 : decode cX11_taken 57 = .ok (.getfield 364, 3) := by decide +kernel
theorem dX11_taken_60 : decode cX11_taken 60 = .ok (.iload_n 3, 1) := by decide +kernel
theorem dX11_taken_61 : decode cX11_taken 61 = .ok (.iaload, 1) := by decide +kernel
theorem dX11_taken_62 : decode cX11_taken 62 = .ok (.iload_n 2, 1) := by decide +kernel
theorem dX11_taken_63 : decode cX11_taken 63 = .ok (.invokestatic 367, 3) := by decide +kernel
theorem dX11_taken_66 : decode cX11_taken 66 = .ok (.ifCond .eq 15, 3) := by decide +kernel
theorem dX11_taken_69 : decode cX11_taken 69 = .ok (.aload_n 0, 1) := by decide +kernel
theorem dX11_taken_70 : decode cX11_taken 70 = .ok (.getfield 91, 3) := by decide +kernel
theorem dX11_taken_73 : decode cX11_taken 73 = .ok (.getfield 364, 3) := by decide +kernel
theorem dX11_taken_76 : decode cX11_taken 76 = .ok (.iload_n 3, 1) := by decide +kernel
theorem dX11_taken_77 : decode cX11_taken 77 = .ok (.iaload, 1) := by decide +kernel
theorem dX11_taken_78 : decode cX11_taken 78 = .ok (.goto 5, 3) := by decide +kernel
theorem dX11_taken_81 : decode cX11_taken 81 = .ok (.bipush (-12), 2) := by decide +kernel
theorem dX11_taken_83 : decode cX11_taken 83 = .ok (.ireturn, 1) := by decide +kernel
theorem dX11_count_0 : decode cX11_count 0 = .ok (.iload_n 1, 1) := by decide +kernel
theorem dX11_count_1 : decode cX11_count 1 = .ok (.tableswitch 87 0 5 #[39, 47, 55, 63, 71, 79], 39) := by decide +kernel
theorem dX11_count_40 : decode cX11_count 40 = .ok (.aload_n 0, 1) := by decide +kernel
theorem dX11_count_41 : decode cX11_count 41 = .ok (.getfield 26, 3) := by decide +kernel
theorem dX11_count_44 : decode cX11_count 44 = .ok (.getfield 103, 3) := by decide +kernel
theorem dX11_count_47 : decode cX11_count 47 = .ok (.ireturn, 1) := by decide +kernel
theorem dX11_count_48 : decode cX11_count 48 = .ok (.aload_n 0, 1) := by decide +kernel
theorem dX11_count_49 : decode cX11_count 49 = .ok (.getfield 26, 3) := by decide +kernel
theorem dX11_count_52 : decode cX11_count 52 = .ok (.getfield 115, 3) := by decide +kernel
theorem dX11_count_55 : decode cX11_count 55 = .ok (.ireturn, 1) := by decide +kernel
theorem dX11_count_56 : decode cX11_count 56 = .ok (.aload_n 0, 1) := by decide +kernel
theorem dX11_count_57 : decode cX11_count 57 = .ok (.getfield 55, 3) := by decide +kernel
theorem dX11_count_60 : decode cX11_count 60 = .ok (.getfield 169, 3) := by decide +kernel
theorem dX11_count_63 : decode cX11_count 63 = .ok (.ireturn, 1) := by decide +kernel
theorem dX11_count_64 : decode cX11_count 64 = .ok (.aload_n 0, 1) := by decide +kernel
theorem dX11_count_65 : decode cX11_count 65 = .ok (.getfield 48, 3) := by decide +kernel
theorem dX11_count_68 : decode cX11_count 68 = .ok (.getfield 301, 3) := by decide +kernel
theorem dX11_count_71 : decode cX11_count 71 = .ok (.ireturn, 1) := by decide +kernel
theorem dX11_count_72 : decode cX11_count 72 = .ok (.aload_n 0, 1) := by decide +kernel
theorem dX11_count_73 : decode cX11_count 73 = .ok (.getfield 91, 3) := by decide +kernel
theorem dX11_count_76 : decode cX11_count 76 = .ok (.getfield 370, 3) := by decide +kernel
theorem dX11_count_79 : decode cX11_count 79 = .ok (.ireturn, 1) := by decide +kernel
theorem dX11_count_80 : decode cX11_count 80 = .ok (.aload_n 0, 1) := by decide +kernel
theorem dX11_count_81 : decode cX11_count 81 = .ok (.getfield 91, 3) := by decide +kernel
theorem dX11_count_84 : decode cX11_count 84 = .ok (.getfield 373, 3) := by decide +kernel
theorem dX11_count_87 : decode cX11_count 87 = .ok (.ireturn, 1) := by decide +kernel
theorem dX11_count_88 : decode cX11_count 88 = .ok (.iconst (-1), 1) := by decide +kernel
theorem dX11_count_89 : decode cX11_count 89 = .ok (.ireturn, 1) := by decide +kernel
theorem dX11_isWithin_0 : decode cX11_isWithin 0 = .ok (.iload_n 0, 1) := by decide +kernel
theorem dX11_isWithin_1 : decode cX11_isWithin 1 = .ok (.iload_n 1, 1) := by decide +kernel
theorem dX11_isWithin_2 : decode cX11_isWithin 2 = .ok (.if_icmp .lt 12, 3) := by decide +kernel
theorem dX11_isWithin_5 : decode cX11_isWithin 5 = .ok (.iload_n 0, 1) := by decide +kernel
theorem dX11_isWithin_6 : decode cX11_isWithin 6 = .ok (.iload_n 2, 1) := by decide +kernel
theorem dX11_isWithin_7 : decode cX11_isWithin 7 = .ok (.if_icmp .gt 7, 3) := by decide +kernel
theorem dX11_isWithin_10 : decode cX11_isWithin 10 = .ok (.iconst 1, 1) := by decide +kernel
theorem dX11_isWithin_11 : decode cX11_isWithin 11 = .ok (.goto 4, 3) := by decide +kernel
theorem dX11_isWithin_14 : decode cX11_isWithin 14 = .ok (.iconst 0, 1) := by decide +kernel
theorem dX11_isWithin_15 : decode cX11_isWithin 15 = .ok (.ireturn, 1) := by decide +kernel
theorem dX11_placesApart_0 : decode cX11_placesApart 0 = .ok (.iload_n 0, 1) := by decide +kernel
theorem dX11_placesApart_1 : decode cX11_placesApart 1 = .ok (.iconst 2, 1) := by decide +kernel
theorem dX11_placesApart_2 : decode cX11_placesApart 2 = .ok (.idiv, 1) := by decide +kernel
theorem dX11_placesApart_3 : decode cX11_placesApart 3 = .ok (.iload_n 1, 1) := by decide +kernel
theorem dX11_placesApart_4 : decode cX11_placesApart 4 = .ok (.iconst 2, 1) := by decide +kernel
theorem dX11_placesApart_5 : decode cX11_placesApart 5 = .ok (.idiv, 1) := by decide +kernel
theorem dX11_placesApart_6 : decode cX11_placesApart 6 = .ok (.isub, 1) := by decide +kernel
theorem dX11_placesApart_7 : decode cX11_placesApart 7 = .ok (.invokestatic 376, 3) := by decide +kernel
theorem dX11_placesApart_10 : decode cX11_placesApart 10 = .ok (.ireturn, 1) := by decide +kernel
theorem dJ6_bitCount_0f7a4_0 : decode cJ6_bitCount_0f7a4 0 = .ok (.iload_n 0, 1) := by decide +kernel
theorem dJ6_bitCount_0f7a4_1 : decode cJ6_bitCount_0f7a4 1 = .ok (.iload_n 0, 1) := by decide +kernel
theorem dJ6_bitCount_0f7a4_2 : decode cJ6_bitCount_0f7a4 2 = .ok (.iconst 1, 1) := by decide +kernel
theorem dJ6_bitCount_0f7a4_3 : decode cJ6_bitCount_0f7a4 3 = .ok (.iushr, 1) := by decide +kernel
theorem dJ6_bitCount_0f7a4_4 : decode cJ6_bitCount_0f7a4 4 = .ok (.ldc_w 265, 3) := by decide +kernel
theorem dJ6_bitCount_0f7a4_7 : decode cJ6_bitCount_0f7a4 7 = .ok (.iand, 1) := by decide +kernel
theorem dJ6_bitCount_0f7a4_8 : decode cJ6_bitCount_0f7a4 8 = .ok (.isub, 1) := by decide +kernel
theorem dJ6_bitCount_0f7a4_9 : decode cJ6_bitCount_0f7a4 9 = .ok (.istore_n 0, 1) := by decide +kernel
theorem dJ6_bitCount_0f7a4_10 : decode cJ6_bitCount_0f7a4 10 = .ok (.iload_n 0, 1) := by decide +kernel
theorem dJ6_bitCount_0f7a4_11 : decode cJ6_bitCount_0f7a4 11 = .ok (.ldc_w 266, 3) := by decide +kernel
theorem dJ6_bitCount_0f7a4_14 : decode cJ6_bitCount_0f7a4 14 = .ok (.iand, 1) := by decide +kernel
theorem dJ6_bitCount_0f7a4_15 : decode cJ6_bitCount_0f7a4 15 = .ok (.iload_n 0, 1) := by decide +kernel
theorem dJ6_bitCount_0f7a4_16 : decode cJ6_bitCount_0f7a4 16 = .ok (.iconst 2, 1) := by decide +kernel
theorem dJ6_bitCount_0f7a4_17 : decode cJ6_bitCount_0f7a4 17 = .ok (.iushr, 1) := by decide +kernel
theorem dJ6_bitCount_0f7a4_18 : decode cJ6_bitCount_0f7a4 18 = .ok (.ldc_w 266, 3) := by decide +kernel
theorem dJ6_bitCount_0f7a4_21 : decode cJ6_bitCount_0f7a4 21 = .ok (.iand, 1) := by decide +kernel
theorem dJ6_bitCount_0f7a4_22 : decode cJ6_bitCount_0f7a4 22 = .ok (.iadd, 1) := by decide +kernel
theorem dJ6_bitCount_0f7a4_23 : decode cJ6_bitCount_0f7a4 23 = .ok (.istore_n 0, 1) := by decide +kernel
theorem dJ6_bitCount_0f7a4_24 : decode cJ6_bitCount_0f7a4 24 = .ok (.iload_n 0, 1) := by decide +kernel
theorem dJ6_bitCount_0f7a4_25 : decode cJ6_bitCount_0f7a4 25 = .ok (.iload_n 0, 1) := by decide +kernel
theorem dJ6_bitCount_0f7a4_26 : decode cJ6_bitCount_0f7a4 26 = .ok (.iconst 4, 1) := by decide +kernel
theorem dJ6_bitCount_0f7a4_27 : decode cJ6_bitCount_0f7a4 27 = .ok (.iushr, 1) := by decide +kernel
theorem dJ6_bitCount_0f7a4_28 : decode cJ6_bitCount_0f7a4 28 = .ok (.iadd, 1) := by decide +kernel
theorem dJ6_bitCount_0f7a4_29 : decode cJ6_bitCount_0f7a4 29 = .ok (.ldc_w 267, 3) := by decide +kernel
theorem dJ6_bitCount_0f7a4_32 : decode cJ6_bitCount_0f7a4 32 = .ok (.iand, 1) := by decide +kernel
theorem dJ6_bitCount_0f7a4_33 : decode cJ6_bitCount_0f7a4 33 = .ok (.istore_n 0, 1) := by decide +kernel
theorem dJ6_bitCount_0f7a4_34 : decode cJ6_bitCount_0f7a4 34 = .ok (.iload_n 0, 1) := by decide +kernel
theorem dJ6_bitCount_0f7a4_35 : decode cJ6_bitCount_0f7a4 35 = .ok (.iload_n 0, 1) := by decide +kernel
theorem dJ6_bitCount_0f7a4_36 : decode cJ6_bitCount_0f7a4 36 = .ok (.bipush 8, 2) := by decide +kernel
theorem dJ6_bitCount_0f7a4_38 : decode cJ6_bitCount_0f7a4 38 = .ok (.iushr, 1) := by decide +kernel
theorem dJ6_bitCount_0f7a4_39 : decode cJ6_bitCount_0f7a4 39 = .ok (.iadd, 1) := by decide +kernel
theorem dJ6_bitCount_0f7a4_40 : decode cJ6_bitCount_0f7a4 40 = .ok (.istore_n 0, 1) := by decide +kernel
theorem dJ6_bitCount_0f7a4_41 : decode cJ6_bitCount_0f7a4 41 = .ok (.iload_n 0, 1) := by decide +kernel
theorem dJ6_bitCount_0f7a4_42 : decode cJ6_bitCount_0f7a4 42 = .ok (.iload_n 0, 1) := by decide +kernel
theorem dJ6_bitCount_0f7a4_43 : decode cJ6_bitCount_0f7a4 43 = .ok (.bipush 16, 2) := by decide +kernel
theorem dJ6_bitCount_0f7a4_45 : decode cJ6_bitCount_0f7a4 45 = .ok (.iushr, 1) := by decide +kernel
theorem dJ6_bitCount_0f7a4_46 : decode cJ6_bitCount_0f7a4 46 = .ok (.iadd, 1) := by decide +kernel
theorem dJ6_bitCount_0f7a4_47 : decode cJ6_bitCount_0f7a4 47 = .ok (.istore_n 0, 1) := by decide +kernel
theorem dJ6_bitCount_0f7a4_48 : decode cJ6_bitCount_0f7a4 48 = .ok (.iload_n 0, 1) := by decide +kernel
theorem dJ6_bitCount_0f7a4_49 : decode cJ6_bitCount_0f7a4 49 = .ok (.bipush 63, 2) := by decide +kernel
theorem dJ6_bitCount_0f7a4_51 : decode cJ6_bitCount_0f7a4 51 = .ok (.iand, 1) := by decide +kernel
theorem dJ6_bitCount_0f7a4_52 : decode cJ6_bitCount_0f7a4 52 = .ok (.ireturn, 1) := by decide +kernel
theorem dJ9_abs_0f7a4_0 : decode cJ9_abs_0f7a4 0 = .ok (.iload_n 0, 1) := by decide +kernel
theorem dJ9_abs_0f7a4_1 : decode cJ9_abs_0f7a4 1 = .ok (.ifCond .ge 8, 3) := by decide +kernel
theorem dJ9_abs_0f7a4_4 : decode cJ9_abs_0f7a4 4 = .ok (.iload_n 0, 1) := by decide +kernel
theorem dJ9_abs_0f7a4_5 : decode cJ9_abs_0f7a4 5 = .ok (.ineg, 1) := by decide +kernel
theorem dJ9_abs_0f7a4_6 : decode cJ9_abs_0f7a4 6 = .ok (.goto 4, 3) := by decide +kernel
theorem dJ9_abs_0f7a4_9 : decode cJ9_abs_0f7a4 9 = .ok (.iload_n 0, 1) := by decide +kernel
theorem dJ9_abs_0f7a4_10 : decode cJ9_abs_0f7a4 10 = .ok (.ireturn, 1) := by decide +kernel
theorem dJ9_max_7cf53_0 : decode cJ9_max_7cf53 0 = .ok (.iload_n 0, 1) := by decide +kernel
theorem dJ9_max_7cf53_1 : decode cJ9_max_7cf53 1 = .ok (.iload_n 1, 1) := by decide +kernel
theorem dJ9_max_7cf53_2 : decode cJ9_max_7cf53 2 = .ok (.if_icmp .lt 7, 3) := by decide +kernel
theorem dJ9_max_7cf53_5 : decode cJ9_max_7cf53 5 = .ok (.iload_n 0, 1) := by decide +kernel
theorem dJ9_max_7cf53_6 : decode cJ9_max_7cf53 6 = .ok (.goto 4, 3) := by decide +kernel
theorem dJ9_max_7cf53_9 : decode cJ9_max_7cf53 9 = .ok (.iload_n 1, 1) := by decide +kernel
theorem dJ9_max_7cf53_10 : decode cJ9_max_7cf53 10 = .ok (.ireturn, 1) := by decide +kernel
theorem dJ9_min_7cf53_0 : decode cJ9_min_7cf53 0 = .ok (.iload_n 0, 1) := by decide +kernel
theorem dJ9_min_7cf53_1 : decode cJ9_min_7cf53 1 = .ok (.iload_n 1, 1) := by decide +kernel
theorem dJ9_min_7cf53_2 : decode cJ9_min_7cf53 2 = .ok (.if_icmp .gt 7, 3) := by decide +kernel
theorem dJ9_min_7cf53_5 : decode cJ9_min_7cf53 5 = .ok (.iload_n 0, 1) := by decide +kernel
theorem dJ9_min_7cf53_6 : decode cJ9_min_7cf53 6 = .ok (.goto 4, 3) := by decide +kernel
theorem dJ9_min_7cf53_9 : decode cJ9_min_7cf53 9 = .ok (.iload_n 1, 1) := by decide +kernel
theorem dJ9_min_7cf53_10 : decode cJ9_min_7cf53 10 = .ok (.ireturn, 1) := by decide +kernel
end
section
/-! PURE WORLDS: a list of cells whose references are places in that list; V0: the judgement over it -/
abbrev px_E : Type := (Nat × vp_A) ⊕ (Nat × List Value)
abbrev px_H : Type := List px_E
/-- class numbers, slots, array classes, addresses of the places, addresses of the tables -/
abbrev px_G : Type := (Nat → ClassId) × (Nat → Nat → Nat) × (Nat → ClassId) × (Nat → Nat) × (Nat → Nat)
abbrev px_M : Type := MethodName × ByteArray × Nat × Option FieldType
/-- the tables' words that stay true under every warming -/
def px_tbl : List Cond := lw_tbl.filter goodWord
theorem px_in {w : Cond} (h : w ∈ lw_tbl) (hg : goodWord w = true) : w ∈ px_tbl := List.mem_filter.mpr ⟨h, hg⟩
/-- links to private members of nest mates -/
def px_nest : List (String × Nat × MethodName × String) := [("GladSide", 9, ⟨"GladSide$Street", "<init>", "()V"⟩, "GladSide"), ("GladSide", 22, ⟨"GladSide$Law", "<init>", "()V"⟩, "GladSide"), ("GladSide", 54, ⟨"GladSide$Tape", "<init>", "()V"⟩, "GladSide"), ("GladSide$Tape", 9, ⟨"GladSide$Law", "<init>", "()V"⟩, "GladSide"), ("GladSide", 90, ⟨"GladSide$Acts", "<init>", "()V"⟩, "GladSide"), ("GladSide$Smells", 33, ⟨"GladSide", "placesApart", "(II)I"⟩, "GladSide"), ("GladSide$Votes", 49, ⟨"GladSide", "placesApart", "(II)I"⟩, "GladSide")]
def px_N (U : State) : Prop := ∀ q ∈ px_nest, va_Nw (.methodLinkNest q.1 q.2.1 q.2.2.1 q.2.2.2) U
def px_v (E : px_G) : Value → Value
  | .ref p => .ref (E.2.2.2.1 p)
  | .float i => .ref (E.2.2.2.2 i.toNat)
  | v => v
theorem px_cat (E : px_G) (v : Value) : (px_v E v).category = v.category := by cases v <;> rfl
def px_e (E : px_G) : px_E → va_E
  | .inl a => .inl (E.2.2.1 a.1, a.2)
  | .inr o => .inr (o.1, o.2.map (px_v E))
def px_w (E : px_G) (h : px_H) : va_W := h.mapIdx fun p e => (E.2.2.2.1 p, px_e E e)
theorem px_w_get {E : px_G} {h : px_H} {p : Nat} {e : px_E} (hp : h[p]? = some e) : (px_w E h)[p]? = some (E.2.2.2.1 p, px_e E e) := by
  simp [px_w, List.getElem?_mapIdx, hp]
theorem px_w_len (E : px_G) (h : px_H) : (px_w E h).length = h.length := by simp [px_w]
theorem px_w_set {E : px_G} {h : px_H} {p : Nat} {e : px_E} : (px_w E h).set p (E.2.2.2.1 p, px_e E e) = px_w E (h.set p e) := by
  apply List.ext_getElem?
  intro i
  simp only [px_w, List.getElem?_set, List.getElem?_mapIdx, List.length_mapIdx]
  by_cases hi : p = i
  · subst hi
    by_cases hl : p < h.length
    · simp [hl]
    · simp [hl]
  · simp [hi]
theorem px_w_app {E : px_G} {h : px_H} {e : px_E} : px_w E (h ++ [e]) = px_w E h ++ [(E.2.2.2.1 h.length, px_e E e)] := by
  simp [px_w, List.mapIdx_append]
def px_ty : Nat → FieldType
  | 0 => .int
  | 1 => .byte
  | 2 => .boolean
  | 3 => .short
  | _ => .long
def px_tys (E : px_G) : List (ClassId × FieldType) := [(E.2.2.1 0, .int), (E.2.2.1 1, .byte), (E.2.2.1 2, .boolean), (E.2.2.1 3, .short), (E.2.2.1 4, .long)]
def px_K (E : px_G) (U : State) : Prop := va_K (E.1, E.2.1) vwCl (px_tys E) U
def px_P (E : px_G) (h : px_H) (H : Heap) : Prop := va_P (E.1, E.2.1) vwCl (px_w E h) H
/-- the places that aren't made yet: the machine's next addresses -/
def px_Z (z : Bool) (E : px_G) (n : Nat) (H : Heap) : Prop := z = true → ∀ j : Nat, E.2.2.2.1 (n + j) = H.size + j
/-- the static tables: class, name, length, values -/
def px_lst (l : List Int32) : Nat → Int32 := fun j => l.getD j 0
def px_stt : List (String × String × Nat × (Nat → Int32)) := [("GladSide$Numbers", "LEAST", 12, px_lst [0, 0, 1, 0, 0, 0, 0, 0, 0, 2, 1, 0]), ("GladSide$Numbers", "MOST", 12, px_lst [11, 99, 9, 40, 9, 3, 9, 1, 1, 30, 9, 199]), ("GladSide$Acts", "ABOVE", 8, px_lst [-1, 0, 0, 2, 1, 3, 0, 6]), ("GladSide$Acts", "OWN", 32, px_lst [1, 10, 11, 2, 20, 0, 0, 0, 0, 30, 0, 0, 0, 41, 40, 0, 0, 0, 0, 50, 0, 0, 60, 61, 70, 0, 0, 0, 81, 80, 0, 0])]
/-- whether cells are made; further tables (the law's script) behind the four static ones -/
abbrev px_X : Type := Bool × List (Nat × (Nat → Int32))
def px_tab (XT : List (Nat × (Nat → Int32))) : List (Nat × (Nat → Int32)) := px_stt.map (fun q => (q.2.2.1, q.2.2.2)) ++ XT
def px_S (E : px_G) (XT : List (Nat × (Nat → Int32))) (A : Nat → Prop) (U : State) (H : Heap) : Prop := (∀ (i : Nat) (q : String × String × Nat × (Nat → Int32)), px_stt[i]? = some q → va_Z q.1 q.2.1 "[I" (.ref (E.2.2.2.2 i)) A U H) ∧ ∀ (i : Nat) (q : Nat × (Nat → Int32)), (px_tab XT)[i]? = some q → va_T .int (E.2.2.2.2 i) q.1 (fun j => .int (q.2 j)) A U H
theorem px_S.moved {E : px_G} {XT : List (Nat × (Nat → Int32))} {A : Nat → Prop} {u U : State} {H : Heap} (hvm : u.vm.Alike U.vm) (h : px_S E XT A u H) : px_S E XT A U H :=
  ⟨fun i q hq => va_Z.moved hvm (h.1 i q hq), fun i q hq => va_T.moved hvm (h.2 i q hq)⟩
theorem px_S.kept {E : px_G} {XT : List (Nat × (Nat → Int32))} {A : Nat → Prop} {U : State} {H H1 : Heap} (h : px_S E XT A U H) (hq : ∀ a : Nat, a < H.size → ¬ A a → H1[a]? = H[a]?) : px_S E XT A U H1 :=
  ⟨fun i q hi => va_Z.kept (h.1 i q hi) hq, fun i q hi => va_T.kept (h.2 i q hi) hq⟩
theorem px_S.narrow {E : px_G} {XT : List (Nat × (Nat → Int32))} {A B : Nat → Prop} {U : State} {H : Heap} (h : px_S E XT A U H) (hAB : ∀ q, B q → A q) : px_S E XT B U H :=
  ⟨fun i q hi => va_Z.narrow (h.1 i q hi) hAB, fun i q hi => va_T.narrow (h.2 i q hi) hAB⟩
theorem px_S.less {E : px_G} {XT : List (Nat × (Nat → Int32))} {A : Nat → Prop} {U : State} {H : Heap} (h : px_S E XT A U H) : px_S E [] A U H := by
  refine ⟨h.1, fun i q hi => ?_⟩
  refine h.2 i q ?_
  have hl : i < (px_tab []).length := (List.getElem?_eq_some_iff.mp hi).1
  unfold px_tab at hi hl ⊢
  rw [List.append_nil] at hi hl
  rw [List.getElem?_append_left hl]
  exact hi
/-- the locals: a list by places; .null where nothing is known (or a second half stands) -/
def px_nz : Value → Bool
  | .null => false
  | _ => true
def px_al (E : px_G) (ls : List Value) : List (Nat × Value) := (ls.mapIdx fun i v => (i, v)).filterMap fun q => if px_nz q.2 then some (q.1, px_v E q.2) else none
theorem px_al_mem {E : px_G} {ls : List Value} {i : Nat} {w : Value} : (i, w) ∈ px_al E ls ↔ ∃ v, ls[i]? = some v ∧ px_nz v = true ∧ w = px_v E v := by
  unfold px_al
  rw [List.mem_filterMap]
  constructor
  · rintro ⟨⟨j, v⟩, hm, h⟩
    obtain ⟨k, hk⟩ := List.getElem?_of_mem hm
    rw [List.getElem?_mapIdx] at hk
    cases hv : ls[k]? with
    | none => rw [hv] at hk; cases hk
    | some x =>
      rw [hv] at hk
      cases hk
      by_cases hz : px_nz v = true
      · rw [if_pos hz] at h
        cases h
        exact ⟨v, hv, hz, rfl⟩
      · rw [if_neg hz] at h
        cases h
  · rintro ⟨v, hv, hz, rfl⟩
    refine ⟨(i, v), List.mem_of_getElem? (i := i) (by rw [List.getElem?_mapIdx, hv]; rfl), by rw [if_pos hz]⟩
def px_L (E : px_G) (nL : Nat) (lr : Array Slot) (ls : List Value) : Prop := lv_has lr nL (px_al E ls)
theorem px_L.at {E : px_G} {nL : Nat} {lr : Array Slot} {ls : List Value} (h : px_L E nL lr ls) {i : Nat} {v : Value} (hv : ls[i]? = some v) (hz : px_nz v = true) : lr[i]? = some (.val (px_v E v)) :=
  h.2.2 (i, px_v E v) (px_al_mem.mpr ⟨v, hv, hz, rfl⟩)
theorem px_L.sub {E : px_G} {nL : Nat} {lr : Array Slot} {l : List (Nat × Value)} {ls : List Value} (h : lv_has lr nL l) (hm : ∀ q ∈ px_al E ls, q ∈ l) : px_L E nL lr ls := ⟨h.1, h.2.1, fun q hq => h.2.2 q (hm q hq)⟩
/-- a word's store: what stood one place ahead isn't a long -/
def px_ok1 (ls : List Value) (i : Nat) : Prop := ∀ (j : Nat) (v : Value), j + 1 = i → ls[j]? = some v → v.category = 1
theorem px_L.store1 {E : px_G} {nL : Nat} {lr : Array Slot} {ls : List Value} {i : Nat} {v : Value} (ho : px_ok1 ls i) (h : lv_has lr nL ((i, px_v E v) :: (px_al E ls).filter (fun q => !(q.1 == i) && !(q.1 + 1 == i && q.2.category == 2)))) : px_L E nL lr (ls.set i v) := by
  refine px_L.sub h ?_
  rintro ⟨j, w⟩ hq
  obtain ⟨x, hx, hz, rfl⟩ := px_al_mem.mp hq
  rw [List.getElem?_set] at hx
  by_cases hj : i = j
  · subst hj
    rw [if_pos rfl] at hx
    split at hx
    · cases hx
      exact List.mem_cons_self
    · cases hx
  · rw [if_neg hj] at hx
    refine List.mem_cons_of_mem _ (List.mem_filter.mpr ⟨px_al_mem.mpr ⟨x, hx, hz, rfl⟩, ?_⟩)
    have hne : ¬ j = i := fun e => hj e.symm
    by_cases h1 : j + 1 = i
    · have := ho j x h1 hx
      simp [hne, px_cat, this]
    · simp [hne, h1]
theorem px_L.store2 {E : px_G} {nL : Nat} {lr : Array Slot} {ls : List Value} {i : Nat} {v : Value} (ho : px_ok1 ls i) (h : lv_has lr nL ((i, px_v E v) :: (px_al E ls).filter (fun q => !(q.1 == i) && (!(q.1 == i + 1) && !(q.1 + 1 == i && q.2.category == 2))))) : px_L E nL lr ((ls.set i v).set (i + 1) .null) := by
  refine px_L.sub h ?_
  rintro ⟨j, w⟩ hq
  obtain ⟨x, hx, hz, rfl⟩ := px_al_mem.mp hq
  rw [List.getElem?_set] at hx
  by_cases hj1 : i + 1 = j
  · subst hj1
    rw [if_pos rfl] at hx
    split at hx
    · cases hx
      cases hz
    · cases hx
  · rw [if_neg hj1, List.getElem?_set] at hx
    by_cases hj : i = j
    · subst hj
      rw [if_pos rfl] at hx
      split at hx
      · cases hx
        exact List.mem_cons_self
      · cases hx
    · rw [if_neg hj] at hx
      refine List.mem_cons_of_mem _ (List.mem_filter.mpr ⟨px_al_mem.mpr ⟨x, hx, hz, rfl⟩, ?_⟩)
      have hne : ¬ j = i := fun e => hj e.symm
      have hne1 : ¬ j = i + 1 := fun e => hj1 e.symm
      by_cases h1 : j + 1 = i
      · have := ho j x h1 hx
        simp [hne, hne1, px_cat, this]
      · simp [hne, hne1, h1]
/-- a method's first locals -/
def px_ent : List Value → List Value
  | [] => []
  | v :: vs => if v.category = 2 then v :: .null :: px_ent vs else v :: px_ent vs
theorem px_ent_args (E : px_G) : ∀ (vs : List Value) (k i : Nat) (v : Value), (px_ent vs)[i]? = some v → px_nz v = true → (k + i, px_v E v) ∈ lv_args k (vs.map (px_v E))
  | [], k, i, v, h, _ => by simp [px_ent] at h
  | x :: xs, k, i, v, h, hz => by
    show (k + i, px_v E v) ∈ (k, px_v E x) :: lv_args (if (px_v E x).category = 2 then k + 2 else k + 1) (xs.map (px_v E))
    rw [px_cat]
    unfold px_ent at h
    by_cases hc : x.category = 2
    · rw [if_pos hc] at h ⊢
      match i, h with
      | 0, h => cases h; exact List.mem_cons_self
      | 1, h => cases h; cases hz
      | i + 2, h =>
        have := px_ent_args E xs (k + 2) i v h hz
        rw [show k + 2 + i = k + (i + 2) by omega] at this
        exact List.mem_cons_of_mem _ this
    · rw [if_neg hc] at h ⊢
      match i, h with
      | 0, h => cases h; exact List.mem_cons_self
      | i + 1, h =>
        have := px_ent_args E xs (k + 1) i v h hz
        rw [show k + 1 + i = k + (i + 1) by omega] at this
        exact List.mem_cons_of_mem _ this
def px_pad (n : Nat) (ls : List Value) : List Value := ls ++ List.replicate (n - ls.length) .null
theorem px_L.entry (E : px_G) {vs : List Value} {n : Nat} {lr : Array Slot} (h : lv_has lr n (lv_args 0 (vs.map (px_v E)))) : px_L E n lr (px_pad n (px_ent vs)) := by
  refine px_L.sub h ?_
  rintro ⟨j, w⟩ hq
  obtain ⟨x, hx, hz, rfl⟩ := px_al_mem.mp hq
  unfold px_pad at hx
  by_cases hl : j < (px_ent vs).length
  · rw [List.getElem?_append_left hl] at hx
    have := px_ent_args E vs 0 j x hx hz
    rwa [Nat.zero_add] at this
  · rw [List.getElem?_append_right (by omega)] at hx
    have := List.eq_of_mem_replicate (List.mem_of_getElem? hx)
    subst this
    cases hz
/-- what is fixed while a method runs -/
def px_Fix (p : Program) (s : State) (m : MethodId) (args : Array Value) (meth : Method) (c : Code) (M : px_M) : Prop :=
  p.tables.exec = Jvm.exec ∧ c.code = M.2.1 ∧ c.maxLocals = M.2.2.1 ∧ s.vm.findClass M.1.cls = some m.cls ∧ (∀ w ∈ px_tbl, w.before args s = true) ∧ meth.name = M.1.name ∧ px_N s
def px_At (E : px_G) (XT : px_X) (A : Nat → Prop) (s : State) (h : px_H) (H : Heap) (locs : List Loc) : Prop :=
  px_K E s ∧ px_P E h H ∧ va_D A (px_w E h) ∧ va_S A s.heap H locs ∧ (∀ q : Nat, s.heap.size ≤ q → A q) ∧ px_Z XT.1 E h.length H ∧ px_S E XT.2 A s s.heap
/-- where and how a method may end -/
def px_ret (M : px_M) (pc : Nat) (r : Option Value) : Prop := match r with
  | none => decode M.2.1 pc = .ok (.return_, 1) ∧ M.2.2.2 = none
  | some (.int v) => decode M.2.1 pc = .ok (.ireturn, 1) ∧ ∃ ty, M.2.2.2 = some ty ∧ narrow ty (.int v) = .int v
  | some (.long _) => decode M.2.1 pc = .ok (.lreturn, 1) ∧ M.2.2.2 = some .long
  | some (.ref _) => decode M.2.1 pc = .ok (.areturn, 1) ∧ ∃ rt, M.2.2.2 = some rt ∧ ((∃ n, rt = .object n) ∨ ∃ t, rt = .array t)
  | _ => False
def V0 (l : Launch) (R : Room) (M : px_M) (XT : px_X) (kc ks pc : Nat) (ls st : List Value) (h : px_H) (Q : Option Value → px_H → Prop) : Prop :=
  ∀ (E : px_G) (p : Program) (e : Env) (s : State) (m : MethodId) (args : Array Value) (below : List Frame) (meth : Method) (c : Code) (A : Nat → Prop) (H : Heap) (locs : List Loc) (lr : Array Slot) (Qs : State → Prop),
    px_Fix p s m args meth c M → px_At E XT A s h H locs → kc ≤ R.cells → ks ≤ R.slots → px_L E M.2.2.1 lr ls →
    (∀ (r : Option Value) (h' : px_H) (H' : Heap) (locs' : List Loc) (kc' ks' pc' : Nat) (lr' : Array Slot), Q r h' → px_At E XT A s h' H' locs' → kc' ≤ R.cells → ks' ≤ R.slots → px_ret M pc' r → W p l e R s m args below meth c H' locs' kc' ks' Qs (F0 m pc' lr' (r.toList.map (px_v E)))) →
    W p l e R s m args below meth c H locs kc ks Qs (F0 m pc lr (st.map (px_v E)))
def px_ws (M : px_M) : List Cond := .code M.1 M.2.1 M.2.2.1 M.2.2.2 :: px_tbl
def px_rm (d kc ks : Nat) : Room := { frames := d, cells := kc, slots := ks, locals := 41 * d }
def px_Pc (z : Bool) (E : px_G) (sz : Nat) (args : List Value) (h : px_H) : Array Value → State → Prop := va_Pc (args.map (px_v E)) (fun U => U.heap.size = sz ∧ px_P E h U.heap ∧ px_K E U ∧ va_D (fun _ => True) (px_w E h) ∧ px_Z z E h.length U.heap ∧ px_S E [] (va_A (px_w E h) sz) U U.heap ∧ px_N U)
def px_Qc (z : Bool) (E : px_G) (sz : Nat) (h : px_H) (Q : Option Value → px_H → Prop) : Array Value → State → Outcome → State → Prop := fun _ st oc t =>
  (∃ (r : Option Value) (h' : px_H), oc = .returned (r.map (px_v E)) ∧ Q r h' ∧ px_P E h' t.heap ∧ va_D (va_A (px_w E h) sz) (px_w E h') ∧ px_Z z E h'.length t.heap) ∧ va_F (va_A (px_w E h) sz) st t
/-- a CONTRACT: method M at args over the world h ends with Q -/
def Ct0 (l : Launch) (z : Bool) (M : px_M) (d kc ks : Nat) (args : List Value) (h : px_H) (Q : Option Value → px_H → Prop) : Prop :=
  ∀ (E : px_G) (sz : Nat), Met l M.1 (px_ws M) (px_rm d kc ks) (px_Pc z E sz args h) (px_Qc z E sz h Q) kc ks (va_A (px_w E h) sz)
theorem Met.ofWF {l : Launch} {y : MethodName} {ws ws' : List Cond} {rm : Room} {Pc : Array Value → State → Prop} {Qc : Array Value → State → Outcome → State → Prop} {mc ms : Nat} {free : Addr → Prop} {cc : ByteArray} {maxL : Nat} {ret : Option FieldType}
    (hy : plainFor y = true) (hw : ws = Cond.code y cc maxL ret :: ws')
    (body : ∀ p e s m args below meth c s₁, BodyLoose p l y (headSpec ws rm) cc maxL ret e s m args below meth c s₁ → c.maxLocals = maxL → Pc args s →
      W p l e (headSpec ws rm).room s m args below meth c s.heap [] 0 0 (MQ below Qc args s mc ms free) (entryFrame m args maxL)) : Met l y ws rm Pc Qc mc ms free := by
  refine MetFree.of_bodySF (code := cc) (maxLocals := maxL) (ret := ret) hy ?_ ?_
  · intro args s m h hn
    obtain ⟨meth, c, h1, h2, h3, h4, h5, h6, -, -⟩ := Cond.code_spec hn (atoms_spec (ws := ws) h _ (by rw [hw]; exact List.mem_cons_self))
    exact ⟨meth, c, h1, h2, h3, h4, h5, h6⟩
  · intro p e s m args below meth c s₁ B hml hP _
    have hh0 : s₁.heap = s.heap := by rw [B.state]; rfl
    obtain ⟨t, a1, o, b1, b2, b3⟩ := body p e s m args below meth c s₁ B hml hP s₁ hh0 (Stand.of_body B)
    exact ⟨t, o, a1, b1, b2, ⟨b3.1, b3.2⟩⟩
theorem px_sl (E : px_G) : ∀ vs : List Value, (lg_sl (vs.map (px_v E))).length = (px_ent vs).length
  | [] => rfl
  | v :: vs => by
    have ih := px_sl E vs
    show ((if (px_v E v).category = 2 then [Slot.val (px_v E v), .second] else [.val (px_v E v)]) ++ lg_sl (vs.map (px_v E))).length = _
    rw [px_cat, List.length_append, ih]
    show _ = (if v.category = 2 then v :: .null :: px_ent vs else v :: px_ent vs).length
    by_cases hc : v.category = 2
    · rw [if_pos hc, if_pos hc]; show 2 + (px_ent vs).length = (px_ent vs).length + 1 + 1; omega
    · rw [if_neg hc, if_neg hc]; show 1 + (px_ent vs).length = (px_ent vs).length + 1; omega
/-- a method's contract by its walk -/
theorem Ct0.of {l : Launch} {z : Bool} {M : px_M} {d kc ks : Nat} {args : List Value} {h : px_H} {Q : Option Value → px_H → Prop} (hy : plainFor M.1 = true) (hn : (px_ent args).length ≤ M.2.2.1) (ls : List Value) (hls : px_pad M.2.2.1 (px_ent args) = ls)
    (k : V0 l (px_rm d kc ks) M (z, []) 0 0 0 ls [] h Q) : Ct0 l z M d kc ks args h Q := by
  subst hls
  intro E sz
  refine Met.ofWF (cc := M.2.1) (maxL := M.2.2.1) (ret := M.2.2.2) (ws' := px_tbl) hy rfl ?_
  intro p e s m av below meth c s₁ B hml hv
  obtain ⟨rfl, hsz, hP, hK, hD0, hZ, hT, hNn⟩ := hv
  subst hsz
  have hts := atoms_spec (ws := px_ws M) B.pre
  have hnm := (name_of_methodNamed B.named B.method).1
  have hl := lv_entry (args.map (px_v E)) (n := M.2.2.1) (by rw [px_sl]; exact hn)
  rw [lg_entry_eq]
  refine k E p e s m _ below meth c (va_A (px_w E h) s.heap.size) s.heap [] _ _ ⟨B.exec, B.bytes, hml, findClass_of_methodNamed B.named, fun w hw => hts w (List.mem_cons_of_mem _ hw), hnm, hNn⟩ ⟨hK, hP, hD0.self, va_S.rf, fun q h => Or.inr h, hZ, hT⟩ (Nat.zero_le _) (Nat.zero_le _) (px_L.entry E hl) ?_
  intro r h' H' locs' kc' ks' pc' lr' hq hAt h1 h2 hr
  obtain ⟨hK', hP', hD', hS', -, hZ', -⟩ := hAt
  have fin : ∀ t : State, t.heap = H' → px_Qc z E s.heap.size h Q (args.map (px_v E)).toArray s (.returned (r.map (px_v E))) t := by
    intro t ht
    exact ⟨⟨r, h', rfl, hq, by rw [ht]; exact hP', hD', by rw [ht]; exact hZ'⟩, hS'.F ht⟩
  refine W.widen (k := kc) (n := ks) h1 h2 ?_
  match r, hr with
  | none, hr => exact W.vret B.exec B.bytes (B.returns.trans hr.2) (fun t ht _ => fin t ht) hS'.2.2 hr.1 B.notSynchronized
  | some (.int v), ⟨hr, ty, h3, h4⟩ => exact W.zret B.exec B.bytes (B.returns.trans h3) h4 (fun t ht _ => fin t ht) hS'.2.2 hr B.notSynchronized
  | some (.long v), hr => exact W.lret B.exec B.bytes (B.returns.trans hr.2) (fun t ht _ => fin t ht) hS'.2.2 hr.1 B.notSynchronized
  | some (.ref v), ⟨hr, rt, h3, h4⟩ => exact W.aret B.exec B.bytes (B.returns.trans h3) h4 (Or.inr ⟨_, rfl⟩) (fun t ht _ => fin t ht) hS'.2.2 hr B.notSynchronized
theorem Ct0.mono {l : Launch} {z : Bool} {M : px_M} {d kc ks : Nat} {args : List Value} {h : px_H} {Q Q' : Option Value → px_H → Prop} (c : Ct0 l z M d kc ks args h Q) (hq : ∀ r h', Q r h' → Q' r h') : Ct0 l z M d kc ks args h Q' := by
  intro E sz p e a1 a2 a3 s m av below hf hap hp hk
  obtain ⟨n, o, b1, b2, b3, ⟨⟨⟨r, h', c1, c2, c3⟩, c4⟩, b5⟩⟩ := c E sz p e a1 a2 a3 s m av below hf hap hp hk
  exact ⟨n, o, b1, b2, b3, ⟨⟨⟨r, h', c1, hq _ _ c2, c3⟩, c4⟩, b5⟩⟩
section PX
variable {l : Launch} {R : Room} {M : px_M} {XT : px_X} {kc ks pc : Nat} {ls st : List Value} {h : px_H} {Q : Option Value → px_H → Prop}

theorem V0_iadd {x y : Int32} (hd : decode M.2.1 pc = .ok (.iadd, 1))  (k : V0 l R M XT kc ks (pc + 1) ls (.int (x + y) :: st) h Q) : V0 l R M XT kc ks pc ls (.int y :: .int x :: st) h Q := by
  intro E p e s m args below meth c A H locs lr Qs hF hAt hkc hks hL hret
  exact lv_iadd hF.1 hF.2.1 hd (k E p e s m args below meth c A H locs lr Qs hF hAt hkc hks hL hret)
theorem V0_isub {x y : Int32} (hd : decode M.2.1 pc = .ok (.isub, 1))  (k : V0 l R M XT kc ks (pc + 1) ls (.int (x - y) :: st) h Q) : V0 l R M XT kc ks pc ls (.int y :: .int x :: st) h Q := by
  intro E p e s m args below meth c A H locs lr Qs hF hAt hkc hks hL hret
  exact lv_isub hF.1 hF.2.1 hd (k E p e s m args below meth c A H locs lr Qs hF hAt hkc hks hL hret)
theorem V0_imul {x y : Int32} (hd : decode M.2.1 pc = .ok (.imul, 1))  (k : V0 l R M XT kc ks (pc + 1) ls (.int (x * y) :: st) h Q) : V0 l R M XT kc ks pc ls (.int y :: .int x :: st) h Q := by
  intro E p e s m args below meth c A H locs lr Qs hF hAt hkc hks hL hret
  exact lv_imul hF.1 hF.2.1 hd (k E p e s m args below meth c A H locs lr Qs hF hAt hkc hks hL hret)
theorem V0_iand {x y : Int32} (hd : decode M.2.1 pc = .ok (.iand, 1))  (k : V0 l R M XT kc ks (pc + 1) ls (.int (x &&& y) :: st) h Q) : V0 l R M XT kc ks pc ls (.int y :: .int x :: st) h Q := by
  intro E p e s m args below meth c A H locs lr Qs hF hAt hkc hks hL hret
  exact lv_iand hF.1 hF.2.1 hd (k E p e s m args below meth c A H locs lr Qs hF hAt hkc hks hL hret)
theorem V0_ior {x y : Int32} (hd : decode M.2.1 pc = .ok (.ior, 1))  (k : V0 l R M XT kc ks (pc + 1) ls (.int (x ||| y) :: st) h Q) : V0 l R M XT kc ks pc ls (.int y :: .int x :: st) h Q := by
  intro E p e s m args below meth c A H locs lr Qs hF hAt hkc hks hL hret
  exact lv_ior hF.1 hF.2.1 hd (k E p e s m args below meth c A H locs lr Qs hF hAt hkc hks hL hret)
theorem V0_ixor {x y : Int32} (hd : decode M.2.1 pc = .ok (.ixor, 1))  (k : V0 l R M XT kc ks (pc + 1) ls (.int (x ^^^ y) :: st) h Q) : V0 l R M XT kc ks pc ls (.int y :: .int x :: st) h Q := by
  intro E p e s m args below meth c A H locs lr Qs hF hAt hkc hks hL hret
  exact lv_ixor hF.1 hF.2.1 hd (k E p e s m args below meth c A H locs lr Qs hF hAt hkc hks hL hret)
theorem V0_ishl {x y : Int32} (hd : decode M.2.1 pc = .ok (.ishl, 1))  (k : V0 l R M XT kc ks (pc + 1) ls (.int (x <<< (y &&& 31)) :: st) h Q) : V0 l R M XT kc ks pc ls (.int y :: .int x :: st) h Q := by
  intro E p e s m args below meth c A H locs lr Qs hF hAt hkc hks hL hret
  exact lv_ishl hF.1 hF.2.1 hd (k E p e s m args below meth c A H locs lr Qs hF hAt hkc hks hL hret)
theorem V0_ishr {x y : Int32} (hd : decode M.2.1 pc = .ok (.ishr, 1))  (k : V0 l R M XT kc ks (pc + 1) ls (.int (x >>> (y &&& 31)) :: st) h Q) : V0 l R M XT kc ks pc ls (.int y :: .int x :: st) h Q := by
  intro E p e s m args below meth c A H locs lr Qs hF hAt hkc hks hL hret
  exact lv_ishr hF.1 hF.2.1 hd (k E p e s m args below meth c A H locs lr Qs hF hAt hkc hks hL hret)
def px_rem (x y : Int32) : Int32 := x - x / y * y
def px_ushr (x y : Int32) : Int32 := (x.toUInt32 >>> (y.toUInt32 &&& Int32.toUInt32 31)).toInt32
theorem V0_idiv {x y : Int32} (hd : decode M.2.1 pc = .ok (.idiv, 1)) (hne : ¬ y = 0) (k : V0 l R M XT kc ks (pc + 1) ls (.int (x / y) :: st) h Q) : V0 l R M XT kc ks pc ls (.int y :: .int x :: st) h Q := by
  intro E p e s m args below meth c A H locs lr Qs hF hAt hkc hks hL hret
  exact lv_idiv hF.1 hF.2.1 hd hne (k E p e s m args below meth c A H locs lr Qs hF hAt hkc hks hL hret)
theorem V0_irem {x y : Int32} (hd : decode M.2.1 pc = .ok (.irem, 1)) (hne : ¬ y = 0) (k : V0 l R M XT kc ks (pc + 1) ls (.int (px_rem x y) :: st) h Q) : V0 l R M XT kc ks pc ls (.int y :: .int x :: st) h Q := by
  intro E p e s m args below meth c A H locs lr Qs hF hAt hkc hks hL hret
  exact lv_irem hF.1 hF.2.1 hd hne (k E p e s m args below meth c A H locs lr Qs hF hAt hkc hks hL hret)
theorem V0_iushr {x y : Int32} (hd : decode M.2.1 pc = .ok (.iushr, 1))  (k : V0 l R M XT kc ks (pc + 1) ls (.int (px_ushr x y) :: st) h Q) : V0 l R M XT kc ks pc ls (.int y :: .int x :: st) h Q := by
  intro E p e s m args below meth c A H locs lr Qs hF hAt hkc hks hL hret
  exact lv_iushr hF.1 hF.2.1 hd rfl (k E p e s m args below meth c A H locs lr Qs hF hAt hkc hks hL hret)
theorem V0_ineg {x : Int32} (hd : decode M.2.1 pc = .ok (.ineg, 1))  (k : V0 l R M XT kc ks (pc + 1) ls (.int (-x) :: st) h Q) : V0 l R M XT kc ks pc ls (.int x :: st) h Q := by
  intro E p e s m args below meth c A H locs lr Qs hF hAt hkc hks hL hret
  exact lv_ineg hF.1 hF.2.1 hd (k E p e s m args below meth c A H locs lr Qs hF hAt hkc hks hL hret)
theorem V0_ladd {x y : Int64} (hd : decode M.2.1 pc = .ok (.ladd, 1))  (k : V0 l R M XT kc ks (pc + 1) ls (.long (x + y) :: st) h Q) : V0 l R M XT kc ks pc ls (.long y :: .long x :: st) h Q := by
  intro E p e s m args below meth c A H locs lr Qs hF hAt hkc hks hL hret
  exact lv_ladd hF.1 hF.2.1 hd (k E p e s m args below meth c A H locs lr Qs hF hAt hkc hks hL hret)
theorem V0_land {x y : Int64} (hd : decode M.2.1 pc = .ok (.land, 1))  (k : V0 l R M XT kc ks (pc + 1) ls (.long (x &&& y) :: st) h Q) : V0 l R M XT kc ks pc ls (.long y :: .long x :: st) h Q := by
  intro E p e s m args below meth c A H locs lr Qs hF hAt hkc hks hL hret
  exact lv_land hF.1 hF.2.1 hd (k E p e s m args below meth c A H locs lr Qs hF hAt hkc hks hL hret)
theorem V0_lor {x y : Int64} (hd : decode M.2.1 pc = .ok (.lor, 1))  (k : V0 l R M XT kc ks (pc + 1) ls (.long (x ||| y) :: st) h Q) : V0 l R M XT kc ks pc ls (.long y :: .long x :: st) h Q := by
  intro E p e s m args below meth c A H locs lr Qs hF hAt hkc hks hL hret
  exact lv_lor hF.1 hF.2.1 hd (k E p e s m args below meth c A H locs lr Qs hF hAt hkc hks hL hret)
theorem V0_lshl {x : Int64} {y : Int32} (hd : decode M.2.1 pc = .ok (.lshl, 1))  (k : V0 l R M XT kc ks (pc + 1) ls (.long (x <<< (y.toInt64 &&& 63)) :: st) h Q) : V0 l R M XT kc ks pc ls (.int y :: .long x :: st) h Q := by
  intro E p e s m args below meth c A H locs lr Qs hF hAt hkc hks hL hret
  exact lv_lshl hF.1 hF.2.1 hd rfl (k E p e s m args below meth c A H locs lr Qs hF hAt hkc hks hL hret)
theorem V0_lcmp {x y : Int64} (hd : decode M.2.1 pc = .ok (.lcmp, 1))  (k : V0 l R M XT kc ks (pc + 1) ls (.int (lg_cmp x y) :: st) h Q) : V0 l R M XT kc ks pc ls (.long y :: .long x :: st) h Q := by
  intro E p e s m args below meth c A H locs lr Qs hF hAt hkc hks hL hret
  exact W.lcmp hF.1 hF.2.1 hd (k E p e s m args below meth c A H locs lr Qs hF hAt hkc hks hL hret)
theorem V0_i2l {x : Int32} (hd : decode M.2.1 pc = .ok (.i2l, 1))  (k : V0 l R M XT kc ks (pc + 1) ls (.long x.toInt64 :: st) h Q) : V0 l R M XT kc ks pc ls (.int x :: st) h Q := by
  intro E p e s m args below meth c A H locs lr Qs hF hAt hkc hks hL hret
  exact lv_i2l hF.1 hF.2.1 hd rfl (k E p e s m args below meth c A H locs lr Qs hF hAt hkc hks hL hret)
theorem V0_l2i {x : Int64} (hd : decode M.2.1 pc = .ok (.l2i, 1))  (k : V0 l R M XT kc ks (pc + 1) ls (.int x.toInt32 :: st) h Q) : V0 l R M XT kc ks pc ls (.long x :: st) h Q := by
  intro E p e s m args below meth c A H locs lr Qs hF hAt hkc hks hL hret
  exact lv_l2i hF.1 hF.2.1 hd rfl (k E p e s m args below meth c A H locs lr Qs hF hAt hkc hks hL hret)
theorem V0_i2b {x : Int32} (hd : decode M.2.1 pc = .ok (.i2b, 1))  (k : V0 l R M XT kc ks (pc + 1) ls (.int x.toInt8.toInt32 :: st) h Q) : V0 l R M XT kc ks pc ls (.int x :: st) h Q := by
  intro E p e s m args below meth c A H locs lr Qs hF hAt hkc hks hL hret
  exact lv_i2b hF.1 hF.2.1 hd rfl (k E p e s m args below meth c A H locs lr Qs hF hAt hkc hks hL hret)
theorem V0_i2s {x : Int32} (hd : decode M.2.1 pc = .ok (.i2s, 1))  (k : V0 l R M XT kc ks (pc + 1) ls (.int x.toInt16.toInt32 :: st) h Q) : V0 l R M XT kc ks pc ls (.int x :: st) h Q := by
  intro E p e s m args below meth c A H locs lr Qs hF hAt hkc hks hL hret
  exact lv_i2s hF.1 hF.2.1 hd rfl (k E p e s m args below meth c A H locs lr Qs hF hAt hkc hks hL hret)
theorem V0_iconst {n : Int} (v : Int32) (hd : decode M.2.1 pc = .ok (.iconst n, 1)) (hv : Int32.ofInt n = v) (k : V0 l R M XT kc ks (pc + 1) ls (.int v :: st) h Q) : V0 l R M XT kc ks pc ls (st) h Q := by
  intro E p e s m args below meth c A H locs lr Qs hF hAt hkc hks hL hret
  exact lv_iconst hF.1 hF.2.1 hd hv (k E p e s m args below meth c A H locs lr Qs hF hAt hkc hks hL hret)
theorem V0_bipush {n : Int} (v : Int32) (hd : decode M.2.1 pc = .ok (.bipush n, 2)) (hv : (Int8.ofInt n).toInt32 = v) (k : V0 l R M XT kc ks (pc + 2) ls (.int v :: st) h Q) : V0 l R M XT kc ks pc ls (st) h Q := by
  intro E p e s m args below meth c A H locs lr Qs hF hAt hkc hks hL hret
  exact lv_bipush hF.1 hF.2.1 hd hv (k E p e s m args below meth c A H locs lr Qs hF hAt hkc hks hL hret)
theorem V0_sipush {n : Int} (v : Int32) (hd : decode M.2.1 pc = .ok (.sipush n, 3)) (hv : (Int16.ofInt n).toInt32 = v) (k : V0 l R M XT kc ks (pc + 3) ls (.int v :: st) h Q) : V0 l R M XT kc ks pc ls (st) h Q := by
  intro E p e s m args below meth c A H locs lr Qs hF hAt hkc hks hL hret
  exact lv_sipush hF.1 hF.2.1 hd hv (k E p e s m args below meth c A H locs lr Qs hF hAt hkc hks hL hret)
theorem V0_lconst {n : Fin 2} (v : Int64) (hd : decode M.2.1 pc = .ok (.lconst n, 1)) (hv : Int64.ofNat (n : Nat) = v) (k : V0 l R M XT kc ks (pc + 1) ls (.long v :: st) h Q) : V0 l R M XT kc ks pc ls (st) h Q := by
  intro E p e s m args below meth c A H locs lr Qs hF hAt hkc hks hL hret
  exact lv_lconst hF.1 hF.2.1 hd hv (k E p e s m args below meth c A H locs lr Qs hF hAt hkc hks hL hret)
theorem V0_ldc {index : Nat} {v : Int32} (hd : decode M.2.1 pc = .ok (.ldc index, 2)) (hc : Cond.constant M.1.cls index v ∈ px_tbl) (k : V0 l R M XT kc ks (pc + 2) ls (.int v :: st) h Q) : V0 l R M XT kc ks pc ls (st) h Q := by
  intro E p e s m args below meth c A H locs lr Qs hF hAt hkc hks hL hret
  exact lv_ldc hF.1 hF.2.1 hF.2.2.2.1 (hF.2.2.2.2.1 _ hc) hd (k E p e s m args below meth c A H locs lr Qs hF hAt hkc hks hL hret)
theorem V0_ldcw {index : Nat} {v : Int32} (hd : decode M.2.1 pc = .ok (.ldc_w index, 3)) (hc : Cond.constant M.1.cls index v ∈ px_tbl) (k : V0 l R M XT kc ks (pc + 3) ls (.int v :: st) h Q) : V0 l R M XT kc ks pc ls (st) h Q := by
  intro E p e s m args below meth c A H locs lr Qs hF hAt hkc hks hL hret
  exact lv_ldcw hF.1 hF.2.1 hF.2.2.2.1 (hF.2.2.2.2.1 _ hc) hd (k E p e s m args below meth c A H locs lr Qs hF hAt hkc hks hL hret)
theorem V0_ldc2 {index : Nat} {v : Int64} (hd : decode M.2.1 pc = .ok (.ldc2_w index, 3)) (hc : Cond.constantLong M.1.cls index v ∈ px_tbl) (k : V0 l R M XT kc ks (pc + 3) ls (.long v :: st) h Q) : V0 l R M XT kc ks pc ls (st) h Q := by
  intro E p e s m args below meth c A H locs lr Qs hF hAt hkc hks hL hret
  exact lv_ldc2 hF.1 hF.2.1 hF.2.2.2.1 (hF.2.2.2.2.1 _ hc) hd (k E p e s m args below meth c A H locs lr Qs hF hAt hkc hks hL hret)
theorem V0_iload_n {k0 : Fin 4} {x : Int32} (hd : decode M.2.1 pc = .ok (.iload_n k0, 1)) (hl : ls[(k0 : Nat)]? = some (.int x)) (k : V0 l R M XT kc ks (pc + 1) ls (.int x :: st) h Q) : V0 l R M XT kc ks pc ls (st) h Q := by
  intro E p e s m args below meth c A H locs lr Qs hF hAt hkc hks hL hret
  exact lv_iload_n hF.1 hF.2.1 hd rfl (hL.at hl rfl) (k E p e s m args below meth c A H locs lr Qs hF hAt hkc hks hL hret)
theorem V0_aload_n {k0 : Fin 4} {x : Nat} (hd : decode M.2.1 pc = .ok (.aload_n k0, 1)) (hl : ls[(k0 : Nat)]? = some (.ref x)) (k : V0 l R M XT kc ks (pc + 1) ls (.ref x :: st) h Q) : V0 l R M XT kc ks pc ls (st) h Q := by
  intro E p e s m args below meth c A H locs lr Qs hF hAt hkc hks hL hret
  exact lv_aload_n hF.1 hF.2.1 hd rfl (hL.at hl rfl) (k E p e s m args below meth c A H locs lr Qs hF hAt hkc hks hL hret)
theorem V0_taload_n {k0 : Fin 4} {x : UInt32} (hd : decode M.2.1 pc = .ok (.aload_n k0, 1)) (hl : ls[(k0 : Nat)]? = some (.float x)) (k : V0 l R M XT kc ks (pc + 1) ls (.float x :: st) h Q) : V0 l R M XT kc ks pc ls (st) h Q := by
  intro E p e s m args below meth c A H locs lr Qs hF hAt hkc hks hL hret
  exact lv_aload_n hF.1 hF.2.1 hd rfl (hL.at hl rfl) (k E p e s m args below meth c A H locs lr Qs hF hAt hkc hks hL hret)
theorem V0_lload_n {k0 : Fin 4} {x : Int64} (hd : decode M.2.1 pc = .ok (.lload_n k0, 1)) (hl : ls[(k0 : Nat)]? = some (.long x)) (k : V0 l R M XT kc ks (pc + 1) ls (.long x :: st) h Q) : V0 l R M XT kc ks pc ls (st) h Q := by
  intro E p e s m args below meth c A H locs lr Qs hF hAt hkc hks hL hret
  exact lv_lload_n hF.1 hF.2.1 hd rfl (hL.at hl rfl) (k E p e s m args below meth c A H locs lr Qs hF hAt hkc hks hL hret)
theorem V0_iload {i : Nat} {x : Int32} (hd : decode M.2.1 pc = .ok (.iload i, 2)) (hl : ls[i]? = some (.int x)) (k : V0 l R M XT kc ks (pc + 2) ls (.int x :: st) h Q) : V0 l R M XT kc ks pc ls (st) h Q := by
  intro E p e s m args below meth c A H locs lr Qs hF hAt hkc hks hL hret
  exact lv_iload hF.1 hF.2.1 hd (hL.at hl rfl) (k E p e s m args below meth c A H locs lr Qs hF hAt hkc hks hL hret)
theorem V0_aload {i : Nat} {x : Nat} (hd : decode M.2.1 pc = .ok (.aload i, 2)) (hl : ls[i]? = some (.ref x)) (k : V0 l R M XT kc ks (pc + 2) ls (.ref x :: st) h Q) : V0 l R M XT kc ks pc ls (st) h Q := by
  intro E p e s m args below meth c A H locs lr Qs hF hAt hkc hks hL hret
  exact lv_aload hF.1 hF.2.1 hd (hL.at hl rfl) (k E p e s m args below meth c A H locs lr Qs hF hAt hkc hks hL hret)
theorem V0_lload {i : Nat} {x : Int64} (hd : decode M.2.1 pc = .ok (.lload i, 2)) (hl : ls[i]? = some (.long x)) (k : V0 l R M XT kc ks (pc + 2) ls (.long x :: st) h Q) : V0 l R M XT kc ks pc ls (st) h Q := by
  intro E p e s m args below meth c A H locs lr Qs hF hAt hkc hks hL hret
  exact lv_lload hF.1 hF.2.1 hd (hL.at hl rfl) (k E p e s m args below meth c A H locs lr Qs hF hAt hkc hks hL hret)
theorem V0_dup {va : Value} (hd : decode M.2.1 pc = .ok (.dup, 1)) (hva : va.category = 1) (k : V0 l R M XT kc ks (pc + 1) ls (va :: va :: st) h Q) : V0 l R M XT kc ks pc ls (va :: st) h Q := by
  intro E p e s m args below meth c A H locs lr Qs hF hAt hkc hks hL hret
  exact lv_dup hF.1 hF.2.1 hd ((px_cat E va).trans hva) (k E p e s m args below meth c A H locs lr Qs hF hAt hkc hks hL hret)
theorem V0_pop {va : Value} (hd : decode M.2.1 pc = .ok (.pop, 1)) (hva : va.category = 1) (k : V0 l R M XT kc ks (pc + 1) ls (st) h Q) : V0 l R M XT kc ks pc ls (va :: st) h Q := by
  intro E p e s m args below meth c A H locs lr Qs hF hAt hkc hks hL hret
  exact lv_pop hF.1 hF.2.1 hd ((px_cat E va).trans hva) (k E p e s m args below meth c A H locs lr Qs hF hAt hkc hks hL hret)
theorem V0_dup_x1 {va vb : Value} (hd : decode M.2.1 pc = .ok (.dup_x1, 1)) (hva : va.category = 1) (hvb : vb.category = 1) (k : V0 l R M XT kc ks (pc + 1) ls (va :: vb :: va :: st) h Q) : V0 l R M XT kc ks pc ls (va :: vb :: st) h Q := by
  intro E p e s m args below meth c A H locs lr Qs hF hAt hkc hks hL hret
  exact lv_dup_x1 hF.1 hF.2.1 hd ((px_cat E va).trans hva) ((px_cat E vb).trans hvb) (k E p e s m args below meth c A H locs lr Qs hF hAt hkc hks hL hret)
theorem V0_dup2 {va vb : Value} (hd : decode M.2.1 pc = .ok (.dup2, 1)) (hva : va.category = 1) (hvb : vb.category = 1) (k : V0 l R M XT kc ks (pc + 1) ls (va :: vb :: va :: vb :: st) h Q) : V0 l R M XT kc ks pc ls (va :: vb :: st) h Q := by
  intro E p e s m args below meth c A H locs lr Qs hF hAt hkc hks hL hret
  exact lv_dup2_11 hF.1 hF.2.1 hd ((px_cat E va).trans hva) ((px_cat E vb).trans hvb) (k E p e s m args below meth c A H locs lr Qs hF hAt hkc hks hL hret)
theorem V0_istore_nG {k0 : Fin 4} {x : Int32} (hd : decode M.2.1 pc = .ok (.istore_n k0, 1)) (hn : (k0 : Nat) < M.2.2.1) (ho : px_ok1 ls (k0 : Nat)) (k : V0 l R M XT kc ks (pc + 1) (ls.set (k0 : Nat) (.int x)) st h Q) : V0 l R M XT kc ks pc ls (.int x :: st) h Q := by
  intro E p e s m args below meth c A H locs lr Qs hF hAt hkc hks hL hret
  exact lv_istore_n hF.1 hF.2.1 hd rfl hL hn rfl (fun lr' hl' => k E p e s m args below meth c A H locs lr' Qs hF hAt hkc hks (px_L.store1 ho hl') hret)
theorem V0_istoreG {i : Nat} {x : Int32} (hd : decode M.2.1 pc = .ok (.istore i, 2)) (hn : i < M.2.2.1) (ho : px_ok1 ls i) (k : V0 l R M XT kc ks (pc + 2) (ls.set i (.int x)) st h Q) : V0 l R M XT kc ks pc ls (.int x :: st) h Q := by
  intro E p e s m args below meth c A H locs lr Qs hF hAt hkc hks hL hret
  exact lv_istore hF.1 hF.2.1 hd hL hn rfl (fun lr' hl' => k E p e s m args below meth c A H locs lr' Qs hF hAt hkc hks (px_L.store1 ho hl') hret)
theorem V0_astore_nG {k0 : Fin 4} {x : Nat} (hd : decode M.2.1 pc = .ok (.astore_n k0, 1)) (hn : (k0 : Nat) < M.2.2.1) (ho : px_ok1 ls (k0 : Nat)) (k : V0 l R M XT kc ks (pc + 1) (ls.set (k0 : Nat) (.ref x)) st h Q) : V0 l R M XT kc ks pc ls (.ref x :: st) h Q := by
  intro E p e s m args below meth c A H locs lr Qs hF hAt hkc hks hL hret
  exact lv_astore_n hF.1 hF.2.1 hd rfl hL hn rfl (fun lr' hl' => k E p e s m args below meth c A H locs lr' Qs hF hAt hkc hks (px_L.store1 ho hl') hret)
theorem V0_astoreG {i : Nat} {x : Nat} (hd : decode M.2.1 pc = .ok (.astore i, 2)) (hn : i < M.2.2.1) (ho : px_ok1 ls i) (k : V0 l R M XT kc ks (pc + 2) (ls.set i (.ref x)) st h Q) : V0 l R M XT kc ks pc ls (.ref x :: st) h Q := by
  intro E p e s m args below meth c A H locs lr Qs hF hAt hkc hks hL hret
  exact lv_astore hF.1 hF.2.1 hd hL hn rfl (fun lr' hl' => k E p e s m args below meth c A H locs lr' Qs hF hAt hkc hks (px_L.store1 ho hl') hret)
theorem V0_lstore_nG {k0 : Fin 4} {x : Int64} (hd : decode M.2.1 pc = .ok (.lstore_n k0, 1)) (hn : (k0 : Nat) + 1 < M.2.2.1) (ho : px_ok1 ls (k0 : Nat)) (k : V0 l R M XT kc ks (pc + 1) ((ls.set (k0 : Nat) (.long x)).set ((k0 : Nat) + 1) .null) st h Q) : V0 l R M XT kc ks pc ls (.long x :: st) h Q := by
  intro E p e s m args below meth c A H locs lr Qs hF hAt hkc hks hL hret
  exact lv_lstore_n hF.1 hF.2.1 hd rfl hL hn rfl (fun lr' hl' => k E p e s m args below meth c A H locs lr' Qs hF hAt hkc hks (px_L.store2 ho hl') hret)
theorem V0_lstoreG {i : Nat} {x : Int64} (hd : decode M.2.1 pc = .ok (.lstore i, 2)) (hn : i + 1 < M.2.2.1) (ho : px_ok1 ls i) (k : V0 l R M XT kc ks (pc + 2) ((ls.set i (.long x)).set (i + 1) .null) st h Q) : V0 l R M XT kc ks pc ls (.long x :: st) h Q := by
  intro E p e s m args below meth c A H locs lr Qs hF hAt hkc hks hL hret
  exact lv_lstore hF.1 hF.2.1 hd hL hn rfl (fun lr' hl' => k E p e s m args below meth c A H locs lr' Qs hF hAt hkc hks (px_L.store2 ho hl') hret)
theorem px_al_at {E : px_G} {ls : List Value} {i : Nat} {v : Value} (hv : ls[i]? = some v) (hz : px_nz v = true) : ∃ k : Nat, (px_al E ls)[k]? = some (i, px_v E v) := List.getElem?_of_mem (px_al_mem.mpr ⟨v, hv, hz, rfl⟩)
theorem V0_iincG {i : Nat} {n : Int} {x : Int32} (hd : decode M.2.1 pc = .ok (.iinc i n, 3)) (hl : ls[i]? = some (.int x)) (hn : i < M.2.2.1) (ho : px_ok1 ls i) (k : V0 l R M XT kc ks (pc + 3) (ls.set i (.int (x + Int32.ofInt n))) st h Q) : V0 l R M XT kc ks pc ls st h Q := by
  intro E p e s m args below meth c A H locs lr Qs hF hAt hkc hks hL hret
  obtain ⟨j, hj⟩ := px_al_at (E := E) hl rfl
  exact lv_iinc hF.1 hF.2.1 hd hL hj rfl hn rfl (fun lr' hl' => k E p e s m args below meth c A H locs lr' Qs hF hAt hkc hks (px_L.store1 (v := .int (x + Int32.ofInt n)) ho hl') hret)
theorem V0_if_eq {x : Int32} {off : Int} (tgt : Nat) (hd : decode M.2.1 pc = .ok (.ifCond .eq off, 3)) (ht : (pc : Int) + off = (tgt : Int)) (kt : x = 0 → V0 l R M XT kc ks tgt ls st h Q) (kf : ¬ x = 0 → V0 l R M XT kc ks (pc + 3) ls st h Q) : V0 l R M XT kc ks pc ls (.int x :: st) h Q := by
  intro E p e s m args below meth c A H locs lr Qs hF hAt hkc hks hL hret
  exact lv_if_eq hF.1 hF.2.1 hd ht (fun hc => kt hc E p e s m args below meth c A H locs lr Qs hF hAt hkc hks hL hret) (fun hc => kf hc E p e s m args below meth c A H locs lr Qs hF hAt hkc hks hL hret)
theorem V0_icmp_eq {x y : Int32} {off : Int} (tgt : Nat) (hd : decode M.2.1 pc = .ok (.if_icmp .eq off, 3)) (ht : (pc : Int) + off = (tgt : Int)) (kt : x = y → V0 l R M XT kc ks tgt ls st h Q) (kf : ¬ x = y → V0 l R M XT kc ks (pc + 3) ls st h Q) : V0 l R M XT kc ks pc ls (.int y :: .int x :: st) h Q := by
  intro E p e s m args below meth c A H locs lr Qs hF hAt hkc hks hL hret
  exact lv_icmp_eq hF.1 hF.2.1 hd ht (fun hc => kt hc E p e s m args below meth c A H locs lr Qs hF hAt hkc hks hL hret) (fun hc => kf hc E p e s m args below meth c A H locs lr Qs hF hAt hkc hks hL hret)
theorem V0_if_ne {x : Int32} {off : Int} (tgt : Nat) (hd : decode M.2.1 pc = .ok (.ifCond .ne off, 3)) (ht : (pc : Int) + off = (tgt : Int)) (kt : ¬ x = 0 → V0 l R M XT kc ks tgt ls st h Q) (kf : x = 0 → V0 l R M XT kc ks (pc + 3) ls st h Q) : V0 l R M XT kc ks pc ls (.int x :: st) h Q := by
  intro E p e s m args below meth c A H locs lr Qs hF hAt hkc hks hL hret
  exact lv_if_ne hF.1 hF.2.1 hd ht (fun hc => kt hc E p e s m args below meth c A H locs lr Qs hF hAt hkc hks hL hret) (fun hc => kf hc E p e s m args below meth c A H locs lr Qs hF hAt hkc hks hL hret)
theorem V0_icmp_ne {x y : Int32} {off : Int} (tgt : Nat) (hd : decode M.2.1 pc = .ok (.if_icmp .ne off, 3)) (ht : (pc : Int) + off = (tgt : Int)) (kt : ¬ x = y → V0 l R M XT kc ks tgt ls st h Q) (kf : x = y → V0 l R M XT kc ks (pc + 3) ls st h Q) : V0 l R M XT kc ks pc ls (.int y :: .int x :: st) h Q := by
  intro E p e s m args below meth c A H locs lr Qs hF hAt hkc hks hL hret
  exact lv_icmp_ne hF.1 hF.2.1 hd ht (fun hc => kt hc E p e s m args below meth c A H locs lr Qs hF hAt hkc hks hL hret) (fun hc => kf hc E p e s m args below meth c A H locs lr Qs hF hAt hkc hks hL hret)
theorem V0_if_lt {x : Int32} {off : Int} (tgt : Nat) (hd : decode M.2.1 pc = .ok (.ifCond .lt off, 3)) (ht : (pc : Int) + off = (tgt : Int)) (kt : x < 0 → V0 l R M XT kc ks tgt ls st h Q) (kf : ¬ x < 0 → V0 l R M XT kc ks (pc + 3) ls st h Q) : V0 l R M XT kc ks pc ls (.int x :: st) h Q := by
  intro E p e s m args below meth c A H locs lr Qs hF hAt hkc hks hL hret
  exact lv_if_lt hF.1 hF.2.1 hd ht (fun hc => kt hc E p e s m args below meth c A H locs lr Qs hF hAt hkc hks hL hret) (fun hc => kf hc E p e s m args below meth c A H locs lr Qs hF hAt hkc hks hL hret)
theorem V0_icmp_lt {x y : Int32} {off : Int} (tgt : Nat) (hd : decode M.2.1 pc = .ok (.if_icmp .lt off, 3)) (ht : (pc : Int) + off = (tgt : Int)) (kt : x < y → V0 l R M XT kc ks tgt ls st h Q) (kf : ¬ x < y → V0 l R M XT kc ks (pc + 3) ls st h Q) : V0 l R M XT kc ks pc ls (.int y :: .int x :: st) h Q := by
  intro E p e s m args below meth c A H locs lr Qs hF hAt hkc hks hL hret
  exact lv_icmp_lt hF.1 hF.2.1 hd ht (fun hc => kt hc E p e s m args below meth c A H locs lr Qs hF hAt hkc hks hL hret) (fun hc => kf hc E p e s m args below meth c A H locs lr Qs hF hAt hkc hks hL hret)
theorem V0_if_ge {x : Int32} {off : Int} (tgt : Nat) (hd : decode M.2.1 pc = .ok (.ifCond .ge off, 3)) (ht : (pc : Int) + off = (tgt : Int)) (kt : 0 ≤ x → V0 l R M XT kc ks tgt ls st h Q) (kf : ¬ 0 ≤ x → V0 l R M XT kc ks (pc + 3) ls st h Q) : V0 l R M XT kc ks pc ls (.int x :: st) h Q := by
  intro E p e s m args below meth c A H locs lr Qs hF hAt hkc hks hL hret
  exact lv_if_ge hF.1 hF.2.1 hd ht (fun hc => kt hc E p e s m args below meth c A H locs lr Qs hF hAt hkc hks hL hret) (fun hc => kf hc E p e s m args below meth c A H locs lr Qs hF hAt hkc hks hL hret)
theorem V0_icmp_ge {x y : Int32} {off : Int} (tgt : Nat) (hd : decode M.2.1 pc = .ok (.if_icmp .ge off, 3)) (ht : (pc : Int) + off = (tgt : Int)) (kt : y ≤ x → V0 l R M XT kc ks tgt ls st h Q) (kf : ¬ y ≤ x → V0 l R M XT kc ks (pc + 3) ls st h Q) : V0 l R M XT kc ks pc ls (.int y :: .int x :: st) h Q := by
  intro E p e s m args below meth c A H locs lr Qs hF hAt hkc hks hL hret
  exact lv_icmp_ge hF.1 hF.2.1 hd ht (fun hc => kt hc E p e s m args below meth c A H locs lr Qs hF hAt hkc hks hL hret) (fun hc => kf hc E p e s m args below meth c A H locs lr Qs hF hAt hkc hks hL hret)
theorem V0_if_gt {x : Int32} {off : Int} (tgt : Nat) (hd : decode M.2.1 pc = .ok (.ifCond .gt off, 3)) (ht : (pc : Int) + off = (tgt : Int)) (kt : 0 < x → V0 l R M XT kc ks tgt ls st h Q) (kf : ¬ 0 < x → V0 l R M XT kc ks (pc + 3) ls st h Q) : V0 l R M XT kc ks pc ls (.int x :: st) h Q := by
  intro E p e s m args below meth c A H locs lr Qs hF hAt hkc hks hL hret
  exact lv_if_gt hF.1 hF.2.1 hd ht (fun hc => kt hc E p e s m args below meth c A H locs lr Qs hF hAt hkc hks hL hret) (fun hc => kf hc E p e s m args below meth c A H locs lr Qs hF hAt hkc hks hL hret)
theorem V0_icmp_gt {x y : Int32} {off : Int} (tgt : Nat) (hd : decode M.2.1 pc = .ok (.if_icmp .gt off, 3)) (ht : (pc : Int) + off = (tgt : Int)) (kt : y < x → V0 l R M XT kc ks tgt ls st h Q) (kf : ¬ y < x → V0 l R M XT kc ks (pc + 3) ls st h Q) : V0 l R M XT kc ks pc ls (.int y :: .int x :: st) h Q := by
  intro E p e s m args below meth c A H locs lr Qs hF hAt hkc hks hL hret
  exact lv_icmp_gt hF.1 hF.2.1 hd ht (fun hc => kt hc E p e s m args below meth c A H locs lr Qs hF hAt hkc hks hL hret) (fun hc => kf hc E p e s m args below meth c A H locs lr Qs hF hAt hkc hks hL hret)
theorem V0_if_le {x : Int32} {off : Int} (tgt : Nat) (hd : decode M.2.1 pc = .ok (.ifCond .le off, 3)) (ht : (pc : Int) + off = (tgt : Int)) (kt : x ≤ 0 → V0 l R M XT kc ks tgt ls st h Q) (kf : ¬ x ≤ 0 → V0 l R M XT kc ks (pc + 3) ls st h Q) : V0 l R M XT kc ks pc ls (.int x :: st) h Q := by
  intro E p e s m args below meth c A H locs lr Qs hF hAt hkc hks hL hret
  exact lv_if_le hF.1 hF.2.1 hd ht (fun hc => kt hc E p e s m args below meth c A H locs lr Qs hF hAt hkc hks hL hret) (fun hc => kf hc E p e s m args below meth c A H locs lr Qs hF hAt hkc hks hL hret)
theorem V0_icmp_le {x y : Int32} {off : Int} (tgt : Nat) (hd : decode M.2.1 pc = .ok (.if_icmp .le off, 3)) (ht : (pc : Int) + off = (tgt : Int)) (kt : x ≤ y → V0 l R M XT kc ks tgt ls st h Q) (kf : ¬ x ≤ y → V0 l R M XT kc ks (pc + 3) ls st h Q) : V0 l R M XT kc ks pc ls (.int y :: .int x :: st) h Q := by
  intro E p e s m args below meth c A H locs lr Qs hF hAt hkc hks hL hret
  exact lv_icmp_le hF.1 hF.2.1 hd ht (fun hc => kt hc E p e s m args below meth c A H locs lr Qs hF hAt hkc hks hL hret) (fun hc => kf hc E p e s m args below meth c A H locs lr Qs hF hAt hkc hks hL hret)
theorem V0_goto {off : Int} (tgt : Nat) (hd : decode M.2.1 pc = .ok (.goto off, 3)) (ht : (pc : Int) + off = (tgt : Int)) (k : V0 l R M XT kc ks tgt ls st h Q) : V0 l R M XT kc ks pc ls st h Q := by
  intro E p e s m args below meth c A H locs lr Qs hF hAt hkc hks hL hret
  exact lv_goto hF.1 hF.2.1 hd ht (k E p e s m args below meth c A H locs lr Qs hF hAt hkc hks hL hret)
theorem V0_tableOut {dflt lo hi : Int} {offs : Array Int} {len : Nat} {x : Int32} (tgt : Nat) (hd : decode M.2.1 pc = .ok (.tableswitch dflt lo hi offs, len)) (h1 : x.toInt < lo ∨ hi < x.toInt) (ht : (pc : Int) + dflt = (tgt : Int)) (k : V0 l R M XT kc ks tgt ls st h Q) : V0 l R M XT kc ks pc ls (.int x :: st) h Q := by
  intro E p e s m args below meth c A H locs lr Qs hF hAt hkc hks hL hret
  exact lv_tableOut hF.1 hF.2.1 hd h1 ht (k E p e s m args below meth c A H locs lr Qs hF hAt hkc hks hL hret)
theorem V0_tableIn {dflt lo hi : Int} {offs : Array Int} {len : Nat} {x : Int32} {off : Int} (tgt : Nat) (hd : decode M.2.1 pc = .ok (.tableswitch dflt lo hi offs, len)) (h1 : ¬ x.toInt < lo) (h2 : ¬ hi < x.toInt) (ho : offs[(x.toInt - lo).toNat]? = some off) (ht : (pc : Int) + off = (tgt : Int)) (k : V0 l R M XT kc ks tgt ls st h Q) : V0 l R M XT kc ks pc ls (.int x :: st) h Q := by
  intro E p e s m args below meth c A H locs lr Qs hF hAt hkc hks hL hret
  exact lv_tableIn hF.1 hF.2.1 hd h1 h2 ho ht (k E p e s m args below meth c A H locs lr Qs hF hAt hkc hks hL hret)
theorem V0_lookup {dflt : Int} {ps : Array (Int × Int)} {len : Nat} {x : Int32} {off : Int} (tgt : Nat) (hd : decode M.2.1 pc = .ok (.lookupswitch dflt ps, len)) (hp : (ps.toList.zip (ps.toList.drop 1)).all (fun (a, next) => a.1 < next.1) = true) (ho : Op.lookupswitch.offset ps.toList dflt x.toInt = off) (ht : (pc : Int) + off = (tgt : Int)) (k : V0 l R M XT kc ks tgt ls st h Q) : V0 l R M XT kc ks pc ls (.int x :: st) h Q := by
  intro E p e s m args below meth c A H locs lr Qs hF hAt hkc hks hL hret
  exact lv_lookup hF.1 hF.2.1 hd hp ho ht (k E p e s m args below meth c A H locs lr Qs hF hAt hkc hks hL hret)
/-- a method's end -/
theorem V0_end (r : Option Value) (hr : px_ret M pc r) (hst : r.toList = st) (hq : Q r h) : V0 l R M XT kc ks pc ls st h Q := by
  intro E p e s m args below meth c A H locs lr Qs hF hAt hkc hks hL hret
  subst hst
  exact hret r h H locs kc ks pc lr hq hAt hkc hks hr
theorem V0.mono {Q' : Option Value → px_H → Prop} (k : V0 l R M XT kc ks pc ls st h Q') (hq : ∀ r h', Q' r h' → Q r h') : V0 l R M XT kc ks pc ls st h Q := by
  intro E p e s m args below meth c A H locs lr Qs hF hAt hkc hks hL hret
  exact k E p e s m args below meth c A H locs lr Qs hF hAt hkc hks hL (fun r h' H' locs' kc' ks' pc' lr' h1 => hret r h' H' locs' kc' ks' pc' lr' (hq r h' h1))
/-- fields: what the tables say of a place's field -/
def px_fl (own : String) (idx ci k : Nat) (fin : Bool) (ty : FieldType) : Prop := ∃ (C : String) (T : u_T) (N : Nat) (ty0 : Nat → FieldType), vwCl[ci]? = some (C, T, N) ∧ k < N ∧ (∀ w ∈ u_ws C T N, w ∈ px_tbl) ∧ (∀ k, k < N → parseFieldDescriptor (T k).2.2.1 = some (ty0 k)) ∧ (∀ a, a < N → ∀ b, b < N → a ≠ b → (T a).2.1 ≠ (T b).2.1) ∧ Cond.fieldLink own idx (T k).1 (T k).2.1 (T k).2.2.1 ∈ px_tbl ∧ (T k).1 = C ∧ (T k).2.2.2 = fin ∧ parseFieldDescriptor (T k).2.2.1 = some ty
theorem V0_get {idx ci k p0 : Nat} {fin : Bool} {ty : FieldType} {fs : List Value} {v : Value} (hd : decode M.2.1 pc = .ok (.getfield idx, 3)) (hf : px_fl M.1.cls idx ci k fin ty) (he : h[p0]? = some (.inr (ci, fs))) (hv : fs[k]? = some v) (kk : V0 l R M XT kc ks (pc + 3) ls (v :: st) h Q) : V0 l R M XT kc ks pc ls (.ref p0 :: st) h Q := by
  intro E p e s m args below meth c A H locs lr Qs hF hAt hkc hks hL hret
  obtain ⟨C, T, N, ty0, h1, h2, h3, h4, h5, h6, h7, h8, h9⟩ := hf
  exact va_get (D := (E.1, E.2.1)) (cl := vwCl) (ci := ci) (C := C) (T := T) (N := N) hF.1 hF.2.1 hF.2.2.2.2.1 h3 hF.2.2.2.1 hAt.1 hAt.2.1 p0 (px_w_get he) h1 k h2 (hF.2.2.2.2.1 _ h6) (fun _ h => h) (v := px_v E v) (by rw [List.getElem?_map, hv]; rfl) hd (kk E p e s m args below meth c A H locs lr Qs hF hAt hkc hks hL hret)
/-- the heap after a store: what is known of it -/
theorem px_At.upd {E : px_G} {A : Nat → Prop} {s : State} {h h1 : px_H} {H H1 : Heap} {locs locs1 : List Loc} (a : px_At E XT A s h H locs) (hl : h1.length = h.length) (hP : va_P (E.1, E.2.1) vwCl (px_w E h1) H1) (hD : va_D A (px_w E h1)) (hS : va_S A s.heap H1 locs1) (hz : H1.size = H.size) : px_At E XT A s h1 H1 locs1 :=
  ⟨a.1, hP, hD, hS, a.2.2.2.2.1, by unfold px_Z; rw [hl, hz]; exact a.2.2.2.2.2.1, a.2.2.2.2.2.2⟩

theorem px_put {own C : String} {T : u_T} {N ci index k p0 : Nat} {p : Program} {e : Env} {s : State} {m : MethodId} {args : Array Value} {below : List Frame} {meth : Method} {c : Code} {H : Heap} {locs : List Loc} {cells slots : Nat} {Qs : State → Prop} {cc : ByteArray} {lr : Array Slot} {rest : List Value} {E : px_G} {A : Nat → Prop} {ty0 : Nat → FieldType} (hexec : p.tables.exec = Jvm.exec) (hb : c.code = cc) (hts : ∀ w ∈ px_tbl, w.before args s = true) (hin : ∀ w ∈ u_ws C T N, w ∈ px_tbl) (hty : ∀ k, k < N → parseFieldDescriptor (T k).2.2.1 = some (ty0 k)) (hnm : ∀ a, a < N → ∀ b, b < N → a ≠ b → (T a).2.1 ≠ (T b).2.1) (hown : s.vm.findClass own = some m.cls) (hc : vwCl[ci]? = some (C, T, N)) (hk : k < N) (hlink : (Cond.fieldLink own index (T k).1 (T k).2.1 (T k).2.2.1).before args s = true) (hfin : (T k).2.2.2 = false ∨ ((T k).2.2.2 = true ∧ meth.name = "<init>" ∧ (T k).1 = own)) {ty : FieldType} {v : Value} (hd : parseFieldDescriptor (T k).2.2.1 = some ty) (hn : narrow ty (px_v E v) = px_v E v) (hfit : fits ty (px_v E v) = true)
    {fs : List Value} (hl : k < fs.length) (he : h[p0]? = some (.inr (ci, fs))) (a : px_At E XT A s h H locs) (hdg : decode cc pc = .ok (.putfield index, 3))
    (kk : ∀ (H1 : Heap) (locs1 : List Loc), px_At E XT A s (h.set p0 (.inr (ci, fs.set k v))) H1 locs1 → W p l e R s m args below meth c H1 locs1 cells slots Qs (F0 m (pc + 3) lr rest)) : W p l e R s m args below meth c H locs cells slots Qs (F0 m pc lr (px_v E v :: .ref (E.2.2.2.1 p0) :: rest)) := by
  have hK := a.1
  have hap := va_apart (own := own) hts hin ty0 hty hnm hK hc
  have he' := px_w_get (E := E) he
  obtain ⟨r, h1, cell, q1, q2, q3, q4⟩ := a.2.1 p0 _ he'
  have hr : r = (C, T, N) := Option.some.inj (h1.symm.trans hc)
  subst hr
  obtain ⟨hS, hfc, kC, hkC, hkind⟩ := hK.1 ci _ hc
  obtain ⟨cf, kf, fi, f, hi, hsl⟩ := hS k hk
  have fin : ∀ (H' : Heap) (L : List Loc), H'[E.2.2.2.1 p0]? = some (cell.setSlot f.slot (px_v E v)) → H'.size = H.size → (∀ q : Nat, q ≠ E.2.2.2.1 p0 → H'[q]? = H[q]?) → L = locs ++ [⟨E.2.2.2.1 p0, f.slot⟩] → px_At E XT A s (h.set p0 (.inr (ci, fs.set k v))) H' L := by
    intro H' L e1 e2 e3 e4
    subst e4
    have hat : va_at (E.1, E.2.1) vwCl (E.2.2.2.1 p0, .inr (ci, (fs.map (px_v E)).set k (px_v E v))) H' := by
      rw [hsl] at e1
      exact ⟨_, hc, t_OB.to (V := updV (vp_V (fs.map (px_v E))) k (px_v E v)) ⟨_, e1, q2, q3, t_set q4 hap hk (px_v E v)⟩ (fun j _ => vp_updV_set (by simpa using hl) (px_v E v) j)⟩
    have hset : (px_w E h).set p0 (E.2.2.2.1 p0, .inr (ci, (fs.map (px_v E)).set k (px_v E v))) = px_w E (h.set p0 (.inr (ci, fs.set k v))) := by
      rw [← px_w_set]
      simp [px_e, List.map_set]
    refine px_At.upd a (by simp) ?_ ?_ (va_S.put a.2.2.2.1 e2 e3 (a.2.2.1.2 p0 _ he')) e2
    · rw [← hset]
      exact va_P.set a.2.1 a.2.2.1 he' hat e3
    · rw [← hset]
      exact a.2.2.1.set he'
  have hst := (u_facts hfc hkC (u_lays hts hin hk) hi).1
  have hlay := hts _ (hin _ (u_in_lay hk))
  unfold u_lay at hlay
  rcases hfin with hfin | ⟨hfin, hin2, hdecl⟩
  · rw [if_neg (by rw [hfin]; decide)] at hlay
    have h6 := u_store hfc hkC hkind hlay hi hd hn hfit
    refine W.putK hexec hb (f := f) ⟨hown, hlink, ⟨_, _, _, hi⟩, hst⟩ (by rw [q2]; exact h6) q1 q3 (by rw [hsl]; exact k2_hasslot (q4 k hk)) rfl rfl hdg fun H' e1 e2 e3 => ?_
    exact kk H' _ (fin H' _ e1 e2 e3 rfl)
  · rw [if_pos hfin] at hlay
    have hcf : m.cls = cf := by
      obtain ⟨_, _, c', _, _, _, -, -, hf', -, -, -, hown2, -⟩ := Cond.laysFinal_spec hlay
      have e1 : c' = cf := by have := hi.symm.trans hf'; simp at this; exact this.1.symm
      rw [hdecl] at hown2
      rw [← e1]; exact Option.some.inj (hown.symm.trans hown2)
    have h6 := u_fits hfc hkC hkind (Or.inr hlay) hi hd hn hfit
    refine W.putFinK hexec hb hown hlink hi hst hcf hin2 (by rw [q2]; exact h6) q1 q3 (by rw [hsl]; exact k2_hasslot (q4 k hk)) rfl rfl hdg fun H' e1 e2 e3 => ?_
    exact kk H' _ (fin H' _ e1 e2 e3 rfl)
theorem V0_put {idx ci k p0 : Nat} {ty : FieldType} {fs : List Value} {v : Value} (hd : decode M.2.1 pc = .ok (.putfield idx, 3)) (hf : px_fl M.1.cls idx ci k false ty) (he : h[p0]? = some (.inr (ci, fs))) (hl : k < fs.length) (hn : ∀ E, narrow ty (px_v E v) = px_v E v) (hfit : ∀ E, fits ty (px_v E v) = true) (kk : V0 l R M XT kc ks (pc + 3) ls st (h.set p0 (.inr (ci, fs.set k v))) Q) : V0 l R M XT kc ks pc ls (v :: .ref p0 :: st) h Q := by
  intro E p e s m args below meth c A H locs lr Qs hF hAt hkc hks hL hret
  obtain ⟨C, T, N, ty0, h1, h2, h3, h4, h5, h6, h7, h8, h9⟩ := hf
  exact px_put hF.1 hF.2.1 hF.2.2.2.2.1 h3 h4 h5 hF.2.2.2.1 h1 h2 (hF.2.2.2.2.1 _ h6) (Or.inl h8) h9 (hn E) (hfit E) hl he hAt hd (fun H1 locs1 a1 => kk E p e s m args below meth c A H1 locs1 lr Qs hF a1 hkc hks hL hret)
theorem V0_putF {idx ci k p0 : Nat} {ty : FieldType} {fs : List Value} {v : Value} (hd : decode M.2.1 pc = .ok (.putfield idx, 3)) (hf : px_fl M.1.cls idx ci k true ty) (hi : M.1.name = "<init>") (hc : vwCl[ci]?.map (fun q => q.1) = some M.1.cls) (he : h[p0]? = some (.inr (ci, fs))) (hl : k < fs.length) (hn : ∀ E, narrow ty (px_v E v) = px_v E v) (hfit : ∀ E, fits ty (px_v E v) = true) (kk : V0 l R M XT kc ks (pc + 3) ls st (h.set p0 (.inr (ci, fs.set k v))) Q) : V0 l R M XT kc ks pc ls (v :: .ref p0 :: st) h Q := by
  intro E p e s m args below meth c A H locs lr Qs hF hAt hkc hks hL hret
  obtain ⟨C, T, N, ty0, h1, h2, h3, h4, h5, h6, h7, h8, h9⟩ := hf
  rw [h1] at hc
  have hc : C = M.1.cls := Option.some.inj hc
  exact px_put hF.1 hF.2.1 hF.2.2.2.2.1 h3 h4 h5 hF.2.2.2.1 h1 h2 (hF.2.2.2.2.1 _ h6) (Or.inr ⟨h8, hF.2.2.2.2.2.1.trans hi, h7.trans hc⟩) h9 (hn E) (hfit E) hl he hAt hd (fun H1 locs1 a1 => kk E p e s m args below meth c A H1 locs1 lr Qs hF a1 hkc hks hL hret)

theorem V0_iald {p0 n : Nat} {f : Nat → Int32} {i : Int32} (hd : decode M.2.1 pc = .ok (.iaload, 1)) (he : h[p0]? = some (.inl (0, n, .inl f))) (hi : vp_in i n) (kk : V0 l R M XT kc ks (pc + 1) ls (.int (f i.toNatClampNeg) :: st) h Q) : V0 l R M XT kc ks pc ls (.int i :: .ref p0 :: st) h Q := by
  intro E p e s m args below meth c A H locs lr Qs hF hAt hkc hks hL hret
  exact va_iald (D := (E.1, E.2.1)) (cl := vwCl) hF.1 hF.2.1 hAt.1 hAt.2.1 p0 0 (cA := E.2.2.1 0) (n := n) (f := f) (px_w_get he) rfl hi hd (kk E p e s m args below meth c A H locs lr Qs hF hAt hkc hks hL hret)
theorem V0_bald {p0 n : Nat} {f : Nat → Int32} {i : Int32} (hd : decode M.2.1 pc = .ok (.baload, 1)) (he : h[p0]? = some (.inl (1, n, .inl f))) (hi : vp_in i n) (kk : V0 l R M XT kc ks (pc + 1) ls (.int (f i.toNatClampNeg) :: st) h Q) : V0 l R M XT kc ks pc ls (.int i :: .ref p0 :: st) h Q := by
  intro E p e s m args below meth c A H locs lr Qs hF hAt hkc hks hL hret
  exact va_bald (D := (E.1, E.2.1)) (cl := vwCl) hF.1 hF.2.1 hAt.1 hAt.2.1 p0 1 (cA := E.2.2.1 1) (n := n) (f := f) (px_w_get he) rfl hi hd (kk E p e s m args below meth c A H locs lr Qs hF hAt hkc hks hL hret)
theorem V0_zald {p0 n : Nat} {f : Nat → Int32} {i : Int32} (hd : decode M.2.1 pc = .ok (.baload, 1)) (he : h[p0]? = some (.inl (2, n, .inl f))) (hi : vp_in i n) (kk : V0 l R M XT kc ks (pc + 1) ls (.int (f i.toNatClampNeg) :: st) h Q) : V0 l R M XT kc ks pc ls (.int i :: .ref p0 :: st) h Q := by
  intro E p e s m args below meth c A H locs lr Qs hF hAt hkc hks hL hret
  exact va_zald (D := (E.1, E.2.1)) (cl := vwCl) hF.1 hF.2.1 hAt.1 hAt.2.1 p0 2 (cA := E.2.2.1 2) (n := n) (f := f) (px_w_get he) rfl hi hd (kk E p e s m args below meth c A H locs lr Qs hF hAt hkc hks hL hret)
theorem V0_sald {p0 n : Nat} {f : Nat → Int32} {i : Int32} (hd : decode M.2.1 pc = .ok (.saload, 1)) (he : h[p0]? = some (.inl (3, n, .inl f))) (hi : vp_in i n) (kk : V0 l R M XT kc ks (pc + 1) ls (.int (f i.toNatClampNeg) :: st) h Q) : V0 l R M XT kc ks pc ls (.int i :: .ref p0 :: st) h Q := by
  intro E p e s m args below meth c A H locs lr Qs hF hAt hkc hks hL hret
  exact va_sald (D := (E.1, E.2.1)) (cl := vwCl) hF.1 hF.2.1 hAt.1 hAt.2.1 p0 3 (cA := E.2.2.1 3) (n := n) (f := f) (px_w_get he) rfl hi hd (kk E p e s m args below meth c A H locs lr Qs hF hAt hkc hks hL hret)
theorem V0_lald {p0 n : Nat} {f : Nat → Int64} {i : Int32} (hd : decode M.2.1 pc = .ok (.laload, 1)) (he : h[p0]? = some (.inl (4, n, .inr (.inl f)))) (hi : vp_in i n) (kk : V0 l R M XT kc ks (pc + 1) ls (.long (f i.toNatClampNeg) :: st) h Q) : V0 l R M XT kc ks pc ls (.int i :: .ref p0 :: st) h Q := by
  intro E p e s m args below meth c A H locs lr Qs hF hAt hkc hks hL hret
  exact va_lald (D := (E.1, E.2.1)) (cl := vwCl) hF.1 hF.2.1 hAt.1 hAt.2.1 p0 4 (cA := E.2.2.1 4) (n := n) (f := f) (px_w_get he) rfl hi hd (kk E p e s m args below meth c A H locs lr Qs hF hAt hkc hks hL hret)
/-- an array's cell behind a store -/
theorem px_At.arr {E : px_G} {A : Nat → Prop} {s : State} {H H1 : Heap} {locs : List Loc} {p0 t k : Nat} {a0 a1 : vp_A} (a : px_At E XT A s h H locs) (he : h[p0]? = some (.inl (t, a0))) (e1 : H1[E.2.2.2.1 p0]? = some (vp_cell (E.2.2.1 t) a1)) (z : H1.size = H.size) (oq : ∀ q : Nat, q ≠ E.2.2.2.1 p0 → H1[q]? = H[q]?) : px_At E XT A s (h.set p0 (.inl (t, a1))) H1 (locs ++ [⟨E.2.2.2.1 p0, k⟩]) := by
  have he' := px_w_get (E := E) he
  have hset : (px_w E h).set p0 (E.2.2.2.1 p0, .inl (E.2.2.1 t, a1)) = px_w E (h.set p0 (.inl (t, a1))) := by
    rw [← px_w_set]; rfl
  refine px_At.upd a (by simp) ?_ ?_ (va_S.put a.2.2.2.1 z oq (a.2.2.1.2 p0 _ he')) z
  · rw [← hset]
    exact va_P.set a.2.1 a.2.2.1 he' e1 oq
  · rw [← hset]
    exact a.2.2.1.set he'

theorem V0_iast {p0 n : Nat} {f : Nat → Int32} {i x : Int32} (hd : decode M.2.1 pc = .ok (.iastore, 1)) (he : h[p0]? = some (.inl (0, n, .inl f))) (hi : vp_in i n) (kk : V0 l R M XT kc ks (pc + 1) ls st (h.set p0 (.inl (0, n, .inl (upd f i.toNatClampNeg x)))) Q) : V0 l R M XT kc ks pc ls (.int x :: .int i :: .ref p0 :: st) h Q := by
  intro E p e s m args below meth c A H locs lr Qs hF hAt hkc hks hL hret
  refine W.iast hF.1 hF.2.1 (hAt.2.1 p0 _ (px_w_get he)) ((hAt.1.2 0 _ rfl).1 n (fun j => .int (f j))) (fun q => by cases q) (by show ¬ (i < 0 ∨ (arrV _ _ _).slots.size ≤ _); rw [arrV_size]; exact hi) rfl rfl hd fun H1 e1 z oq => ?_
  refine kk E p e s m args below meth c A H1 _ lr Qs hF (px_At.arr (k := _) hAt he ?_ z oq) hkc hks hL hret
  rw [e1]
  show some (Cell.setSlot (vp_cell _ (n, .inl f)) _ _) = _
  rw [vp_cell_i, vp_cell_i, arrV_store]
  congr 2
  funext q
  by_cases hq : q = i.toNatClampNeg
  · subst hq
    simp [updV, upd, vp_nar]
    try rfl
  · simp [updV, upd, hq]
theorem V0_bast {p0 n : Nat} {f : Nat → Int32} {i x : Int32} (hd : decode M.2.1 pc = .ok (.bastore, 1)) (he : h[p0]? = some (.inl (1, n, .inl f))) (hi : vp_in i n) (kk : V0 l R M XT kc ks (pc + 1) ls st (h.set p0 (.inl (1, n, .inl (upd f i.toNatClampNeg (vp_nar .byte x))))) Q) : V0 l R M XT kc ks pc ls (.int x :: .int i :: .ref p0 :: st) h Q := by
  intro E p e s m args below meth c A H locs lr Qs hF hAt hkc hks hL hret
  refine W.bast hF.1 hF.2.1 (hAt.2.1 p0 _ (px_w_get he)) ((hAt.1.2 1 _ rfl).1 n (fun j => .int (f j))) (fun q => by cases q) (by show ¬ (i < 0 ∨ (arrV _ _ _).slots.size ≤ _); rw [arrV_size]; exact hi) rfl rfl hd fun H1 e1 z oq => ?_
  refine kk E p e s m args below meth c A H1 _ lr Qs hF (px_At.arr (k := _) hAt he ?_ z oq) hkc hks hL hret
  rw [e1]
  show some (Cell.setSlot (vp_cell _ (n, .inl f)) _ _) = _
  rw [vp_cell_i, vp_cell_i, arrV_store]
  congr 2
  funext q
  by_cases hq : q = i.toNatClampNeg
  · subst hq
    simp [updV, upd, vp_nar]
    try rfl
  · simp [updV, upd, hq]
theorem V0_zast {p0 n : Nat} {f : Nat → Int32} {i x : Int32} (hd : decode M.2.1 pc = .ok (.bastore, 1)) (he : h[p0]? = some (.inl (2, n, .inl f))) (hi : vp_in i n) (kk : V0 l R M XT kc ks (pc + 1) ls st (h.set p0 (.inl (2, n, .inl (upd f i.toNatClampNeg (vp_nar .boolean x))))) Q) : V0 l R M XT kc ks pc ls (.int x :: .int i :: .ref p0 :: st) h Q := by
  intro E p e s m args below meth c A H locs lr Qs hF hAt hkc hks hL hret
  refine W.zast hF.1 hF.2.1 (hAt.2.1 p0 _ (px_w_get he)) ((hAt.1.2 2 _ rfl).1 n (fun j => .int (f j))) (fun q => by cases q) (by show ¬ (i < 0 ∨ (arrV _ _ _).slots.size ≤ _); rw [arrV_size]; exact hi) rfl rfl hd fun H1 e1 z oq => ?_
  refine kk E p e s m args below meth c A H1 _ lr Qs hF (px_At.arr (k := _) hAt he ?_ z oq) hkc hks hL hret
  rw [e1]
  show some (Cell.setSlot (vp_cell _ (n, .inl f)) _ _) = _
  rw [vp_cell_i, vp_cell_i, arrV_store]
  congr 2
  funext q
  by_cases hq : q = i.toNatClampNeg
  · subst hq
    simp [updV, upd, vp_nar]
    try rfl
  · simp [updV, upd, hq]
theorem V0_sast {p0 n : Nat} {f : Nat → Int32} {i x : Int32} (hd : decode M.2.1 pc = .ok (.sastore, 1)) (he : h[p0]? = some (.inl (3, n, .inl f))) (hi : vp_in i n) (kk : V0 l R M XT kc ks (pc + 1) ls st (h.set p0 (.inl (3, n, .inl (upd f i.toNatClampNeg (vp_nar .short x))))) Q) : V0 l R M XT kc ks pc ls (.int x :: .int i :: .ref p0 :: st) h Q := by
  intro E p e s m args below meth c A H locs lr Qs hF hAt hkc hks hL hret
  refine W.sast hF.1 hF.2.1 (hAt.2.1 p0 _ (px_w_get he)) ((hAt.1.2 3 _ rfl).1 n (fun j => .int (f j))) (fun q => by cases q) (by show ¬ (i < 0 ∨ (arrV _ _ _).slots.size ≤ _); rw [arrV_size]; exact hi) rfl rfl hd fun H1 e1 z oq => ?_
  refine kk E p e s m args below meth c A H1 _ lr Qs hF (px_At.arr (k := _) hAt he ?_ z oq) hkc hks hL hret
  rw [e1]
  show some (Cell.setSlot (vp_cell _ (n, .inl f)) _ _) = _
  rw [vp_cell_i, vp_cell_i, arrV_store]
  congr 2
  funext q
  by_cases hq : q = i.toNatClampNeg
  · subst hq
    simp [updV, upd, vp_nar]
    try rfl
  · simp [updV, upd, hq]
theorem V0_last {p0 n : Nat} {f : Nat → Int64} {i : Int32} {x : Int64} (hd : decode M.2.1 pc = .ok (.lastore, 1)) (he : h[p0]? = some (.inl (4, n, .inr (.inl f)))) (hi : vp_in i n) (kk : V0 l R M XT kc ks (pc + 1) ls st (h.set p0 (.inl (4, n, .inr (.inl (vp_updL f i.toNatClampNeg x))))) Q) : V0 l R M XT kc ks pc ls (.long x :: .int i :: .ref p0 :: st) h Q := by
  intro E p e s m args below meth c A H locs lr Qs hF hAt hkc hks hL hret
  refine W.last hF.1 hF.2.1 (hAt.2.1 p0 _ (px_w_get he)) ((hAt.1.2 4 _ rfl).1 n (fun j => .long (f j))) (fun q => by cases q) (by show ¬ (i < 0 ∨ (arrV _ _ _).slots.size ≤ _); rw [arrV_size]; exact hi) rfl rfl hd fun H1 e1 z oq => ?_
  refine kk E p e s m args below meth c A H1 _ lr Qs hF (px_At.arr (k := _) hAt he ?_ z oq) hkc hks hL hret
  rw [e1]
  show some (Cell.setSlot (vp_cell _ (n, .inr (.inl f))) _ _) = _
  rw [vp_cell_l, vp_cell_l, arrV_store]
  congr 2
  funext q
  by_cases hq : q = i.toNatClampNeg
  · subst hq
    simp [updV, vp_updL]
  · simp [updV, vp_updL, hq]
theorem V0_alen {p0 t n : Nat} {x : (Nat → Int32) ⊕ (Nat → Int64) ⊕ (Nat → UInt32) ⊕ (Nat → UInt64) ⊕ (Nat → Option Nat)} (v : Int32) (hd : decode M.2.1 pc = .ok (.arraylength, 1)) (he : h[p0]? = some (.inl (t, n, x))) (ht : t < 5) (hv : Int32.ofNat n = v) (kk : V0 l R M XT kc ks (pc + 1) ls (.int v :: st) h Q) : V0 l R M XT kc ks pc ls (.ref p0 :: st) h Q := by
  intro E p e s m args below meth c A H locs lr Qs hF hAt hkc hks hL hret
  have ht' : ∃ ty, (px_tys E)[t]? = some (E.2.2.1 t, ty) := by
    match t, ht with
    | 0, _ => exact ⟨_, rfl⟩
    | 1, _ => exact ⟨_, rfl⟩
    | 2, _ => exact ⟨_, rfl⟩
    | 3, _ => exact ⟨_, rfl⟩
    | 4, _ => exact ⟨_, rfl⟩
  obtain ⟨ty, ht'⟩ := ht'
  exact va_alen (D := (E.1, E.2.1)) (cl := vwCl) hF.1 hF.2.1 hAt.1 hAt.2.1 p0 t (px_w_get he) ht' hv hd (kk E p e s m args below meth c A H locs lr Qs hF hAt hkc hks hL hret)
/-- the tables -/
theorem px_tabAt {E : px_G} {A : Nat → Prop} {s : State} {H : Heap} {locs : List Loc} (a : px_At E XT A s h H locs) {i : Nat} {q : Nat × (Nat → Int32)} (hq : (px_tab XT.2)[i]? = some q) : va_T .int (E.2.2.2.2 i) q.1 (fun j => .int (q.2 j)) A s H :=
  (a.2.2.2.2.2.2.2 i q hq).kept (fun x h1 h2 => a.2.2.2.1.2.1 x h1 h2)
theorem px_big {n N : Nat} (h : n.toInt32 = Int32.ofNat N) (hN : N ≤ n) : True := trivial
theorem V0_tald {u : UInt32} {n : Nat} {f : Nat → Int32} {i : Int32} (hd : decode M.2.1 pc = .ok (.iaload, 1)) (ht : (px_tab XT.2)[u.toNat]? = some (n, f)) (hi : vp_in i n) (kk : V0 l R M XT kc ks (pc + 1) ls (.int (f i.toNatClampNeg) :: st) h Q) : V0 l R M XT kc ks pc ls (.int i :: .float u :: st) h Q := by
  intro E p e s m args below meth c A H locs lr Qs hF hAt hkc hks hL hret
  obtain ⟨cell, h1, h2, h3, h4, h5, h6, h7⟩ := px_tabAt hAt ht
  have hlt : i.toNatClampNeg < n := Nat.not_le.mp fun q => hi (Or.inr q)
  exact W.iald (v := .int (f i.toNatClampNeg)) hF.1 hF.2.1 h1 h2 h3 (fun q => q.elim (fun z => hi (Or.inl z)) (fun z => by have z : cell.slots.size ≤ i.toNatClampNeg := z; have h4 : n ≤ cell.slots.size := h4; omega)) (h6 _ hlt) rfl rfl hd (kk E p e s m args below meth c A H locs lr Qs hF hAt hkc hks hL hret)
theorem V0_talen {u : UInt32} {n : Nat} {f : Nat → Int32} (hd : decode M.2.1 pc = .ok (.arraylength, 1)) (ht : (px_tab XT.2)[u.toNat]? = some (n, f)) (kk : V0 l R M XT kc ks (pc + 1) ls (.int (Int32.ofNat n) :: st) h Q) : V0 l R M XT kc ks pc ls (.float u :: st) h Q := by
  intro E p e s m args below meth c A H locs lr Qs hF hAt hkc hks hL hret
  obtain ⟨cell, h1, h2, h3, h4, h5, h6, h7⟩ := px_tabAt hAt ht
  exact W.alen (n := Int32.ofNat n) hF.1 hF.2.1 h1 h2 h5 rfl rfl hd (kk E p e s m args below meth c A H locs lr Qs hF hAt hkc hks hL hret)
theorem V0_gets {idx : Nat} (u : UInt32) {q : String × String × Nat × (Nat → Int32)} (hd : decode M.2.1 pc = .ok (.getstatic idx, 3)) (ht : px_stt[u.toNat]? = some q) (hl : Cond.fieldLink M.1.cls idx q.1 q.2.1 "[I" ∈ px_tbl) (kk : V0 l R M XT kc ks (pc + 3) ls (.float u :: st) h Q) : V0 l R M XT kc ks pc ls st h Q := by
  intro E p e s m args below meth c A H locs lr Qs hF hAt hkc hks hL hret
  exact va_gets hF.1 hF.2.1 (hAt.2.2.2.2.2.2.1 u.toNat q ht) hAt.2.2.2.1 hF.2.2.2.1 (hF.2.2.2.2.1 _ hl) (fun _ h => h) hd (kk E p e s m args below meth c A H locs lr Qs hF hAt hkc hks hL hret)
theorem px_cats (E : px_G) : ∀ st : List Value, ((st.map (px_v E)).map fun v => v.category).sum = (st.map fun v => v.category).sum
  | [] => rfl
  | v :: st => by simp only [List.map_cons, List.sum_cons, px_cat, px_cats E st]

theorem V0_max {idx : Nat} {x y : Int32} (hd : decode M.2.1 pc = .ok (.invokestatic idx, 3)) (hl : Cond.methodLink M.1.cls idx Lib.Math.max.name ∈ px_tbl) (hs : Cond.static Lib.Math.max.name ∈ px_tbl) (hi : Cond.initialized "java/lang/Math" ∈ px_tbl) (hc : Cond.code Lib.Math.max.name Lib.Math.max.code 2 (some .int) ∈ px_tbl) (hR : 1 ≤ R.frames) (hst : (st.map fun v => v.category).sum + 13 ≤ R.locals) (kk : V0 l R M XT kc ks (pc + 3) ls (.int (if x < y then y else x) :: st) h Q) : V0 l R M XT kc ks pc ls (.int y :: .int x :: st) h Q := by
  intro E p e s m args below meth c A H locs lr Qs hF hAt hkc hks hL hret
  have T := hF.2.2.2.2.1
  exact va_mmax hF.1 hF.2.1 (hF.2.2.1.trans hL.1.symm) hF.2.2.2.1 (T _ hl) (T _ hs) (T _ hi) (T _ hc) hR (by rw [px_cats]; exact hst) hkc hks hd (kk E p e s m args below meth c A H locs lr Qs hF hAt hkc hks hL hret)
theorem V0_min {idx : Nat} {x y : Int32} (hd : decode M.2.1 pc = .ok (.invokestatic idx, 3)) (hl : Cond.methodLink M.1.cls idx Lib.Math.min.name ∈ px_tbl) (hs : Cond.static Lib.Math.min.name ∈ px_tbl) (hi : Cond.initialized "java/lang/Math" ∈ px_tbl) (hc : Cond.code Lib.Math.min.name Lib.Math.min.code 2 (some .int) ∈ px_tbl) (hR : 1 ≤ R.frames) (hst : (st.map fun v => v.category).sum + 13 ≤ R.locals) (kk : V0 l R M XT kc ks (pc + 3) ls (.int (if y < x then y else x) :: st) h Q) : V0 l R M XT kc ks pc ls (.int y :: .int x :: st) h Q := by
  intro E p e s m args below meth c A H locs lr Qs hF hAt hkc hks hL hret
  have T := hF.2.2.2.2.1
  exact va_mmin hF.1 hF.2.1 (hF.2.2.1.trans hL.1.symm) hF.2.2.2.1 (T _ hl) (T _ hs) (T _ hi) (T _ hc) hR (by rw [px_cats]; exact hst) hkc hks hd (kk E p e s m args below meth c A H locs lr Qs hF hAt hkc hks hL hret)
theorem V0_abs {idx : Nat} {x : Int32} (hd : decode M.2.1 pc = .ok (.invokestatic idx, 3)) (hl : Cond.methodLink M.1.cls idx Lib.Math.abs.name ∈ px_tbl) (hs : Cond.static Lib.Math.abs.name ∈ px_tbl) (hi : Cond.initialized "java/lang/Math" ∈ px_tbl) (hc : Cond.code Lib.Math.abs.name Lib.Math.abs.code 1 (some .int) ∈ px_tbl) (hR : 1 ≤ R.frames) (hst : (st.map fun v => v.category).sum + 13 ≤ R.locals) (kk : V0 l R M XT kc ks (pc + 3) ls (.int (if 0 ≤ x then x else -x) :: st) h Q) : V0 l R M XT kc ks pc ls (.int x :: st) h Q := by
  intro E p e s m args below meth c A H locs lr Qs hF hAt hkc hks hL hret
  have T := hF.2.2.2.2.1
  exact va_mabs hF.1 hF.2.1 (hF.2.2.1.trans hL.1.symm) hF.2.2.2.1 (T _ hl) (T _ hs) (T _ hi) (T _ hc) hR (by rw [px_cats]; first | exact hst | omega) hkc hks hd (kk E p e s m args below meth c A H locs lr Qs hF hAt hkc hks hL hret)
theorem px_At.copy {E : px_G} {A : Nat → Prop} {s : State} {H H1 : Heap} {locs locs1 : List Loc} {h1 : px_H} (hz : XT.1 = false) (a : px_At E XT A s h H locs) (hP : va_P (E.1, E.2.1) vwCl (px_w E h1) H1) (hD : va_D A (px_w E h1)) (hS : va_S A s.heap H1 locs1) : px_At E XT A s h1 H1 locs1 :=
  ⟨a.1, hP, hD, hS, a.2.2.2.2.1, (fun h9 => by rw [hz] at h9; cases h9), a.2.2.2.2.2.2⟩
theorem V0_copyi {idx q0 q1 n0 n1 : Nat} {f g : Nat → Int32} {sp dp n : Int32} (hz : XT.1 = false) (hd : decode M.2.1 pc = .ok (.invokestatic idx, 3)) (hl : Cond.methodLink M.1.cls idx arraycopyName ∈ px_tbl) (hnat : Cond.native arraycopyName ∈ px_tbl) (hs : Cond.static arraycopyName ∈ px_tbl) (hi : Cond.initialized "java/lang/System" ∈ px_tbl)
    (h0 : h[q0]? = some (.inl (0, n0, .inl f))) (h1 : h[q1]? = some (.inl (0, n1, .inl g))) (z1 : ¬ sp < 0) (z2 : ¬ dp < 0) (z3 : ¬ n < 0) (z4 : sp.toNatClampNeg + n.toNatClampNeg ≤ n0) (z5 : dp.toNatClampNeg + n.toNatClampNeg ≤ n1) (hR : 1 ≤ R.frames) (hst : (st.map fun v => v.category).sum + (nativeFrameWords "java/lang/System" "arraycopy" 5 + 11) ≤ R.locals)
    (kk : V0 l R M XT kc ks (pc + 3) ls st (h.set q1 (.inl (0, n1, .inl (va_cpy f g sp.toNatClampNeg dp.toNatClampNeg n.toNatClampNeg)))) Q) : V0 l R M XT kc ks pc ls (.int n :: .int dp :: .ref q1 :: .int sp :: .ref q0 :: st) h Q := by
  intro E p e s m args below meth c A H locs lr Qs hF hAt hkc hks hL hret
  have T := hF.2.2.2.2.1
  refine va_copyi (D := (E.1, E.2.1)) (cl := vwCl) (tys := px_tys E) (A := A) (H0 := s.heap) hF.1 hF.2.1 (hF.2.2.1.trans hL.1.symm) hF.2.2.2.1 (T _ hl) (T _ hnat) (T _ hs) (T _ hi) hAt.1 hAt.2.1 hAt.2.2.1 hAt.2.2.2.1 q0 q1 0 0 (px_w_get h0) (px_w_get h1) rfl rfl rfl z1 z2 z3 z4 z5 (fun _ _ => rfl) hR (by rw [px_cats]; exact hst) hd (fun H1 locs1 hP1 hD1 hS1 => ?_)
  have hset : (px_w E h).set q1 (E.2.2.2.1 q1, .inl (E.2.2.1 0, n1, .inl (va_cpy f g sp.toNatClampNeg dp.toNatClampNeg n.toNatClampNeg))) = px_w E (h.set q1 (.inl (0, n1, .inl (va_cpy f g sp.toNatClampNeg dp.toNatClampNeg n.toNatClampNeg)))) := by
    rw [← px_w_set]; rfl
  exact kk E p e s m args below meth c A H1 locs1 lr Qs hF (px_At.copy hz hAt (by rw [← hset]; exact hP1) (by rw [← hset]; exact hD1) hS1) hkc hks hL hret
theorem V0_copyl {idx q0 q1 n0 n1 : Nat} {f g : Nat → Int64} {sp dp n : Int32} (hz : XT.1 = false) (hd : decode M.2.1 pc = .ok (.invokestatic idx, 3)) (hl : Cond.methodLink M.1.cls idx arraycopyName ∈ px_tbl) (hnat : Cond.native arraycopyName ∈ px_tbl) (hs : Cond.static arraycopyName ∈ px_tbl) (hi : Cond.initialized "java/lang/System" ∈ px_tbl)
    (h0 : h[q0]? = some (.inl (4, n0, .inr (.inl f)))) (h1 : h[q1]? = some (.inl (4, n1, .inr (.inl g)))) (z1 : ¬ sp < 0) (z2 : ¬ dp < 0) (z3 : ¬ n < 0) (z4 : sp.toNatClampNeg + n.toNatClampNeg ≤ n0) (z5 : dp.toNatClampNeg + n.toNatClampNeg ≤ n1) (hR : 1 ≤ R.frames) (hst : (st.map fun v => v.category).sum + (nativeFrameWords "java/lang/System" "arraycopy" 5 + 11) ≤ R.locals)
    (kk : V0 l R M XT kc ks (pc + 3) ls st (h.set q1 (.inl (4, n1, .inr (.inl (va_cpy f g sp.toNatClampNeg dp.toNatClampNeg n.toNatClampNeg))))) Q) : V0 l R M XT kc ks pc ls (.int n :: .int dp :: .ref q1 :: .int sp :: .ref q0 :: st) h Q := by
  intro E p e s m args below meth c A H locs lr Qs hF hAt hkc hks hL hret
  have T := hF.2.2.2.2.1
  refine va_copyl (D := (E.1, E.2.1)) (cl := vwCl) (tys := px_tys E) (A := A) (H0 := s.heap) hF.1 hF.2.1 (hF.2.2.1.trans hL.1.symm) hF.2.2.2.1 (T _ hl) (T _ hnat) (T _ hs) (T _ hi) hAt.1 hAt.2.1 hAt.2.2.1 hAt.2.2.2.1 q0 q1 4 4 (px_w_get h0) (px_w_get h1) rfl rfl rfl z1 z2 z3 z4 z5 (fun _ _ => rfl) hR (by rw [px_cats]; exact hst) hd (fun H1 locs1 hP1 hD1 hS1 => ?_)
  have hset : (px_w E h).set q1 (E.2.2.2.1 q1, .inl (E.2.2.1 4, n1, .inr (.inl (va_cpy f g sp.toNatClampNeg dp.toNatClampNeg n.toNatClampNeg)))) = px_w E (h.set q1 (.inl (4, n1, .inr (.inl (va_cpy f g sp.toNatClampNeg dp.toNatClampNeg n.toNatClampNeg))))) := by
    rw [← px_w_set]; rfl
  exact kk E p e s m args below meth c A H1 locs1 lr Qs hF (px_At.copy hz hAt (by rw [← hset]; exact hP1) (by rw [← hset]; exact hD1) hS1) hkc hks hL hret
/-- java.lang.Object's constructor -/
theorem V0_objInit {idx p0 : Nat} (hd : decode M.2.1 pc = .ok (.invokespecial idx, 3)) (hl : Cond.methodLink M.1.cls idx objectInit ∈ px_tbl) (hi : Cond.instanceMethod objectInit ∈ px_tbl) (hc : Cond.code objectInit ⟨#[0xb1]⟩ 1 none ∈ px_tbl) (hR : 1 ≤ R.frames) (hst : (st.map fun v => v.category).sum + 12 ≤ R.locals) (kk : V0 l R M XT kc ks (pc + 3) ls st h Q) : V0 l R M XT kc ks pc ls (.ref p0 :: st) h Q := by
  intro E p e s m args below meth c A H locs lr Qs hF hAt hkc hks hL hret
  have T := hF.2.2.2.2.1
  refine W.objInit hF.1 hF.2.1 hF.2.2.2.1 (T _ hl) (T _ hi) (T _ hc) rfl (hL.1.trans hF.2.2.1.symm) rfl hd hR (by show 2 * 0 + _ + 12 ≤ _; rw [px_cats]; omega) ?_
  exact kk E p e s m args below meth c A H locs lr Qs hF hAt hkc hks hL hret

/-- what the tables say of a method of ours that is called -/
def px_ok (M' : px_M) (n : Nat) : Prop := Cond.code M'.1 M'.2.1 M'.2.2.1 M'.2.2.2 ∈ px_tbl ∧ Cond.initialized M'.1.cls ∈ px_tbl ∧ M'.1.cls ≠ "java/lang/invoke/MethodHandle" ∧ M'.1.cls ≠ "java/lang/invoke/VarHandle" ∧ (parseMethodDescriptor M'.1.desc).map (fun d => d.parameters.length) = some n
theorem px_good : ∀ w ∈ px_tbl, w ∈ px_tbl ∧ ((w.onTables && w.keeps) = true ∨ ∃ ty, w = .arrayClass ty) := by
  intro w hw
  exact ⟨hw, good_of_word (List.mem_filter.mp hw).2⟩
theorem px_ws_pay {M' : px_M} {n : Nat} (ho : px_ok M' n) {args : Array Value} {s : State} (hts : ∀ w ∈ px_tbl, w.before args s = true) : ∀ w ∈ px_ws M', ∀ (a' : Array Value) (U : State), s.WarmedH U.vm → w.before a' U = true := by
  refine pay_in hts (fun w hw => ?_)
  rcases List.mem_cons.mp hw with rfl | hw
  · exact px_good _ ho.1
  · exact px_good _ hw
theorem px_callB {M' : px_M} {n d kc' ks' idx : Nat} {own : String} (ho : px_ok M' n) {args : Array Value} {s : State} (hts : ∀ w ∈ px_tbl, w.before args s = true) (hl : Cond.methodLink own idx M'.1 ∈ px_tbl) (hR : d + 1 ≤ R.frames ∧ 8 + (M'.2.2.1 + 11) + 41 * d ≤ R.locals) : CallB R s args own idx M'.1 M'.2.1 M'.2.2.1 M'.2.2.2 (px_ws M') (px_rm d kc' ks') kc' ks' n := by
  refine ⟨rfl, rfl, hR.1, hR.2, px_ws_pay ho hts, List.mem_cons_self, hts _ ho.1, hts _ ho.2.1, ⟨ho.2.2.1, ho.2.2.2.1⟩, fun sig h => ?_, hts _ hl⟩
  have h2 := ho.2.2.2.2
  rw [h] at h2
  exact (Option.some.inj h2).symm
theorem px_callN {M' : px_M} {n d kc' ks' idx : Nat} {own host : String} (ho : px_ok M' n) {args : Array Value} {s : State} (hts : ∀ w ∈ px_tbl, w.before args s = true) (hl : (Cond.methodLinkNest own idx M'.1 host).before args s = true) (hR : d + 1 ≤ R.frames ∧ 8 + (M'.2.2.1 + 11) + 41 * d ≤ R.locals) : va_CN R s args own idx M'.1 host M'.2.1 M'.2.2.1 M'.2.2.2 (px_ws M') (px_rm d kc' ks') kc' ks' n := by
  refine ⟨⟨rfl, rfl, hR.1, hR.2, px_ws_pay ho hts, List.mem_cons_self⟩, hts _ ho.1, hts _ ho.2.1, ⟨ho.2.2.1, ho.2.2.2.1⟩, fun sig h => ?_, hl⟩
  have h2 := ho.2.2.2.2
  rw [h] at h2
  exact (Option.some.inj h2).symm
theorem px_blind {z : Bool} {E : px_G} {sz : Nat} {as : List Value} {h : px_H} : FrameBlind (px_Pc z E sz as h) := by
  rintro a U g mk ⟨q0, q1, q2, q3, q4, q5, q6, q7⟩
  exact ⟨q0, q1, q2, va_K.moved (u := U) (U := U.calling g mk a) (Vm.Alike.refl U.vm) q3, q4, q5, px_S.moved (u := U) (U := U.calling g mk a) (Vm.Alike.refl U.vm) q6, fun q hq => va_Nw.same (u := U) rfl rfl (q7 q hq)⟩
theorem px_sub {E : px_G} {A : Nat → Prop} {s : State} {H : Heap} {locs : List Loc} (a : px_At E XT A s h H locs) : ∀ q, va_A (px_w E h) H.size q → A q := by
  intro q hq
  rcases hq with ⟨k, e, hk⟩ | hq
  · exact a.2.2.1.2 k (q, e) hk
  · exact a.2.2.2.2.1 q (Nat.le_trans a.2.2.2.1.1 hq)
theorem px_pre {E : px_G} {A : Nat → Prop} {s : State} {H : Heap} {locs : List Loc} {as : List Value} (hN : px_N s) (a : px_At E XT A s h H locs) (U : State) (hU : U.heap = H) (hW : s.WarmedH U.vm) : px_Pc XT.1 E H.size as h (as.map (px_v E)).toArray U := by
  subst hU
  refine ⟨rfl, rfl, a.2.1, va_K.moved hW.alike a.1, a.2.2.1.weaken (fun _ _ _ _ => trivial), a.2.2.2.2.2.1, ?_, fun q hq => va_Nw.warmM hW (hN q hq)⟩
  exact px_S.moved hW.alike ((px_S.kept (a.2.2.2.2.2.2.less) (fun q h1 h2 => a.2.2.2.1.2.1 q h1 h2)).narrow (px_sub a))
/-- behind any call: the run, and the caller's goal -/
theorem px_after {E : px_G} {p : Program} {e : Env} {s : State} {m : MethodId} {args : Array Value} {below : List Frame} {meth : Method} {c : Code} {A : Nat → Prop} {H : Heap} {locs : List Loc} {lr : Array Slot} {Qs : State → Prop} {kc' ks' : Nat} {st0 : List Value} {av : Array Value} {Qk : Option Value → px_H → Prop}
    (run : va_Run p l e R s m args below meth c H locs kc ks kc' ks' (F0 m pc lr st0) (st.map (px_v E)) (px_Qc XT.1 E H.size h Qk av) (va_A (px_w E h) H.size))
    (hF : px_Fix p s m args meth c M) (hAt : px_At E XT A s h H locs) (hc : kc + kc' ≤ R.cells) (hs : ks + ks' ≤ R.slots) (hL : px_L E M.2.2.1 lr ls)
    (hret : ∀ (r : Option Value) (h' : px_H) (H' : Heap) (locs' : List Loc) (kc' ks' pc' : Nat) (lr' : Array Slot), Q r h' → px_At E XT A s h' H' locs' → kc' ≤ R.cells → ks' ≤ R.slots → px_ret M pc' r → W p l e R s m args below meth c H' locs' kc' ks' Qs (F0 m pc' lr' (r.toList.map (px_v E))))
    (kk : ∀ (r : Option Value) (h1 : px_H), Qk r h1 → V0 l R M XT (kc + kc') (ks + ks') (pc + 3) ls (r.toList ++ st) h1 Q) : W p l e R s m args below meth c H locs kc ks Qs (F0 m pc lr st0) := by
  intro T hT X
  obtain ⟨v, st₀, t, T', L, h0, X', hL', e1, e2, ⟨⟨r, h1, hv, hq, hP1, hD1, hZ1⟩, hz, hk⟩, stp⟩ := run T hT X
  have hv : v = r.map (px_v E) := by injection hv
  subst hv
  rw [h0] at hz hk
  have hsub := px_sub hAt
  have hAt1 : px_At E XT A s h1 T'.heap (locs ++ L) := by
    refine ⟨hAt.1, by rw [e1]; exact hP1, hD1.weaken (fun k q _ hh => hsub q.1 hh), ?_, hAt.2.2.2.2.1, by rw [e1]; exact hZ1, hAt.2.2.2.2.2.2⟩
    have hS := hAt.2.2.2.1
    refine ⟨Nat.le_trans hS.1 (by rw [e1]; exact hz), fun q g1 g2 => ?_, fun q hq => ?_⟩
    · rw [e1, hk q (Nat.lt_of_lt_of_le g1 hS.1) (fun zz => g2 (hsub q zz))]
      exact hS.2.1 q g1 g2
    · rcases List.mem_append.mp hq with hh | hh
      · exact hS.2.2 q hh
      · exact hsub _ (hL' q hh)
  obtain ⟨t2, a1, b1⟩ := kk r h1 hq E p e s m args below meth c A T'.heap (locs ++ L) lr Qs hF hAt1 hc hs hL hret T' rfl X'
  refine ⟨t2, stp t2 ?_, b1⟩
  have hst : (r.toList ++ st).map (px_v E) = (r.map (px_v E)).toList ++ st.map (px_v E) := by cases r <;> simp
  rw [hst] at a1
  exact a1
def px_okV (M' : px_M) (n : Nat) : Prop := px_ok M' n ∧ Cond.instanceMethod M'.1 ∈ px_tbl ∧ Cond.selects M'.1.cls M'.1 M'.1 ∈ px_tbl
def px_okS (M' : px_M) (n : Nat) : Prop := px_ok M' n ∧ Cond.static M'.1 ∈ px_tbl
def px_okI (M' : px_M) (n : Nat) : Prop := px_ok M' n ∧ Cond.instanceMethod M'.1 ∈ px_tbl ∧ M'.1.name = "<init>" ∧ M'.2.2.2 = none
theorem V0_callV {M' : px_M} {n d kc' ks' idx b ci : Nat} {As : List Value} {fs : List Value} {Qk : Option Value → px_H → Prop} {st0 : List Value} (hd : decode M.2.1 pc = .ok (.invokevirtual idx, 3)) (hl : Cond.methodLink M.1.cls idx M'.1 ∈ px_tbl) (ho : px_okV M' n) (hC : Ct0 l XT.1 M' d kc' ks' (.ref b :: As) h Qk) (hn : As.length = n) (hst : st0 = As.reverse ++ .ref b :: st) (he : h[b]? = some (.inr (ci, fs))) (hci : vwCl[ci]?.map (fun q => q.1) = some M'.1.cls)
    (hR : d + 1 ≤ R.frames ∧ 8 + (M'.2.2.1 + 11) + 41 * d ≤ R.locals) (hc : kc + kc' ≤ R.cells) (hs : ks + ks' ≤ R.slots) (hw : (st.map fun v => v.category).sum ≤ 8) (kk : ∀ (r : Option Value) (h1 : px_H), Qk r h1 → V0 l R M XT (kc + kc') (ks + ks') (pc + 3) ls (r.toList ++ st) h1 Q) : V0 l R M XT kc ks pc ls st0 h Q := by
  intro E p e s m args below meth c A H locs lr Qs hF hAt hkc hks hL hret
  subst hst
  have T := hF.2.2.2.2.1
  refine px_after (av := ((.ref b :: As).map (px_v E)).toArray) ?_ hF hAt hc hs hL hret kk
  obtain ⟨q, hq, hq1⟩ : ∃ q, vwCl[ci]? = some q ∧ q.1 = M'.1.cls := by
    cases hh : vwCl[ci]? with
    | none => rw [hh] at hci; cases hci
    | some q => rw [hh] at hci; exact ⟨q, rfl, Option.some.inj hci⟩
  have hrecv := va_recv (s := s) (H := H) hAt.1 hAt.2.1 hq (px_w_get (E := E) he)
  rw [hq1] at hrecv
  exact va_runV (As := As.map (px_v E)) (rest := st.map (px_v E)) (g := F0 m pc lr ((As.reverse ++ .ref b :: st).map (px_v E))) ⟨hF.1, hF.2.1, hF.2.2.1, hF.2.2.2.1, T⟩ (hC E H.size) ⟨px_callB ho.1 T hl hR, T _ ho.2.1, T _ ho.2.2⟩ ⟨px_blind, hrecv, fun U hU hW => px_pre (as := .ref b :: As) hF.2.2.2.2.2.2 hAt U hU hW⟩ rfl (by rw [List.length_map]; exact hn) hL.1 (by simp [List.map_append, List.map_reverse]; rfl) (lv_room (by rw [px_cats]; exact hw)) hd ⟨hc, hs⟩
theorem V0_callS {M' : px_M} {n d kc' ks' idx : Nat} {As : List Value} {Qk : Option Value → px_H → Prop} {st0 : List Value} (hd : decode M.2.1 pc = .ok (.invokestatic idx, 3)) (hl : Cond.methodLink M.1.cls idx M'.1 ∈ px_tbl) (ho : px_okS M' n) (hC : Ct0 l XT.1 M' d kc' ks' As h Qk) (hn : As.length = n) (hst : st0 = As.reverse ++ st)
    (hR : d + 1 ≤ R.frames ∧ 8 + (M'.2.2.1 + 11) + 41 * d ≤ R.locals) (hc : kc + kc' ≤ R.cells) (hs : ks + ks' ≤ R.slots) (hw : (st.map fun v => v.category).sum ≤ 8) (kk : ∀ (r : Option Value) (h1 : px_H), Qk r h1 → V0 l R M XT (kc + kc') (ks + ks') (pc + 3) ls (r.toList ++ st) h1 Q) : V0 l R M XT kc ks pc ls st0 h Q := by
  intro E p e s m args below meth c A H locs lr Qs hF hAt hkc hks hL hret
  subst hst
  have T := hF.2.2.2.2.1
  refine px_after (av := (As.map (px_v E)).toArray) ?_ hF hAt hc hs hL hret kk
  exact va_runS (As := As.map (px_v E)) (rest := st.map (px_v E)) (g := F0 m pc lr ((As.reverse ++ st).map (px_v E))) ⟨hF.1, hF.2.1, hF.2.2.1, hF.2.2.2.1, T⟩ (hC E H.size) ⟨px_callB ho.1 T hl hR, T _ ho.2⟩ ⟨px_blind, fun U hU hW => px_pre (as := As) hF.2.2.2.2.2.2 hAt U hU hW⟩ rfl (by rw [List.length_map]; exact hn) hL.1 (by simp [List.map_append, List.map_reverse]) (lv_room (by rw [px_cats]; exact hw)) hd ⟨hc, hs⟩
theorem V0_callSN {M' : px_M} {n d kc' ks' idx : Nat} {host : String} {As : List Value} {Qk : Option Value → px_H → Prop} {st0 : List Value} (hd : decode M.2.1 pc = .ok (.invokestatic idx, 3)) (hl : (M.1.cls, idx, M'.1, host) ∈ px_nest) (ho : px_okS M' n) (hC : Ct0 l XT.1 M' d kc' ks' As h Qk) (hn : As.length = n) (hst : st0 = As.reverse ++ st)
    (hR : d + 1 ≤ R.frames ∧ 8 + (M'.2.2.1 + 11) + 41 * d ≤ R.locals) (hc : kc + kc' ≤ R.cells) (hs : ks + ks' ≤ R.slots) (hw : (st.map fun v => v.category).sum ≤ 8) (kk : ∀ (r : Option Value) (h1 : px_H), Qk r h1 → V0 l R M XT (kc + kc') (ks + ks') (pc + 3) ls (r.toList ++ st) h1 Q) : V0 l R M XT kc ks pc ls st0 h Q := by
  intro E p e s m args below meth c A H locs lr Qs hF hAt hkc hks hL hret
  subst hst
  have T := hF.2.2.2.2.1
  refine px_after (av := (As.map (px_v E)).toArray) ?_ hF hAt hc hs hL hret kk
  exact va_runSN (As := As.map (px_v E)) (rest := st.map (px_v E)) (g := F0 m pc lr ((As.reverse ++ st).map (px_v E))) ⟨hF.1, hF.2.1, hF.2.2.1, hF.2.2.2.1, T⟩ (hC E H.size) ⟨px_callN ho.1 T (va_Nw.use rfl (hF.2.2.2.2.2.2 _ hl)) hR, T _ ho.2, trivial⟩ ⟨px_blind, fun U hU hW => px_pre (as := As) hF.2.2.2.2.2.2 hAt U hU hW⟩ rfl (by rw [List.length_map]; exact hn) hL.1 (by simp [List.map_append, List.map_reverse]) (lv_room (by rw [px_cats]; exact hw)) hd ⟨hc, hs⟩
theorem V0_callI {M' : px_M} {n d kc' ks' idx b : Nat} {As : List Value} {Qk : Option Value → px_H → Prop} {st0 : List Value} (hd : decode M.2.1 pc = .ok (.invokespecial idx, 3)) (hl : Cond.methodLink M.1.cls idx M'.1 ∈ px_tbl) (ho : px_okI M' n) (hC : Ct0 l XT.1 M' d kc' ks' (.ref b :: As) h Qk) (hn : As.length = n) (hst : st0 = As.reverse ++ .ref b :: st)
    (hR : d + 1 ≤ R.frames ∧ 8 + (M'.2.2.1 + 11) + 41 * d ≤ R.locals) (hc : kc + kc' ≤ R.cells) (hs : ks + ks' ≤ R.slots) (hw : (st.map fun v => v.category).sum ≤ 8) (kk : ∀ (r : Option Value) (h1 : px_H), Qk r h1 → V0 l R M XT (kc + kc') (ks + ks') (pc + 3) ls (r.toList ++ st) h1 Q) : V0 l R M XT kc ks pc ls st0 h Q := by
  intro E p e s m args below meth c A H locs lr Qs hF hAt hkc hks hL hret
  subst hst
  have T := hF.2.2.2.2.1
  refine px_after (av := ((.ref b :: As).map (px_v E)).toArray) ?_ hF hAt hc hs hL hret kk
  have hcb := px_callB (kc' := kc') (ks' := ks') ho.1 T hl hR
  rw [ho.2.2.2] at hcb
  exact va_runI (As := As.map (px_v E)) (rest := st.map (px_v E)) (g := F0 m pc lr ((As.reverse ++ .ref b :: st).map (px_v E))) ⟨hF.1, hF.2.1, hF.2.2.1, hF.2.2.2.1, T⟩ (hC E H.size) ⟨hcb, ho.2.2.1, T _ ho.2.1⟩ ⟨px_blind, fun U hU hW => px_pre (as := .ref b :: As) hF.2.2.2.2.2.2 hAt U hU hW⟩ rfl (by rw [List.length_map]; exact hn) hL.1 (by simp [List.map_append, List.map_reverse]; rfl) (lv_room (by rw [px_cats]; exact hw)) hd ⟨hc, hs⟩
theorem V0_callIN {M' : px_M} {n d kc' ks' idx b : Nat} {host : String} {As : List Value} {Qk : Option Value → px_H → Prop} {st0 : List Value} (hd : decode M.2.1 pc = .ok (.invokespecial idx, 3)) (hl : (M.1.cls, idx, M'.1, host) ∈ px_nest) (ho : px_okI M' n) (hC : Ct0 l XT.1 M' d kc' ks' (.ref b :: As) h Qk) (hn : As.length = n) (hst : st0 = As.reverse ++ .ref b :: st)
    (hR : d + 1 ≤ R.frames ∧ 8 + (M'.2.2.1 + 11) + 41 * d ≤ R.locals) (hc : kc + kc' ≤ R.cells) (hs : ks + ks' ≤ R.slots) (hw : (st.map fun v => v.category).sum ≤ 8) (kk : ∀ (r : Option Value) (h1 : px_H), Qk r h1 → V0 l R M XT (kc + kc') (ks + ks') (pc + 3) ls (r.toList ++ st) h1 Q) : V0 l R M XT kc ks pc ls st0 h Q := by
  intro E p e s m args below meth c A H locs lr Qs hF hAt hkc hks hL hret
  subst hst
  have T := hF.2.2.2.2.1
  refine px_after (av := ((.ref b :: As).map (px_v E)).toArray) ?_ hF hAt hc hs hL hret kk
  have hcb := px_callN (kc' := kc') (ks' := ks') ho.1 T (va_Nw.use rfl (hF.2.2.2.2.2.2 _ hl)) hR
  rw [ho.2.2.2] at hcb
  exact va_runIN (As := As.map (px_v E)) (rest := st.map (px_v E)) (g := F0 m pc lr ((As.reverse ++ .ref b :: st).map (px_v E))) ⟨hF.1, hF.2.1, hF.2.2.1, hF.2.2.2.1, T⟩ (hC E H.size) ⟨hcb, ho.2.2.1, T _ ho.2.1⟩ ⟨px_blind, fun U hU hW => px_pre (as := .ref b :: As) hF.2.2.2.2.2.2 hAt U hU hW⟩ rfl (by rw [List.length_map]; exact hn) hL.1 (by simp [List.map_append, List.map_reverse]; rfl) (lv_room (by rw [px_cats]; exact hw)) hd ⟨hc, hs⟩
/-- makes -/
theorem px_At.push {E : px_G} {A : Nat → Prop} {s : State} {H H1 : Heap} {locs : List Loc} {e : px_E} (hz : XT.1 = true) (a : px_At E XT A s h H locs) (he : va_at (E.1, E.2.1) vwCl (H.size, px_e E e) H1) (z1 : H1.size = H.size + 1) (o1 : ∀ q, q < H.size → H1[q]? = H[q]?) : px_At E XT A s (h ++ [e]) H1 locs ∧ E.2.2.2.1 h.length = H.size := by
  obtain ⟨hK, hP, hD, hS, hA, hZ, hT⟩ := a
  have hZ := hZ hz
  have h0 : E.2.2.2.1 h.length = H.size := by have := hZ 0; simpa using this
  have hk : ∀ (k : Nat) (x : Nat × va_E), (px_w E h)[k]? = some x → H1[x.1]? = H[x.1]? := fun k x hx => o1 x.1 ((hP k x hx).lt)
  refine ⟨⟨hK, ?_, ?_, ⟨Nat.le_trans hS.1 (by omega), fun x g1 g2 => (o1 x (Nat.lt_of_lt_of_le g1 hS.1)).trans (hS.2.1 x g1 g2), hS.2.2⟩, hA, ?_, hT⟩, h0⟩
  · unfold px_P
    rw [px_w_app, h0]
    refine (va_P.kept hP hk).app (fun k x hx => ?_)
    have hz1 : k < 1 := (List.getElem?_eq_some_iff.mp hx).1
    rw [show k = 0 by omega] at hx
    cases hx
    exact he
  · rw [px_w_app, h0]
    exact hD.push hP rfl (hA _ hS.1)
  · intro _ j
    rw [List.length_append, z1]
    have := hZ (1 + j)
    rw [← Nat.add_assoc] at this
    simp only [List.length_cons, List.length_nil, Nat.zero_add]
    omega
theorem V0_new {idx ci N nh : Nat} {C : String} {T : u_T} {ty : Nat → FieldType} {fs : List Value} (hz : XT.1 = true) (hd : decode M.2.1 pc = .ok (.new idx, 3)) (hc : vwCl[ci]? = some (C, T, N)) (hin : ∀ w ∈ u_ws C T N, w ∈ px_tbl) (hty : ∀ k, k < N → parseFieldDescriptor (T k).2.2.1 = some (ty k)) (hcl : Cond.classLink M.1.cls idx C ∈ px_tbl) (hi : Cond.instantiable C N ∈ px_tbl) (hini : Cond.initialized C ∈ px_tbl) (hfs : ∀ j, j < N → defaultValue (ty j) = vp_V fs j) (hnr : ∀ E, fs.map (px_v E) = fs) (hkc1 : kc + 1 ≤ R.cells) (hks1 : ks + N ≤ R.slots) (hh : h.length = nh)
    (kk : V0 l R M XT (kc + 1) (ks + N) (pc + 3) ls (.ref nh :: st) (h ++ [.inr (ci, fs)]) Q) : V0 l R M XT kc ks pc ls st h Q := by
  intro E p e s m args below meth c A H locs lr Qs hF hAt hkc hks hL hret
  subst hh
  have Tt := hF.2.2.2.2.1
  have hKn := hAt.1.1 ci _ hc
  refine W.newcK hF.1 hF.2.1 hF.2.2.2.1 (Tt _ hcl) (Tt _ hi) (Tt _ hini) rfl hd hkc1 hks1 hKn.2.1 rfl fun H1 kC hkC e1 z1 o1 => ?_
  have hat : va_at (E.1, E.2.1) vwCl (H.size, px_e E (.inr (ci, fs))) H1 := by
    show va_at _ _ (H.size, .inr (ci, fs.map (px_v E))) H1
    rw [hnr E]
    exact ⟨_, hc, (u_born ty Tt hin hKn hkC e1 hty).to hfs⟩
  obtain ⟨a1, h0⟩ := px_At.push hz hAt hat z1 o1
  have := kk E p e s m args below meth c A H1 locs lr Qs hF a1 hkc1 hks1 hL hret
  simp only [List.map_cons, px_v, h0] at this
  exact this
def px_at0 : Nat → ArrayType
  | 0 => .int
  | 1 => .byte
  | 2 => .boolean
  | 3 => .short
  | _ => .long
theorem px_arr {E : px_G} {U : State} (hK : px_K E U) {t : Nat} {ty : FieldType} (ht : (px_tys E)[t]? = some (E.2.2.1 t, ty)) (hty : ∀ C, ty ≠ .object C) {cA : ClassId} (h : U.vm.findClass ("[" ++ ty.toString) = some cA) : cA = E.2.2.1 t := by
  have h2 := (hK.2 t _ ht).2
  cases ty with
  | object C => exact absurd rfl (hty C)
  | _ => exact Option.some.inj (h.symm.trans h2)
theorem V0_newi {t N nh : Nat} {n : Int32} {ty : ArrayType} {fty : FieldType} (hz : XT.1 = true) (hd : decode M.2.1 pc = .ok (.newarray ty, 2)) (hfty : newarray.typeOf ty = fty) (ht : ∀ E : px_G, (px_tys E)[t]? = some (E.2.2.1 t, fty)) (hobj : ∀ C, fty ≠ .object C) (hdv : defaultValue fty = .int 0) (ha : Cond.arrayClass fty ∈ px_tbl) (hn : ¬ n < 0) (hN : n.toNatClampNeg = N) (hby : N * componentBytes fty ≤ 536870912) (hkc1 : kc + 1 ≤ R.cells) (hks1 : ks + N ≤ R.slots) (hh : h.length = nh)
    (kk : V0 l R M XT (kc + 1) (ks + N) (pc + 2) ls (.ref nh :: st) (h ++ [.inl (t, N, .inl (fun _ => 0))]) Q) : V0 l R M XT kc ks pc ls (.int n :: st) h Q := by
  intro E p e s m args below meth c A H locs lr Qs hF hAt hkc hks hL hret
  subst hh
  subst hfty
  have Tt := hF.2.2.2.2.1
  refine va_newaK hF.1 hF.2.1 (Tt _ ha) rfl hd rfl hn hN hby hkc1 hks1 rfl fun H1 cA e1 z1 o1 hAr hNm => ?_
  have hcA := px_arr hAt.1 (ht E) hobj hNm
  subst hcA
  rw [hdv] at e1
  obtain ⟨a1, h0⟩ := px_At.push (e := .inl (t, N, .inl (fun _ => 0))) hz hAt e1 z1 o1
  have := kk E p e s m args below meth c A H1 locs lr Qs hF a1 hkc1 hks1 hL hret
  simp only [List.map_cons, px_v, h0] at this
  exact this
theorem V0_newl {N nh : Nat} {n : Int32} (hz : XT.1 = true) (hd : decode M.2.1 pc = .ok (.newarray .long, 2)) (ha : Cond.arrayClass .long ∈ px_tbl) (hn : ¬ n < 0) (hN : n.toNatClampNeg = N) (hby : N * componentBytes .long ≤ 536870912) (hkc1 : kc + 1 ≤ R.cells) (hks1 : ks + N ≤ R.slots) (hh : h.length = nh)
    (kk : V0 l R M XT (kc + 1) (ks + N) (pc + 2) ls (.ref nh :: st) (h ++ [.inl (4, N, .inr (.inl (fun _ => 0)))]) Q) : V0 l R M XT kc ks pc ls (.int n :: st) h Q := by
  intro E p e s m args below meth c A H locs lr Qs hF hAt hkc hks hL hret
  subst hh
  have Tt := hF.2.2.2.2.1
  refine va_newaK (atype := .long) hF.1 hF.2.1 (Tt _ ha) rfl hd rfl hn hN hby hkc1 hks1 rfl fun H1 cA e1 z1 o1 hAr hNm => ?_
  have hcA := px_arr (t := 4) (ty := .long) hAt.1 rfl (fun C h => by cases h) hNm
  subst hcA
  obtain ⟨a1, h0⟩ := px_At.push (e := .inl (4, N, .inr (.inl (fun _ => 0)))) hz hAt e1 z1 o1
  have := kk E p e s m args below meth c A H1 locs lr Qs hF a1 hkc1 hks1 hL hret
  simp only [List.map_cons, px_v, h0] at this
  exact this

end PX
end
section
/-! words of the tables, by their places -/
set_option maxRecDepth 100000 in
theorem inX0 : ∀ w ∈ u_ws RX0 TX0 5, w ∈ px_tbl := by decide +kernel
set_option maxRecDepth 100000 in
theorem inX1 : ∀ w ∈ u_ws RX1 TX1 7, w ∈ px_tbl := by decide +kernel
set_option maxRecDepth 100000 in
theorem inX2 : ∀ w ∈ u_ws RX2 TX2 7, w ∈ px_tbl := by decide +kernel
set_option maxRecDepth 100000 in
theorem inX3 : ∀ w ∈ u_ws RX3 TX3 5, w ∈ px_tbl := by decide +kernel
set_option maxRecDepth 100000 in
theorem inX4 : ∀ w ∈ u_ws RX4 TX4 2, w ∈ px_tbl := by decide +kernel
set_option maxRecDepth 100000 in
theorem inX5 : ∀ w ∈ u_ws RX5 TX5 3, w ∈ px_tbl := by decide +kernel
set_option maxRecDepth 100000 in
theorem inX6 : ∀ w ∈ u_ws RX6 TX6 4, w ∈ px_tbl := by decide +kernel
set_option maxRecDepth 100000 in
theorem inX7 : ∀ w ∈ u_ws RX7 TX7 10, w ∈ px_tbl := by decide +kernel
set_option maxRecDepth 100000 in
theorem inX8 : ∀ w ∈ u_ws RX8 TX8 5, w ∈ px_tbl := by decide +kernel
set_option maxRecDepth 100000 in
theorem inX9 : ∀ w ∈ u_ws RX9 TX9 6, w ∈ px_tbl := by decide +kernel
set_option maxRecDepth 100000 in
theorem inX10 : ∀ w ∈ u_ws RX10 TX10 6, w ∈ px_tbl := by decide +kernel
set_option maxRecDepth 100000 in
theorem inX11 : ∀ w ∈ u_ws RX11 TX11 15, w ∈ px_tbl := by decide +kernel
set_option maxRecDepth 100000 in
theorem inX12 : ∀ w ∈ u_ws RX12 TX12 59, w ∈ px_tbl := by decide +kernel
def mX0_init : px_M := (yX0_init, cX0_init, 1, none)
theorem okX0_init : px_okI mX0_init 0 := ⟨⟨px_in (List.mem_of_getElem? (i := 420) (by decide +kernel)) rfl, px_in (List.mem_of_getElem? (i := 108) (by decide +kernel)) rfl, by decide +kernel, by decide +kernel, by decide +kernel⟩, px_in (List.mem_of_getElem? (i := 419) (by decide +kernel)) rfl, rfl, rfl⟩
theorem plX0_init : plainFor mX0_init.1 = true := by decide +kernel
def mX0_isBody : px_M := (yX0_isBody, cX0_isBody, 2, (some .boolean))
theorem okX0_isBody : px_okV mX0_isBody 1 := ⟨⟨px_in (List.mem_of_getElem? (i := 1035) (by decide +kernel)) rfl, px_in (List.mem_of_getElem? (i := 108) (by decide +kernel)) rfl, by decide +kernel, by decide +kernel, by decide +kernel⟩, px_in (List.mem_of_getElem? (i := 1033) (by decide +kernel)) rfl, px_in (List.mem_of_getElem? (i := 1034) (by decide +kernel)) rfl⟩
theorem plX0_isBody : plainFor mX0_isBody.1 = true := by decide +kernel
def mX0_add : px_M := (yX0_add, cX0_add, 2, (some .int))
theorem okX0_add : px_okV mX0_add 1 := ⟨⟨px_in (List.mem_of_getElem? (i := 1023) (by decide +kernel)) rfl, px_in (List.mem_of_getElem? (i := 108) (by decide +kernel)) rfl, by decide +kernel, by decide +kernel, by decide +kernel⟩, px_in (List.mem_of_getElem? (i := 1021) (by decide +kernel)) rfl, px_in (List.mem_of_getElem? (i := 1022) (by decide +kernel)) rfl⟩
theorem plX0_add : plainFor mX0_add.1 = true := by decide +kernel
def mX0_traced : px_M := (yX0_traced, cX0_traced, 1, (some .int))
theorem okX0_traced : px_okV mX0_traced 0 := ⟨⟨px_in (List.mem_of_getElem? (i := 1062) (by decide +kernel)) rfl, px_in (List.mem_of_getElem? (i := 108) (by decide +kernel)) rfl, by decide +kernel, by decide +kernel, by decide +kernel⟩, px_in (List.mem_of_getElem? (i := 1060) (by decide +kernel)) rfl, px_in (List.mem_of_getElem? (i := 1061) (by decide +kernel)) rfl⟩
theorem plX0_traced : plainFor mX0_traced.1 = true := by decide +kernel
def mX0_isUnder : px_M := (yX0_isUnder, cX0_isUnder, 4, (some .boolean))
theorem okX0_isUnder : px_okS mX0_isUnder 2 := ⟨⟨px_in (List.mem_of_getElem? (i := 1131) (by decide +kernel)) rfl, px_in (List.mem_of_getElem? (i := 108) (by decide +kernel)) rfl, by decide +kernel, by decide +kernel, by decide +kernel⟩, px_in (List.mem_of_getElem? (i := 1130) (by decide +kernel)) rfl⟩
theorem plX0_isUnder : plainFor mX0_isUnder.1 = true := by decide +kernel
def mX0_perform : px_M := (yX0_perform, cX0_perform, 4, (some .int))
theorem okX0_perform : px_okV mX0_perform 3 := ⟨⟨px_in (List.mem_of_getElem? (i := 1031) (by decide +kernel)) rfl, px_in (List.mem_of_getElem? (i := 108) (by decide +kernel)) rfl, by decide +kernel, by decide +kernel, by decide +kernel⟩, px_in (List.mem_of_getElem? (i := 1029) (by decide +kernel)) rfl, px_in (List.mem_of_getElem? (i := 1030) (by decide +kernel)) rfl⟩
theorem plX0_perform : plainFor mX0_perform.1 = true := by decide +kernel
def mX0_ask : px_M := (yX0_ask, cX0_ask, 4, (some .int))
theorem okX0_ask : px_okV mX0_ask 3 := ⟨⟨px_in (List.mem_of_getElem? (i := 1039) (by decide +kernel)) rfl, px_in (List.mem_of_getElem? (i := 108) (by decide +kernel)) rfl, by decide +kernel, by decide +kernel, by decide +kernel⟩, px_in (List.mem_of_getElem? (i := 1038) (by decide +kernel)) rfl, px_in (List.mem_of_getElem? (i := 29) (by decide +kernel)) rfl⟩
theorem plX0_ask : plainFor mX0_ask.1 = true := by decide +kernel
def mX0_holderFrom : px_M := (yX0_holderFrom, cX0_holderFrom, 4, (some .int))
theorem okX0_holderFrom : px_okS mX0_holderFrom 2 := ⟨⟨px_in (List.mem_of_getElem? (i := 1046) (by decide +kernel)) rfl, px_in (List.mem_of_getElem? (i := 108) (by decide +kernel)) rfl, by decide +kernel, by decide +kernel, by decide +kernel⟩, px_in (List.mem_of_getElem? (i := 1045) (by decide +kernel)) rfl⟩
theorem plX0_holderFrom : plainFor mX0_holderFrom.1 = true := by decide +kernel
def mX0_note : px_M := (yX0_note, cX0_note, 2, none)
theorem okX0_note : px_okV mX0_note 1 := ⟨⟨px_in (List.mem_of_getElem? (i := 1054) (by decide +kernel)) rfl, px_in (List.mem_of_getElem? (i := 108) (by decide +kernel)) rfl, by decide +kernel, by decide +kernel, by decide +kernel⟩, px_in (List.mem_of_getElem? (i := 1053) (by decide +kernel)) rfl, px_in (List.mem_of_getElem? (i := 31) (by decide +kernel)) rfl⟩
theorem plX0_note : plainFor mX0_note.1 = true := by decide +kernel
def mX0_run : px_M := (yX0_run, cX0_run, 8, (some .int))
theorem okX0_run : px_okV mX0_run 4 := ⟨⟨px_in (List.mem_of_getElem? (i := 1043) (by decide +kernel)) rfl, px_in (List.mem_of_getElem? (i := 108) (by decide +kernel)) rfl, by decide +kernel, by decide +kernel, by decide +kernel⟩, px_in (List.mem_of_getElem? (i := 1042) (by decide +kernel)) rfl, px_in (List.mem_of_getElem? (i := 30) (by decide +kernel)) rfl⟩
theorem plX0_run : plainFor mX0_run.1 = true := by decide +kernel
def mX1_init : px_M := (yX1_init, cX1_init, 2, none)
theorem okX1_init : px_okI mX1_init 1 := ⟨⟨px_in (List.mem_of_getElem? (i := 288) (by decide +kernel)) rfl, px_in (List.mem_of_getElem? (i := 103) (by decide +kernel)) rfl, by decide +kernel, by decide +kernel, by decide +kernel⟩, px_in (List.mem_of_getElem? (i := 287) (by decide +kernel)) rfl, rfl, rfl⟩
theorem plX1_init : plainFor mX1_init.1 = true := by decide +kernel
def mX1_add : px_M := (yX1_add, cX1_add, 5, none)
theorem okX1_add : px_okV mX1_add 4 := ⟨⟨px_in (List.mem_of_getElem? (i := 581) (by decide +kernel)) rfl, px_in (List.mem_of_getElem? (i := 103) (by decide +kernel)) rfl, by decide +kernel, by decide +kernel, by decide +kernel⟩, px_in (List.mem_of_getElem? (i := 579) (by decide +kernel)) rfl, px_in (List.mem_of_getElem? (i := 580) (by decide +kernel)) rfl⟩
theorem plX1_add : plainFor mX1_add.1 = true := by decide +kernel
def mX1_forgetOldest : px_M := (yX1_forgetOldest, cX1_forgetOldest, 1, none)
theorem okX1_forgetOldest : px_okV mX1_forgetOldest 0 := ⟨⟨px_in (List.mem_of_getElem? (i := 585) (by decide +kernel)) rfl, px_in (List.mem_of_getElem? (i := 103) (by decide +kernel)) rfl, by decide +kernel, by decide +kernel, by decide +kernel⟩, px_in (List.mem_of_getElem? (i := 584) (by decide +kernel)) rfl, px_in (List.mem_of_getElem? (i := 4) (by decide +kernel)) rfl⟩
theorem plX1_forgetOldest : plainFor mX1_forgetOldest.1 = true := by decide +kernel
def mX1_takeBack : px_M := (yX1_takeBack, cX1_takeBack, 1, (some .boolean))
theorem okX1_takeBack : px_okV mX1_takeBack 0 := ⟨⟨px_in (List.mem_of_getElem? (i := 1006) (by decide +kernel)) rfl, px_in (List.mem_of_getElem? (i := 103) (by decide +kernel)) rfl, by decide +kernel, by decide +kernel, by decide +kernel⟩, px_in (List.mem_of_getElem? (i := 1004) (by decide +kernel)) rfl, px_in (List.mem_of_getElem? (i := 1005) (by decide +kernel)) rfl⟩
theorem plX1_takeBack : plainFor mX1_takeBack.1 = true := by decide +kernel
def mX1_doAgain : px_M := (yX1_doAgain, cX1_doAgain, 1, (some .boolean))
theorem okX1_doAgain : px_okV mX1_doAgain 0 := ⟨⟨px_in (List.mem_of_getElem? (i := 1015) (by decide +kernel)) rfl, px_in (List.mem_of_getElem? (i := 103) (by decide +kernel)) rfl, by decide +kernel, by decide +kernel, by decide +kernel⟩, px_in (List.mem_of_getElem? (i := 1013) (by decide +kernel)) rfl, px_in (List.mem_of_getElem? (i := 1014) (by decide +kernel)) rfl⟩
theorem plX1_doAgain : plainFor mX1_doAgain.1 = true := by decide +kernel
def mX2_init : px_M := (yX2_init, cX2_init, 2, none)
theorem okX2_init : px_okI mX2_init 1 := ⟨⟨px_in (List.mem_of_getElem? (i := 194) (by decide +kernel)) rfl, px_in (List.mem_of_getElem? (i := 99) (by decide +kernel)) rfl, by decide +kernel, by decide +kernel, by decide +kernel⟩, px_in (List.mem_of_getElem? (i := 193) (by decide +kernel)) rfl, rfl, rfl⟩
theorem plX2_init : plainFor mX2_init.1 = true := by decide +kernel
def mX2_take : px_M := (yX2_take, cX2_take, 4, none)
theorem okX2_take : px_okV mX2_take 3 := ⟨⟨px_in (List.mem_of_getElem? (i := 778) (by decide +kernel)) rfl, px_in (List.mem_of_getElem? (i := 99) (by decide +kernel)) rfl, by decide +kernel, by decide +kernel, by decide +kernel⟩, px_in (List.mem_of_getElem? (i := 776) (by decide +kernel)) rfl, px_in (List.mem_of_getElem? (i := 777) (by decide +kernel)) rfl⟩
theorem plX2_take : plainFor mX2_take.1 = true := by decide +kernel
def mX2_houseOfJoy : px_M := (yX2_houseOfJoy, cX2_houseOfJoy, 3, (some .int))
theorem okX2_houseOfJoy : px_okV mX2_houseOfJoy 1 := ⟨⟨px_in (List.mem_of_getElem? (i := 687) (by decide +kernel)) rfl, px_in (List.mem_of_getElem? (i := 99) (by decide +kernel)) rfl, by decide +kernel, by decide +kernel, by decide +kernel⟩, px_in (List.mem_of_getElem? (i := 685) (by decide +kernel)) rfl, px_in (List.mem_of_getElem? (i := 686) (by decide +kernel)) rfl⟩
theorem plX2_houseOfJoy : plainFor mX2_houseOfJoy.1 = true := by decide +kernel
def mX2_sideOfJoy : px_M := (yX2_sideOfJoy, cX2_sideOfJoy, 2, (some .int))
theorem okX2_sideOfJoy : px_okV mX2_sideOfJoy 1 := ⟨⟨px_in (List.mem_of_getElem? (i := 683) (by decide +kernel)) rfl, px_in (List.mem_of_getElem? (i := 99) (by decide +kernel)) rfl, by decide +kernel, by decide +kernel, by decide +kernel⟩, px_in (List.mem_of_getElem? (i := 681) (by decide +kernel)) rfl, px_in (List.mem_of_getElem? (i := 682) (by decide +kernel)) rfl⟩
theorem plX2_sideOfJoy : plainFor mX2_sideOfJoy.1 = true := by decide +kernel
def mX2_runs : px_M := (yX2_runs, cX2_runs, 2, (some .boolean))
theorem okX2_runs : px_okV mX2_runs 1 := ⟨⟨px_in (List.mem_of_getElem? (i := 706) (by decide +kernel)) rfl, px_in (List.mem_of_getElem? (i := 99) (by decide +kernel)) rfl, by decide +kernel, by decide +kernel, by decide +kernel⟩, px_in (List.mem_of_getElem? (i := 704) (by decide +kernel)) rfl, px_in (List.mem_of_getElem? (i := 705) (by decide +kernel)) rfl⟩
theorem plX2_runs : plainFor mX2_runs.1 = true := by decide +kernel
def mX2_waits : px_M := (yX2_waits, cX2_waits, 2, (some .boolean))
theorem okX2_waits : px_okV mX2_waits 1 := ⟨⟨px_in (List.mem_of_getElem? (i := 811) (by decide +kernel)) rfl, px_in (List.mem_of_getElem? (i := 99) (by decide +kernel)) rfl, by decide +kernel, by decide +kernel, by decide +kernel⟩, px_in (List.mem_of_getElem? (i := 809) (by decide +kernel)) rfl, px_in (List.mem_of_getElem? (i := 810) (by decide +kernel)) rfl⟩
theorem plX2_waits : plainFor mX2_waits.1 = true := by decide +kernel
def mX2_had : px_M := (yX2_had, cX2_had, 2, (some .boolean))
theorem okX2_had : px_okV mX2_had 1 := ⟨⟨px_in (List.mem_of_getElem? (i := 807) (by decide +kernel)) rfl, px_in (List.mem_of_getElem? (i := 99) (by decide +kernel)) rfl, by decide +kernel, by decide +kernel, by decide +kernel⟩, px_in (List.mem_of_getElem? (i := 805) (by decide +kernel)) rfl, px_in (List.mem_of_getElem? (i := 806) (by decide +kernel)) rfl⟩
theorem plX2_had : plainFor mX2_had.1 = true := by decide +kernel
def mX2_isIn : px_M := (yX2_isIn, cX2_isIn, 3, (some .boolean))
theorem okX2_isIn : px_okV mX2_isIn 2 := ⟨⟨px_in (List.mem_of_getElem? (i := 835) (by decide +kernel)) rfl, px_in (List.mem_of_getElem? (i := 99) (by decide +kernel)) rfl, by decide +kernel, by decide +kernel, by decide +kernel⟩, px_in (List.mem_of_getElem? (i := 833) (by decide +kernel)) rfl, px_in (List.mem_of_getElem? (i := 834) (by decide +kernel)) rfl⟩
theorem plX2_isIn : plainFor mX2_isIn.1 = true := by decide +kernel
def mX2_joysThat : px_M := (yX2_joysThat, cX2_joysThat, 4, (some .int))
theorem okX2_joysThat : px_okV mX2_joysThat 1 := ⟨⟨px_in (List.mem_of_getElem? (i := 831) (by decide +kernel)) rfl, px_in (List.mem_of_getElem? (i := 99) (by decide +kernel)) rfl, by decide +kernel, by decide +kernel, by decide +kernel⟩, px_in (List.mem_of_getElem? (i := 829) (by decide +kernel)) rfl, px_in (List.mem_of_getElem? (i := 830) (by decide +kernel)) rfl⟩
theorem plX2_joysThat : plainFor mX2_joysThat.1 = true := by decide +kernel
def mX2_isGlad : px_M := (yX2_isGlad, cX2_isGlad, 3, (some .boolean))
theorem okX2_isGlad : px_okV mX2_isGlad 1 := ⟨⟨px_in (List.mem_of_getElem? (i := 819) (by decide +kernel)) rfl, px_in (List.mem_of_getElem? (i := 99) (by decide +kernel)) rfl, by decide +kernel, by decide +kernel, by decide +kernel⟩, px_in (List.mem_of_getElem? (i := 817) (by decide +kernel)) rfl, px_in (List.mem_of_getElem? (i := 818) (by decide +kernel)) rfl⟩
theorem plX2_isGlad : plainFor mX2_isGlad.1 = true := by decide +kernel
def mX2_gladPeople : px_M := (yX2_gladPeople, cX2_gladPeople, 3, (some .int))
theorem okX2_gladPeople : px_okV mX2_gladPeople 0 := ⟨⟨px_in (List.mem_of_getElem? (i := 815) (by decide +kernel)) rfl, px_in (List.mem_of_getElem? (i := 99) (by decide +kernel)) rfl, by decide +kernel, by decide +kernel, by decide +kernel⟩, px_in (List.mem_of_getElem? (i := 813) (by decide +kernel)) rfl, px_in (List.mem_of_getElem? (i := 814) (by decide +kernel)) rfl⟩
theorem plX2_gladPeople : plainFor mX2_gladPeople.1 = true := by decide +kernel
def mX2_worthOfHad : px_M := (yX2_worthOfHad, cX2_worthOfHad, 3, (some .int))
theorem okX2_worthOfHad : px_okV mX2_worthOfHad 0 := ⟨⟨px_in (List.mem_of_getElem? (i := 823) (by decide +kernel)) rfl, px_in (List.mem_of_getElem? (i := 99) (by decide +kernel)) rfl, by decide +kernel, by decide +kernel, by decide +kernel⟩, px_in (List.mem_of_getElem? (i := 821) (by decide +kernel)) rfl, px_in (List.mem_of_getElem? (i := 822) (by decide +kernel)) rfl⟩
theorem plX2_worthOfHad : plainFor mX2_worthOfHad.1 = true := by decide +kernel
def mX2_worthOfHadBy : px_M := (yX2_worthOfHadBy, cX2_worthOfHadBy, 4, (some .int))
theorem okX2_worthOfHadBy : px_okV mX2_worthOfHadBy 1 := ⟨⟨px_in (List.mem_of_getElem? (i := 909) (by decide +kernel)) rfl, px_in (List.mem_of_getElem? (i := 99) (by decide +kernel)) rfl, by decide +kernel, by decide +kernel, by decide +kernel⟩, px_in (List.mem_of_getElem? (i := 907) (by decide +kernel)) rfl, px_in (List.mem_of_getElem? (i := 908) (by decide +kernel)) rfl⟩
theorem plX2_worthOfHadBy : plainFor mX2_worthOfHadBy.1 = true := by decide +kernel
def mX2_worthOfLost : px_M := (yX2_worthOfLost, cX2_worthOfLost, 3, (some .int))
theorem okX2_worthOfLost : px_okV mX2_worthOfLost 0 := ⟨⟨px_in (List.mem_of_getElem? (i := 827) (by decide +kernel)) rfl, px_in (List.mem_of_getElem? (i := 99) (by decide +kernel)) rfl, by decide +kernel, by decide +kernel, by decide +kernel⟩, px_in (List.mem_of_getElem? (i := 825) (by decide +kernel)) rfl, px_in (List.mem_of_getElem? (i := 826) (by decide +kernel)) rfl⟩
theorem plX2_worthOfLost : plainFor mX2_worthOfLost.1 = true := by decide +kernel
def mX2_leadOfSide0 : px_M := (yX2_leadOfSide0, cX2_leadOfSide0, 3, (some .int))
theorem okX2_leadOfSide0 : px_okV mX2_leadOfSide0 0 := ⟨⟨px_in (List.mem_of_getElem? (i := 793) (by decide +kernel)) rfl, px_in (List.mem_of_getElem? (i := 99) (by decide +kernel)) rfl, by decide +kernel, by decide +kernel, by decide +kernel⟩, px_in (List.mem_of_getElem? (i := 791) (by decide +kernel)) rfl, px_in (List.mem_of_getElem? (i := 792) (by decide +kernel)) rfl⟩
theorem plX2_leadOfSide0 : plainFor mX2_leadOfSide0.1 = true := by decide +kernel
def mX2_pass : px_M := (yX2_pass, cX2_pass, 2, none)
theorem okX2_pass : px_okV mX2_pass 0 := ⟨⟨px_in (List.mem_of_getElem? (i := 785) (by decide +kernel)) rfl, px_in (List.mem_of_getElem? (i := 99) (by decide +kernel)) rfl, by decide +kernel, by decide +kernel, by decide +kernel⟩, px_in (List.mem_of_getElem? (i := 783) (by decide +kernel)) rfl, px_in (List.mem_of_getElem? (i := 784) (by decide +kernel)) rfl⟩
theorem plX2_pass : plainFor mX2_pass.1 = true := by decide +kernel
def mX2_holdVote : px_M := (yX2_holdVote, cX2_holdVote, 3, none)
theorem okX2_holdVote : px_okV mX2_holdVote 0 := ⟨⟨px_in (List.mem_of_getElem? (i := 789) (by decide +kernel)) rfl, px_in (List.mem_of_getElem? (i := 99) (by decide +kernel)) rfl, by decide +kernel, by decide +kernel, by decide +kernel⟩, px_in (List.mem_of_getElem? (i := 788) (by decide +kernel)) rfl, px_in (List.mem_of_getElem? (i := 20) (by decide +kernel)) rfl⟩
theorem plX2_holdVote : plainFor mX2_holdVote.1 = true := by decide +kernel
def mX2_passFor : px_M := (yX2_passFor, cX2_passFor, 3, none)
theorem okX2_passFor : px_okV mX2_passFor 1 := ⟨⟨px_in (List.mem_of_getElem? (i := 797) (by decide +kernel)) rfl, px_in (List.mem_of_getElem? (i := 99) (by decide +kernel)) rfl, by decide +kernel, by decide +kernel, by decide +kernel⟩, px_in (List.mem_of_getElem? (i := 796) (by decide +kernel)) rfl, px_in (List.mem_of_getElem? (i := 21) (by decide +kernel)) rfl⟩
theorem plX2_passFor : plainFor mX2_passFor.1 = true := by decide +kernel
def mX2_runOn : px_M := (yX2_runOn, cX2_runOn, 2, none)
theorem okX2_runOn : px_okV mX2_runOn 1 := ⟨⟨px_in (List.mem_of_getElem? (i := 803) (by decide +kernel)) rfl, px_in (List.mem_of_getElem? (i := 99) (by decide +kernel)) rfl, by decide +kernel, by decide +kernel, by decide +kernel⟩, px_in (List.mem_of_getElem? (i := 802) (by decide +kernel)) rfl, px_in (List.mem_of_getElem? (i := 22) (by decide +kernel)) rfl⟩
theorem plX2_runOn : plainFor mX2_runOn.1 = true := by decide +kernel
def mX3_init : px_M := (yX3_init, cX3_init, 1, none)
theorem okX3_init : px_okI mX3_init 0 := ⟨⟨px_in (List.mem_of_getElem? (i := 248) (by decide +kernel)) rfl, px_in (List.mem_of_getElem? (i := 101) (by decide +kernel)) rfl, by decide +kernel, by decide +kernel, by decide +kernel⟩, px_in (List.mem_of_getElem? (i := 247) (by decide +kernel)) rfl, rfl, rfl⟩
theorem plX3_init : plainFor mX3_init.1 = true := by decide +kernel
def mX3_clear : px_M := (yX3_clear, cX3_clear, 1, none)
theorem okX3_clear : px_okV mX3_clear 0 := ⟨⟨px_in (List.mem_of_getElem? (i := 616) (by decide +kernel)) rfl, px_in (List.mem_of_getElem? (i := 101) (by decide +kernel)) rfl, by decide +kernel, by decide +kernel, by decide +kernel⟩, px_in (List.mem_of_getElem? (i := 614) (by decide +kernel)) rfl, px_in (List.mem_of_getElem? (i := 615) (by decide +kernel)) rfl⟩
theorem plX3_clear : plainFor mX3_clear.1 = true := by decide +kernel
def mX3_isTold : px_M := (yX3_isTold, cX3_isTold, 1, (some .boolean))
theorem okX3_isTold : px_okV mX3_isTold 0 := ⟨⟨px_in (List.mem_of_getElem? (i := 710) (by decide +kernel)) rfl, px_in (List.mem_of_getElem? (i := 101) (by decide +kernel)) rfl, by decide +kernel, by decide +kernel, by decide +kernel⟩, px_in (List.mem_of_getElem? (i := 708) (by decide +kernel)) rfl, px_in (List.mem_of_getElem? (i := 709) (by decide +kernel)) rfl⟩
theorem plX3_isTold : plainFor mX3_isTold.1 = true := by decide +kernel
def mX3_take : px_M := (yX3_take, cX3_take, 2, none)
theorem okX3_take : px_okV mX3_take 1 := ⟨⟨px_in (List.mem_of_getElem? (i := 674) (by decide +kernel)) rfl, px_in (List.mem_of_getElem? (i := 101) (by decide +kernel)) rfl, by decide +kernel, by decide +kernel, by decide +kernel⟩, px_in (List.mem_of_getElem? (i := 672) (by decide +kernel)) rfl, px_in (List.mem_of_getElem? (i := 673) (by decide +kernel)) rfl⟩
theorem plX3_take : plainFor mX3_take.1 = true := by decide +kernel
def mX3_add : px_M := (yX3_add, cX3_add, 3, (some .int))
theorem okX3_add : px_okV mX3_add 2 := ⟨⟨px_in (List.mem_of_getElem? (i := 662) (by decide +kernel)) rfl, px_in (List.mem_of_getElem? (i := 101) (by decide +kernel)) rfl, by decide +kernel, by decide +kernel, by decide +kernel⟩, px_in (List.mem_of_getElem? (i := 660) (by decide +kernel)) rfl, px_in (List.mem_of_getElem? (i := 661) (by decide +kernel)) rfl⟩
theorem plX3_add : plainFor mX3_add.1 = true := by decide +kernel
def mX3_aimTest : px_M := (yX3_aimTest, cX3_aimTest, 2, none)
theorem okX3_aimTest : px_okV mX3_aimTest 1 := ⟨⟨px_in (List.mem_of_getElem? (i := 670) (by decide +kernel)) rfl, px_in (List.mem_of_getElem? (i := 101) (by decide +kernel)) rfl, by decide +kernel, by decide +kernel, by decide +kernel⟩, px_in (List.mem_of_getElem? (i := 668) (by decide +kernel)) rfl, px_in (List.mem_of_getElem? (i := 669) (by decide +kernel)) rfl⟩
theorem plX3_aimTest : plainFor mX3_aimTest.1 = true := by decide +kernel
def mX3_workOut : px_M := (yX3_workOut, cX3_workOut, 4, (some .int))
theorem okX3_workOut : px_okV mX3_workOut 0 := ⟨⟨px_in (List.mem_of_getElem? (i := 718) (by decide +kernel)) rfl, px_in (List.mem_of_getElem? (i := 101) (by decide +kernel)) rfl, by decide +kernel, by decide +kernel, by decide +kernel⟩, px_in (List.mem_of_getElem? (i := 716) (by decide +kernel)) rfl, px_in (List.mem_of_getElem? (i := 717) (by decide +kernel)) rfl⟩
theorem plX3_workOut : plainFor mX3_workOut.1 = true := by decide +kernel
def mX3_valueOf : px_M := (yX3_valueOf, cX3_valueOf, 2, (some .int))
theorem okX3_valueOf : px_okV mX3_valueOf 1 := ⟨⟨px_in (List.mem_of_getElem? (i := 722) (by decide +kernel)) rfl, px_in (List.mem_of_getElem? (i := 101) (by decide +kernel)) rfl, by decide +kernel, by decide +kernel, by decide +kernel⟩, px_in (List.mem_of_getElem? (i := 721) (by decide +kernel)) rfl, px_in (List.mem_of_getElem? (i := 17) (by decide +kernel)) rfl⟩
theorem plX3_valueOf : plainFor mX3_valueOf.1 = true := by decide +kernel
def mX3_join : px_M := (yX3_join, cX3_join, 3, (some .int))
theorem okX3_join : px_okS mX3_join 3 := ⟨⟨px_in (List.mem_of_getElem? (i := 728) (by decide +kernel)) rfl, px_in (List.mem_of_getElem? (i := 101) (by decide +kernel)) rfl, by decide +kernel, by decide +kernel, by decide +kernel⟩, px_in (List.mem_of_getElem? (i := 727) (by decide +kernel)) rfl⟩
theorem plX3_join : plainFor mX3_join.1 = true := by decide +kernel
def mX4_init : px_M := (yX4_init, cX4_init, 3, none)
theorem okX4_init : px_okI mX4_init 2 := ⟨⟨px_in (List.mem_of_getElem? (i := 235) (by decide +kernel)) rfl, px_in (List.mem_of_getElem? (i := 100) (by decide +kernel)) rfl, by decide +kernel, by decide +kernel, by decide +kernel⟩, px_in (List.mem_of_getElem? (i := 234) (by decide +kernel)) rfl, rfl, rfl⟩
theorem plX4_init : plainFor mX4_init.1 = true := by decide +kernel
def mX4_mayBe : px_M := (yX4_mayBe, cX4_mayBe, 2, (some .boolean))
theorem okX4_mayBe : px_okS mX4_mayBe 2 := ⟨⟨px_in (List.mem_of_getElem? (i := 549) (by decide +kernel)) rfl, px_in (List.mem_of_getElem? (i := 100) (by decide +kernel)) rfl, by decide +kernel, by decide +kernel, by decide +kernel⟩, px_in (List.mem_of_getElem? (i := 548) (by decide +kernel)) rfl⟩
theorem plX4_mayBe : plainFor mX4_mayBe.1 = true := by decide +kernel
def mX4_isThere : px_M := (yX4_isThere, cX4_isThere, 3, (some .boolean))
theorem okX4_isThere : px_okV mX4_isThere 2 := ⟨⟨px_in (List.mem_of_getElem? (i := 566) (by decide +kernel)) rfl, px_in (List.mem_of_getElem? (i := 100) (by decide +kernel)) rfl, by decide +kernel, by decide +kernel, by decide +kernel⟩, px_in (List.mem_of_getElem? (i := 564) (by decide +kernel)) rfl, px_in (List.mem_of_getElem? (i := 565) (by decide +kernel)) rfl⟩
theorem plX4_isThere : plainFor mX4_isThere.1 = true := by decide +kernel
def mX4_read : px_M := (yX4_read, cX4_read, 3, (some .int))
theorem okX4_read : px_okV mX4_read 2 := ⟨⟨px_in (List.mem_of_getElem? (i := 572) (by decide +kernel)) rfl, px_in (List.mem_of_getElem? (i := 100) (by decide +kernel)) rfl, by decide +kernel, by decide +kernel, by decide +kernel⟩, px_in (List.mem_of_getElem? (i := 570) (by decide +kernel)) rfl, px_in (List.mem_of_getElem? (i := 571) (by decide +kernel)) rfl⟩
theorem plX4_read : plainFor mX4_read.1 = true := by decide +kernel
def mX4_write : px_M := (yX4_write, cX4_write, 4, none)
theorem okX4_write : px_okV mX4_write 3 := ⟨⟨px_in (List.mem_of_getElem? (i := 592) (by decide +kernel)) rfl, px_in (List.mem_of_getElem? (i := 100) (by decide +kernel)) rfl, by decide +kernel, by decide +kernel, by decide +kernel⟩, px_in (List.mem_of_getElem? (i := 590) (by decide +kernel)) rfl, px_in (List.mem_of_getElem? (i := 591) (by decide +kernel)) rfl⟩
theorem plX4_write : plainFor mX4_write.1 = true := by decide +kernel
def mX4_listOf : px_M := (yX4_listOf, cX4_listOf, 2, (some (.array .int)))
theorem okX4_listOf : px_okV mX4_listOf 1 := ⟨⟨px_in (List.mem_of_getElem? (i := 577) (by decide +kernel)) rfl, px_in (List.mem_of_getElem? (i := 100) (by decide +kernel)) rfl, by decide +kernel, by decide +kernel, by decide +kernel⟩, px_in (List.mem_of_getElem? (i := 576) (by decide +kernel)) rfl, px_in (List.mem_of_getElem? (i := 3) (by decide +kernel)) rfl⟩
theorem plX4_listOf : plainFor mX4_listOf.1 = true := by decide +kernel
def mX5_init : px_M := (yX5_init, cX5_init, 2, none)
theorem okX5_init : px_okI mX5_init 0 := ⟨⟨px_in (List.mem_of_getElem? (i := 271) (by decide +kernel)) rfl, px_in (List.mem_of_getElem? (i := 102) (by decide +kernel)) rfl, by decide +kernel, by decide +kernel, by decide +kernel⟩, px_in (List.mem_of_getElem? (i := 270) (by decide +kernel)) rfl, rfl, rfl⟩
theorem plX5_init : plainFor mX5_init.1 = true := by decide +kernel
def mX5_isShelf : px_M := (yX5_isShelf, cX5_isShelf, 1, (some .boolean))
theorem okX5_isShelf : px_okS mX5_isShelf 1 := ⟨⟨px_in (List.mem_of_getElem? (i := 521) (by decide +kernel)) rfl, px_in (List.mem_of_getElem? (i := 102) (by decide +kernel)) rfl, by decide +kernel, by decide +kernel, by decide +kernel⟩, px_in (List.mem_of_getElem? (i := 520) (by decide +kernel)) rfl⟩
theorem plX5_isShelf : plainFor mX5_isShelf.1 = true := by decide +kernel
def mX5_isEmpty : px_M := (yX5_isEmpty, cX5_isEmpty, 2, (some .boolean))
theorem okX5_isEmpty : px_okV mX5_isEmpty 1 := ⟨⟨px_in (List.mem_of_getElem? (i := 525) (by decide +kernel)) rfl, px_in (List.mem_of_getElem? (i := 102) (by decide +kernel)) rfl, by decide +kernel, by decide +kernel, by decide +kernel⟩, px_in (List.mem_of_getElem? (i := 523) (by decide +kernel)) rfl, px_in (List.mem_of_getElem? (i := 524) (by decide +kernel)) rfl⟩
theorem plX5_isEmpty : plainFor mX5_isEmpty.1 = true := by decide +kernel
def mX5_isRow : px_M := (yX5_isRow, cX5_isRow, 2, (some .boolean))
theorem okX5_isRow : px_okV mX5_isRow 1 := ⟨⟨px_in (List.mem_of_getElem? (i := 529) (by decide +kernel)) rfl, px_in (List.mem_of_getElem? (i := 102) (by decide +kernel)) rfl, by decide +kernel, by decide +kernel, by decide +kernel⟩, px_in (List.mem_of_getElem? (i := 528) (by decide +kernel)) rfl, px_in (List.mem_of_getElem? (i := 1) (by decide +kernel)) rfl⟩
theorem plX5_isRow : plainFor mX5_isRow.1 = true := by decide +kernel
def mX5_bodyOn : px_M := (yX5_bodyOn, cX5_bodyOn, 2, (some .int))
theorem okX5_bodyOn : px_okV mX5_bodyOn 1 := ⟨⟨px_in (List.mem_of_getElem? (i := 1128) (by decide +kernel)) rfl, px_in (List.mem_of_getElem? (i := 102) (by decide +kernel)) rfl, by decide +kernel, by decide +kernel, by decide +kernel⟩, px_in (List.mem_of_getElem? (i := 1126) (by decide +kernel)) rfl, px_in (List.mem_of_getElem? (i := 1127) (by decide +kernel)) rfl⟩
theorem plX5_bodyOn : plainFor mX5_bodyOn.1 = true := by decide +kernel
def mX5_lengthOf : px_M := (yX5_lengthOf, cX5_lengthOf, 2, (some .int))
theorem okX5_lengthOf : px_okV mX5_lengthOf 1 := ⟨⟨px_in (List.mem_of_getElem? (i := 537) (by decide +kernel)) rfl, px_in (List.mem_of_getElem? (i := 102) (by decide +kernel)) rfl, by decide +kernel, by decide +kernel, by decide +kernel⟩, px_in (List.mem_of_getElem? (i := 535) (by decide +kernel)) rfl, px_in (List.mem_of_getElem? (i := 536) (by decide +kernel)) rfl⟩
theorem plX5_lengthOf : plainFor mX5_lengthOf.1 = true := by decide +kernel
def mX5_empty : px_M := (yX5_empty, cX5_empty, 2, none)
theorem okX5_empty : px_okV mX5_empty 1 := ⟨⟨px_in (List.mem_of_getElem? (i := 1072) (by decide +kernel)) rfl, px_in (List.mem_of_getElem? (i := 102) (by decide +kernel)) rfl, by decide +kernel, by decide +kernel, by decide +kernel⟩, px_in (List.mem_of_getElem? (i := 1070) (by decide +kernel)) rfl, px_in (List.mem_of_getElem? (i := 1071) (by decide +kernel)) rfl⟩
theorem plX5_empty : plainFor mX5_empty.1 = true := by decide +kernel
def mX5_layBody : px_M := (yX5_layBody, cX5_layBody, 3, none)
theorem okX5_layBody : px_okV mX5_layBody 2 := ⟨⟨px_in (List.mem_of_getElem? (i := 1077) (by decide +kernel)) rfl, px_in (List.mem_of_getElem? (i := 102) (by decide +kernel)) rfl, by decide +kernel, by decide +kernel, by decide +kernel⟩, px_in (List.mem_of_getElem? (i := 1075) (by decide +kernel)) rfl, px_in (List.mem_of_getElem? (i := 1076) (by decide +kernel)) rfl⟩
theorem plX5_layBody : plainFor mX5_layBody.1 = true := by decide +kernel
def mX5_layRow : px_M := (yX5_layRow, cX5_layRow, 5, none)
theorem okX5_layRow : px_okV mX5_layRow 3 := ⟨⟨px_in (List.mem_of_getElem? (i := 1085) (by decide +kernel)) rfl, px_in (List.mem_of_getElem? (i := 102) (by decide +kernel)) rfl, by decide +kernel, by decide +kernel, by decide +kernel⟩, px_in (List.mem_of_getElem? (i := 1083) (by decide +kernel)) rfl, px_in (List.mem_of_getElem? (i := 1084) (by decide +kernel)) rfl⟩
theorem plX5_layRow : plainFor mX5_layRow.1 = true := by decide +kernel
def mX5_refuseRow : px_M := (yX5_refuseRow, cX5_refuseRow, 2, (some .int))
theorem okX5_refuseRow : px_okV mX5_refuseRow 1 := ⟨⟨px_in (List.mem_of_getElem? (i := 518) (by decide +kernel)) rfl, px_in (List.mem_of_getElem? (i := 102) (by decide +kernel)) rfl, by decide +kernel, by decide +kernel, by decide +kernel⟩, px_in (List.mem_of_getElem? (i := 517) (by decide +kernel)) rfl, px_in (List.mem_of_getElem? (i := 0) (by decide +kernel)) rfl⟩
theorem plX5_refuseRow : plainFor mX5_refuseRow.1 = true := by decide +kernel
def mX5_refuseBytes : px_M := (yX5_refuseBytes, cX5_refuseBytes, 3, (some .int))
theorem okX5_refuseBytes : px_okV mX5_refuseBytes 1 := ⟨⟨px_in (List.mem_of_getElem? (i := 514) (by decide +kernel)) rfl, px_in (List.mem_of_getElem? (i := 102) (by decide +kernel)) rfl, by decide +kernel, by decide +kernel, by decide +kernel⟩, px_in (List.mem_of_getElem? (i := 512) (by decide +kernel)) rfl, px_in (List.mem_of_getElem? (i := 513) (by decide +kernel)) rfl⟩
theorem plX5_refuseBytes : plainFor mX5_refuseBytes.1 = true := by decide +kernel
def mX5_refusePlace : px_M := (yX5_refusePlace, cX5_refusePlace, 4, (some .int))
theorem okX5_refusePlace : px_okV mX5_refusePlace 2 := ⟨⟨px_in (List.mem_of_getElem? (i := 1093) (by decide +kernel)) rfl, px_in (List.mem_of_getElem? (i := 102) (by decide +kernel)) rfl, by decide +kernel, by decide +kernel, by decide +kernel⟩, px_in (List.mem_of_getElem? (i := 1091) (by decide +kernel)) rfl, px_in (List.mem_of_getElem? (i := 1092) (by decide +kernel)) rfl⟩
theorem plX5_refusePlace : plainFor mX5_refusePlace.1 = true := by decide +kernel
def mX5_refusePair : px_M := (yX5_refusePair, cX5_refusePair, 3, (some .int))
theorem okX5_refusePair : px_okV mX5_refusePair 2 := ⟨⟨px_in (List.mem_of_getElem? (i := 1113) (by decide +kernel)) rfl, px_in (List.mem_of_getElem? (i := 102) (by decide +kernel)) rfl, by decide +kernel, by decide +kernel, by decide +kernel⟩, px_in (List.mem_of_getElem? (i := 1111) (by decide +kernel)) rfl, px_in (List.mem_of_getElem? (i := 1112) (by decide +kernel)) rfl⟩
theorem plX5_refusePair : plainFor mX5_refusePair.1 = true := by decide +kernel
def mX5_hasRun : px_M := (yX5_hasRun, cX5_hasRun, 4, (some .boolean))
theorem okX5_hasRun : px_okV mX5_hasRun 3 := ⟨⟨px_in (List.mem_of_getElem? (i := 545) (by decide +kernel)) rfl, px_in (List.mem_of_getElem? (i := 102) (by decide +kernel)) rfl, by decide +kernel, by decide +kernel, by decide +kernel⟩, px_in (List.mem_of_getElem? (i := 543) (by decide +kernel)) rfl, px_in (List.mem_of_getElem? (i := 544) (by decide +kernel)) rfl⟩
theorem plX5_hasRun : plainFor mX5_hasRun.1 = true := by decide +kernel
def mX5_cell : px_M := (yX5_cell, cX5_cell, 3, (some .long))
theorem okX5_cell : px_okV mX5_cell 2 := ⟨⟨px_in (List.mem_of_getElem? (i := 541) (by decide +kernel)) rfl, px_in (List.mem_of_getElem? (i := 102) (by decide +kernel)) rfl, by decide +kernel, by decide +kernel, by decide +kernel⟩, px_in (List.mem_of_getElem? (i := 539) (by decide +kernel)) rfl, px_in (List.mem_of_getElem? (i := 540) (by decide +kernel)) rfl⟩
theorem plX5_cell : plainFor mX5_cell.1 = true := by decide +kernel
def mX5_setCell : px_M := (yX5_setCell, cX5_setCell, 5, none)
theorem okX5_setCell : px_okV mX5_setCell 3 := ⟨⟨px_in (List.mem_of_getElem? (i := 1097) (by decide +kernel)) rfl, px_in (List.mem_of_getElem? (i := 102) (by decide +kernel)) rfl, by decide +kernel, by decide +kernel, by decide +kernel⟩, px_in (List.mem_of_getElem? (i := 1095) (by decide +kernel)) rfl, px_in (List.mem_of_getElem? (i := 1096) (by decide +kernel)) rfl⟩
theorem plX5_setCell : plainFor mX5_setCell.1 = true := by decide +kernel
def mX5_copyRun : px_M := (yX5_copyRun, cX5_copyRun, 6, none)
theorem okX5_copyRun : px_okV mX5_copyRun 5 := ⟨⟨px_in (List.mem_of_getElem? (i := 1118) (by decide +kernel)) rfl, px_in (List.mem_of_getElem? (i := 102) (by decide +kernel)) rfl, by decide +kernel, by decide +kernel, by decide +kernel⟩, px_in (List.mem_of_getElem? (i := 1116) (by decide +kernel)) rfl, px_in (List.mem_of_getElem? (i := 1117) (by decide +kernel)) rfl⟩
theorem plX5_copyRun : plainFor mX5_copyRun.1 = true := by decide +kernel
def mX5_cut : px_M := (yX5_cut, cX5_cut, 3, (some .long))
theorem okX5_cut : px_okS mX5_cut 2 := ⟨⟨px_in (List.mem_of_getElem? (i := 1100) (by decide +kernel)) rfl, px_in (List.mem_of_getElem? (i := 102) (by decide +kernel)) rfl, by decide +kernel, by decide +kernel, by decide +kernel⟩, px_in (List.mem_of_getElem? (i := 1099) (by decide +kernel)) rfl⟩
theorem plX5_cut : plainFor mX5_cut.1 = true := by decide +kernel
def mX6_init : px_M := (yX6_init, cX6_init, 4, none)
theorem okX6_init : px_okI mX6_init 3 := ⟨⟨px_in (List.mem_of_getElem? (i := 344) (by decide +kernel)) rfl, px_in (List.mem_of_getElem? (i := 105) (by decide +kernel)) rfl, by decide +kernel, by decide +kernel, by decide +kernel⟩, px_in (List.mem_of_getElem? (i := 343) (by decide +kernel)) rfl, rfl, rfl⟩
theorem plX6_init : plainFor mX6_init.1 = true := by decide +kernel
def mX6_howMuch : px_M := (yX6_howMuch, cX6_howMuch, 6, (some .int))
theorem okX6_howMuch : px_okV mX6_howMuch 2 := ⟨⟨px_in (List.mem_of_getElem? (i := 691) (by decide +kernel)) rfl, px_in (List.mem_of_getElem? (i := 105) (by decide +kernel)) rfl, by decide +kernel, by decide +kernel, by decide +kernel⟩, px_in (List.mem_of_getElem? (i := 689) (by decide +kernel)) rfl, px_in (List.mem_of_getElem? (i := 690) (by decide +kernel)) rfl⟩
theorem plX6_howMuch : plainFor mX6_howMuch.1 = true := by decide +kernel
def mX6_byText : px_M := (yX6_byText, cX6_byText, 5, (some .int))
theorem okX6_byText : px_okV mX6_byText 3 := ⟨⟨px_in (List.mem_of_getElem? (i := 714) (by decide +kernel)) rfl, px_in (List.mem_of_getElem? (i := 105) (by decide +kernel)) rfl, by decide +kernel, by decide +kernel, by decide +kernel⟩, px_in (List.mem_of_getElem? (i := 713) (by decide +kernel)) rfl, px_in (List.mem_of_getElem? (i := 16) (by decide +kernel)) rfl⟩
theorem plX6_byText : plainFor mX6_byText.1 = true := by decide +kernel
def mX6_othersRunning : px_M := (yX6_othersRunning, cX6_othersRunning, 4, (some .int))
theorem okX6_othersRunning : px_okV mX6_othersRunning 1 := ⟨⟨px_in (List.mem_of_getElem? (i := 702) (by decide +kernel)) rfl, px_in (List.mem_of_getElem? (i := 105) (by decide +kernel)) rfl, by decide +kernel, by decide +kernel, by decide +kernel⟩, px_in (List.mem_of_getElem? (i := 701) (by decide +kernel)) rfl, px_in (List.mem_of_getElem? (i := 15) (by decide +kernel)) rfl⟩
theorem plX6_othersRunning : plainFor mX6_othersRunning.1 = true := by decide +kernel
def mX6_housesSmelling : px_M := (yX6_housesSmelling, cX6_housesSmelling, 4, (some .int))
theorem okX6_housesSmelling : px_okV mX6_housesSmelling 1 := ⟨⟨px_in (List.mem_of_getElem? (i := 740) (by decide +kernel)) rfl, px_in (List.mem_of_getElem? (i := 105) (by decide +kernel)) rfl, by decide +kernel, by decide +kernel, by decide +kernel⟩, px_in (List.mem_of_getElem? (i := 738) (by decide +kernel)) rfl, px_in (List.mem_of_getElem? (i := 739) (by decide +kernel)) rfl⟩
theorem plX6_housesSmelling : plainFor mX6_housesSmelling.1 = true := by decide +kernel
def mX6_fewestShut : px_M := (yX6_fewestShut, cX6_fewestShut, 3, (some .int))
theorem okX6_fewestShut : px_okV mX6_fewestShut 0 := ⟨⟨px_in (List.mem_of_getElem? (i := 750) (by decide +kernel)) rfl, px_in (List.mem_of_getElem? (i := 105) (by decide +kernel)) rfl, by decide +kernel, by decide +kernel, by decide +kernel⟩, px_in (List.mem_of_getElem? (i := 748) (by decide +kernel)) rfl, px_in (List.mem_of_getElem? (i := 749) (by decide +kernel)) rfl⟩
theorem plX6_fewestShut : plainFor mX6_fewestShut.1 = true := by decide +kernel
def mX6_holdsIn : px_M := (yX6_holdsIn, cX6_holdsIn, 4, (some .boolean))
theorem okX6_holdsIn : px_okV mX6_holdsIn 1 := ⟨⟨px_in (List.mem_of_getElem? (i := 761) (by decide +kernel)) rfl, px_in (List.mem_of_getElem? (i := 105) (by decide +kernel)) rfl, by decide +kernel, by decide +kernel, by decide +kernel⟩, px_in (List.mem_of_getElem? (i := 760) (by decide +kernel)) rfl, px_in (List.mem_of_getElem? (i := 18) (by decide +kernel)) rfl⟩
theorem plX6_holdsIn : plainFor mX6_holdsIn.1 = true := by decide +kernel
def mX6_smeltWhereLived : px_M := (yX6_smeltWhereLived, cX6_smeltWhereLived, 4, (some .int))
theorem okX6_smeltWhereLived : px_okV mX6_smeltWhereLived 0 := ⟨⟨px_in (List.mem_of_getElem? (i := 985) (by decide +kernel)) rfl, px_in (List.mem_of_getElem? (i := 105) (by decide +kernel)) rfl, by decide +kernel, by decide +kernel, by decide +kernel⟩, px_in (List.mem_of_getElem? (i := 983) (by decide +kernel)) rfl, px_in (List.mem_of_getElem? (i := 984) (by decide +kernel)) rfl⟩
theorem plX6_smeltWhereLived : plainFor mX6_smeltWhereLived.1 = true := by decide +kernel
def mX7_init : px_M := (yX7_init, cX7_init, 1, none)
theorem okX7_init : px_okI mX7_init 0 := ⟨⟨px_in (List.mem_of_getElem? (i := 125) (by decide +kernel)) rfl, px_in (List.mem_of_getElem? (i := 98) (by decide +kernel)) rfl, by decide +kernel, by decide +kernel, by decide +kernel⟩, px_in (List.mem_of_getElem? (i := 124) (by decide +kernel)) rfl, rfl, rfl⟩
theorem plX7_init : plainFor mX7_init.1 = true := by decide +kernel
def mX7_isPerson : px_M := (yX7_isPerson, cX7_isPerson, 2, (some .boolean))
theorem okX7_isPerson : px_okV mX7_isPerson 1 := ⟨⟨px_in (List.mem_of_getElem? (i := 502) (by decide +kernel)) rfl, px_in (List.mem_of_getElem? (i := 98) (by decide +kernel)) rfl, by decide +kernel, by decide +kernel, by decide +kernel⟩, px_in (List.mem_of_getElem? (i := 500) (by decide +kernel)) rfl, px_in (List.mem_of_getElem? (i := 501) (by decide +kernel)) rfl⟩
theorem plX7_isPerson : plainFor mX7_isPerson.1 = true := by decide +kernel
def mX7_isJoy : px_M := (yX7_isJoy, cX7_isJoy, 2, (some .boolean))
theorem okX7_isJoy : px_okV mX7_isJoy 1 := ⟨⟨px_in (List.mem_of_getElem? (i := 558) (by decide +kernel)) rfl, px_in (List.mem_of_getElem? (i := 98) (by decide +kernel)) rfl, by decide +kernel, by decide +kernel, by decide +kernel⟩, px_in (List.mem_of_getElem? (i := 556) (by decide +kernel)) rfl, px_in (List.mem_of_getElem? (i := 557) (by decide +kernel)) rfl⟩
theorem plX7_isJoy : plainFor mX7_isJoy.1 = true := by decide +kernel
def mX7_addJoy : px_M := (yX7_addJoy, cX7_addJoy, 3, (some .int))
theorem okX7_addJoy : px_okV mX7_addJoy 2 := ⟨⟨px_in (List.mem_of_getElem? (i := 506) (by decide +kernel)) rfl, px_in (List.mem_of_getElem? (i := 98) (by decide +kernel)) rfl, by decide +kernel, by decide +kernel, by decide +kernel⟩, px_in (List.mem_of_getElem? (i := 504) (by decide +kernel)) rfl, px_in (List.mem_of_getElem? (i := 505) (by decide +kernel)) rfl⟩
theorem plX7_addJoy : plainFor mX7_addJoy.1 = true := by decide +kernel
def mX8_init : px_M := (yX8_init, cX8_init, 1, none)
theorem okX8_init : px_okI mX8_init 0 := ⟨⟨px_in (List.mem_of_getElem? (i := 318) (by decide +kernel)) rfl, px_in (List.mem_of_getElem? (i := 104) (by decide +kernel)) rfl, by decide +kernel, by decide +kernel, by decide +kernel⟩, px_in (List.mem_of_getElem? (i := 317) (by decide +kernel)) rfl, rfl, rfl⟩
theorem plX8_init : plainFor mX8_init.1 = true := by decide +kernel
def mX8_append : px_M := (yX8_append, cX8_append, 2, (some .boolean))
theorem okX8_append : px_okV mX8_append 1 := ⟨⟨px_in (List.mem_of_getElem? (i := 604) (by decide +kernel)) rfl, px_in (List.mem_of_getElem? (i := 104) (by decide +kernel)) rfl, by decide +kernel, by decide +kernel, by decide +kernel⟩, px_in (List.mem_of_getElem? (i := 602) (by decide +kernel)) rfl, px_in (List.mem_of_getElem? (i := 603) (by decide +kernel)) rfl⟩
theorem plX8_append : plainFor mX8_append.1 = true := by decide +kernel
def mX8_readLaw : px_M := (yX8_readLaw, cX8_readLaw, 2, (some .int))
theorem okX8_readLaw : px_okV mX8_readLaw 0 := ⟨⟨px_in (List.mem_of_getElem? (i := 612) (by decide +kernel)) rfl, px_in (List.mem_of_getElem? (i := 104) (by decide +kernel)) rfl, by decide +kernel, by decide +kernel, by decide +kernel⟩, px_in (List.mem_of_getElem? (i := 610) (by decide +kernel)) rfl, px_in (List.mem_of_getElem? (i := 611) (by decide +kernel)) rfl⟩
theorem plX8_readLaw : plainFor mX8_readLaw.1 = true := by decide +kernel
def mX8_next : px_M := (yX8_next, cX8_next, 1, (some .int))
theorem okX8_next : px_okV mX8_next 0 := ⟨⟨px_in (List.mem_of_getElem? (i := 648) (by decide +kernel)) rfl, px_in (List.mem_of_getElem? (i := 104) (by decide +kernel)) rfl, by decide +kernel, by decide +kernel, by decide +kernel⟩, px_in (List.mem_of_getElem? (i := 647) (by decide +kernel)) rfl, px_in (List.mem_of_getElem? (i := 12) (by decide +kernel)) rfl⟩
theorem plX8_next : plainFor mX8_next.1 = true := by decide +kernel
def mX8_takes : px_M := (yX8_takes, cX8_takes, 2, (some .boolean))
theorem okX8_takes : px_okV mX8_takes 1 := ⟨⟨px_in (List.mem_of_getElem? (i := 666) (by decide +kernel)) rfl, px_in (List.mem_of_getElem? (i := 104) (by decide +kernel)) rfl, by decide +kernel, by decide +kernel, by decide +kernel⟩, px_in (List.mem_of_getElem? (i := 665) (by decide +kernel)) rfl, px_in (List.mem_of_getElem? (i := 14) (by decide +kernel)) rfl⟩
theorem plX8_takes : plainFor mX8_takes.1 = true := by decide +kernel
def mX8_readLine : px_M := (yX8_readLine, cX8_readLine, 2, none)
theorem okX8_readLine : px_okV mX8_readLine 0 := ⟨⟨px_in (List.mem_of_getElem? (i := 620) (by decide +kernel)) rfl, px_in (List.mem_of_getElem? (i := 104) (by decide +kernel)) rfl, by decide +kernel, by decide +kernel, by decide +kernel⟩, px_in (List.mem_of_getElem? (i := 619) (by decide +kernel)) rfl, px_in (List.mem_of_getElem? (i := 5) (by decide +kernel)) rfl⟩
theorem plX8_readLine : plainFor mX8_readLine.1 = true := by decide +kernel
def mX8_readEither : px_M := (yX8_readEither, cX8_readEither, 3, none)
theorem okX8_readEither : px_okV mX8_readEither 1 := ⟨⟨px_in (List.mem_of_getElem? (i := 624) (by decide +kernel)) rfl, px_in (List.mem_of_getElem? (i := 104) (by decide +kernel)) rfl, by decide +kernel, by decide +kernel, by decide +kernel⟩, px_in (List.mem_of_getElem? (i := 623) (by decide +kernel)) rfl, px_in (List.mem_of_getElem? (i := 6) (by decide +kernel)) rfl⟩
theorem plX8_readEither : plainFor mX8_readEither.1 = true := by decide +kernel
def mX8_readBoth : px_M := (yX8_readBoth, cX8_readBoth, 3, none)
theorem okX8_readBoth : px_okV mX8_readBoth 1 := ⟨⟨px_in (List.mem_of_getElem? (i := 628) (by decide +kernel)) rfl, px_in (List.mem_of_getElem? (i := 104) (by decide +kernel)) rfl, by decide +kernel, by decide +kernel, by decide +kernel⟩, px_in (List.mem_of_getElem? (i := 627) (by decide +kernel)) rfl, px_in (List.mem_of_getElem? (i := 7) (by decide +kernel)) rfl⟩
theorem plX8_readBoth : plainFor mX8_readBoth.1 = true := by decide +kernel
def mX8_readCompared : px_M := (yX8_readCompared, cX8_readCompared, 3, none)
theorem okX8_readCompared : px_okV mX8_readCompared 1 := ⟨⟨px_in (List.mem_of_getElem? (i := 632) (by decide +kernel)) rfl, px_in (List.mem_of_getElem? (i := 104) (by decide +kernel)) rfl, by decide +kernel, by decide +kernel, by decide +kernel⟩, px_in (List.mem_of_getElem? (i := 631) (by decide +kernel)) rfl, px_in (List.mem_of_getElem? (i := 8) (by decide +kernel)) rfl⟩
theorem plX8_readCompared : plainFor mX8_readCompared.1 = true := by decide +kernel
def mX8_readSum : px_M := (yX8_readSum, cX8_readSum, 4, none)
theorem okX8_readSum : px_okV mX8_readSum 1 := ⟨⟨px_in (List.mem_of_getElem? (i := 636) (by decide +kernel)) rfl, px_in (List.mem_of_getElem? (i := 104) (by decide +kernel)) rfl, by decide +kernel, by decide +kernel, by decide +kernel⟩, px_in (List.mem_of_getElem? (i := 635) (by decide +kernel)) rfl, px_in (List.mem_of_getElem? (i := 9) (by decide +kernel)) rfl⟩
theorem plX8_readSum : plainFor mX8_readSum.1 = true := by decide +kernel
def mX8_readProduct : px_M := (yX8_readProduct, cX8_readProduct, 4, none)
theorem okX8_readProduct : px_okV mX8_readProduct 1 := ⟨⟨px_in (List.mem_of_getElem? (i := 640) (by decide +kernel)) rfl, px_in (List.mem_of_getElem? (i := 104) (by decide +kernel)) rfl, by decide +kernel, by decide +kernel, by decide +kernel⟩, px_in (List.mem_of_getElem? (i := 639) (by decide +kernel)) rfl, px_in (List.mem_of_getElem? (i := 10) (by decide +kernel)) rfl⟩
theorem plX8_readProduct : plainFor mX8_readProduct.1 = true := by decide +kernel
def mX8_readOperand : px_M := (yX8_readOperand, cX8_readOperand, 3, none)
theorem okX8_readOperand : px_okV mX8_readOperand 1 := ⟨⟨px_in (List.mem_of_getElem? (i := 644) (by decide +kernel)) rfl, px_in (List.mem_of_getElem? (i := 104) (by decide +kernel)) rfl, by decide +kernel, by decide +kernel, by decide +kernel⟩, px_in (List.mem_of_getElem? (i := 643) (by decide +kernel)) rfl, px_in (List.mem_of_getElem? (i := 11) (by decide +kernel)) rfl⟩
theorem plX8_readOperand : plainFor mX8_readOperand.1 = true := by decide +kernel
def mX8_readNumber : px_M := (yX8_readNumber, cX8_readNumber, 3, none)
theorem okX8_readNumber : px_okV mX8_readNumber 0 := ⟨⟨px_in (List.mem_of_getElem? (i := 658) (by decide +kernel)) rfl, px_in (List.mem_of_getElem? (i := 104) (by decide +kernel)) rfl, by decide +kernel, by decide +kernel, by decide +kernel⟩, px_in (List.mem_of_getElem? (i := 657) (by decide +kernel)) rfl, px_in (List.mem_of_getElem? (i := 13) (by decide +kernel)) rfl⟩
theorem plX8_readNumber : plainFor mX8_readNumber.1 = true := by decide +kernel
def mX8_isDigit : px_M := (yX8_isDigit, cX8_isDigit, 1, (some .boolean))
theorem okX8_isDigit : px_okS mX8_isDigit 1 := ⟨⟨px_in (List.mem_of_getElem? (i := 654) (by decide +kernel)) rfl, px_in (List.mem_of_getElem? (i := 104) (by decide +kernel)) rfl, by decide +kernel, by decide +kernel, by decide +kernel⟩, px_in (List.mem_of_getElem? (i := 653) (by decide +kernel)) rfl⟩
theorem plX8_isDigit : plainFor mX8_isDigit.1 = true := by decide +kernel
def mX8_nameOf : px_M := (yX8_nameOf, cX8_nameOf, 1, (some .int))
theorem okX8_nameOf : px_okS mX8_nameOf 1 := ⟨⟨px_in (List.mem_of_getElem? (i := 651) (by decide +kernel)) rfl, px_in (List.mem_of_getElem? (i := 104) (by decide +kernel)) rfl, by decide +kernel, by decide +kernel, by decide +kernel⟩, px_in (List.mem_of_getElem? (i := 650) (by decide +kernel)) rfl⟩
theorem plX8_nameOf : plainFor mX8_nameOf.1 = true := by decide +kernel
def mX9_init : px_M := (yX9_init, cX9_init, 4, none)
theorem okX9_init : px_okI mX9_init 3 := ⟨⟨px_in (List.mem_of_getElem? (i := 363) (by decide +kernel)) rfl, px_in (List.mem_of_getElem? (i := 106) (by decide +kernel)) rfl, by decide +kernel, by decide +kernel, by decide +kernel⟩, px_in (List.mem_of_getElem? (i := 362) (by decide +kernel)) rfl, rfl, rfl⟩
theorem plX9_init : plainFor mX9_init.1 = true := by decide +kernel
def mX9_startNow : px_M := (yX9_startNow, cX9_startNow, 1, none)
theorem okX9_startNow : px_okV mX9_startNow 0 := ⟨⟨px_in (List.mem_of_getElem? (i := 774) (by decide +kernel)) rfl, px_in (List.mem_of_getElem? (i := 106) (by decide +kernel)) rfl, by decide +kernel, by decide +kernel, by decide +kernel⟩, px_in (List.mem_of_getElem? (i := 773) (by decide +kernel)) rfl, px_in (List.mem_of_getElem? (i := 19) (by decide +kernel)) rfl⟩
theorem plX9_startNow : plainFor mX9_startNow.1 = true := by decide +kernel
def mX9_behind : px_M := (yX9_behind, cX9_behind, 3, (some (.object "GladSide$Course")))
theorem okX9_behind : px_okV mX9_behind 1 := ⟨⟨px_in (List.mem_of_getElem? (i := 770) (by decide +kernel)) rfl, px_in (List.mem_of_getElem? (i := 106) (by decide +kernel)) rfl, by decide +kernel, by decide +kernel, by decide +kernel⟩, px_in (List.mem_of_getElem? (i := 768) (by decide +kernel)) rfl, px_in (List.mem_of_getElem? (i := 769) (by decide +kernel)) rfl⟩
theorem plX9_behind : plainFor mX9_behind.1 = true := by decide +kernel
def mX9_worthBehind : px_M := (yX9_worthBehind, cX9_worthBehind, 5, (some .int))
theorem okX9_worthBehind : px_okV mX9_worthBehind 3 := ⟨⟨px_in (List.mem_of_getElem? (i := 856) (by decide +kernel)) rfl, px_in (List.mem_of_getElem? (i := 106) (by decide +kernel)) rfl, by decide +kernel, by decide +kernel, by decide +kernel⟩, px_in (List.mem_of_getElem? (i := 855) (by decide +kernel)) rfl, px_in (List.mem_of_getElem? (i := 23) (by decide +kernel)) rfl⟩
theorem plX9_worthBehind : plainFor mX9_worthBehind.1 = true := by decide +kernel
def mX9_firstDayOf : px_M := (yX9_firstDayOf, cX9_firstDayOf, 4, (some .int))
theorem okX9_firstDayOf : px_okV mX9_firstDayOf 2 := ⟨⟨px_in (List.mem_of_getElem? (i := 843) (by decide +kernel)) rfl, px_in (List.mem_of_getElem? (i := 106) (by decide +kernel)) rfl, by decide +kernel, by decide +kernel, by decide +kernel⟩, px_in (List.mem_of_getElem? (i := 841) (by decide +kernel)) rfl, px_in (List.mem_of_getElem? (i := 842) (by decide +kernel)) rfl⟩
theorem plX9_firstDayOf : plainFor mX9_firstDayOf.1 = true := by decide +kernel
def mX9_seekMove : px_M := (yX9_seekMove, cX9_seekMove, 4, none)
theorem okX9_seekMove : px_okV mX9_seekMove 1 := ⟨⟨px_in (List.mem_of_getElem? (i := 852) (by decide +kernel)) rfl, px_in (List.mem_of_getElem? (i := 106) (by decide +kernel)) rfl, by decide +kernel, by decide +kernel, by decide +kernel⟩, px_in (List.mem_of_getElem? (i := 850) (by decide +kernel)) rfl, px_in (List.mem_of_getElem? (i := 851) (by decide +kernel)) rfl⟩
theorem plX9_seekMove : plainFor mX9_seekMove.1 = true := by decide +kernel
def mX9_seekDue : px_M := (yX9_seekDue, cX9_seekDue, 6, none)
theorem okX9_seekDue : px_okV mX9_seekDue 2 := ⟨⟨px_in (List.mem_of_getElem? (i := 875) (by decide +kernel)) rfl, px_in (List.mem_of_getElem? (i := 106) (by decide +kernel)) rfl, by decide +kernel, by decide +kernel, by decide +kernel⟩, px_in (List.mem_of_getElem? (i := 873) (by decide +kernel)) rfl, px_in (List.mem_of_getElem? (i := 874) (by decide +kernel)) rfl⟩
theorem plX9_seekDue : plainFor mX9_seekDue.1 = true := by decide +kernel
def mX9_firstUnlike : px_M := (yX9_firstUnlike, cX9_firstUnlike, 7, (some .int))
theorem okX9_firstUnlike : px_okV mX9_firstUnlike 2 := ⟨⟨px_in (List.mem_of_getElem? (i := 883) (by decide +kernel)) rfl, px_in (List.mem_of_getElem? (i := 106) (by decide +kernel)) rfl, by decide +kernel, by decide +kernel, by decide +kernel⟩, px_in (List.mem_of_getElem? (i := 881) (by decide +kernel)) rfl, px_in (List.mem_of_getElem? (i := 882) (by decide +kernel)) rfl⟩
theorem plX9_firstUnlike : plainFor mX9_firstUnlike.1 = true := by decide +kernel
def mX9_seekFits : px_M := (yX9_seekFits, cX9_seekFits, 8, none)
theorem okX9_seekFits : px_okV mX9_seekFits 5 := ⟨⟨px_in (List.mem_of_getElem? (i := 896) (by decide +kernel)) rfl, px_in (List.mem_of_getElem? (i := 106) (by decide +kernel)) rfl, by decide +kernel, by decide +kernel, by decide +kernel⟩, px_in (List.mem_of_getElem? (i := 894) (by decide +kernel)) rfl, px_in (List.mem_of_getElem? (i := 895) (by decide +kernel)) rfl⟩
theorem plX9_seekFits : plainFor mX9_seekFits.1 = true := by decide +kernel
def mX9_drawLanes : px_M := (yX9_drawLanes, cX9_drawLanes, 10, (some .int))
theorem okX9_drawLanes : px_okV mX9_drawLanes 5 := ⟨⟨px_in (List.mem_of_getElem? (i := 962) (by decide +kernel)) rfl, px_in (List.mem_of_getElem? (i := 106) (by decide +kernel)) rfl, by decide +kernel, by decide +kernel, by decide +kernel⟩, px_in (List.mem_of_getElem? (i := 960) (by decide +kernel)) rfl, px_in (List.mem_of_getElem? (i := 961) (by decide +kernel)) rfl⟩
theorem plX9_drawLanes : plainFor mX9_drawLanes.1 = true := by decide +kernel
def mX9_moveByDraw : px_M := (yX9_moveByDraw, cX9_moveByDraw, 4, none)
theorem okX9_moveByDraw : px_okV mX9_moveByDraw 2 := ⟨⟨px_in (List.mem_of_getElem? (i := 967) (by decide +kernel)) rfl, px_in (List.mem_of_getElem? (i := 106) (by decide +kernel)) rfl, by decide +kernel, by decide +kernel, by decide +kernel⟩, px_in (List.mem_of_getElem? (i := 966) (by decide +kernel)) rfl, px_in (List.mem_of_getElem? (i := 28) (by decide +kernel)) rfl⟩
theorem plX9_moveByDraw : plainFor mX9_moveByDraw.1 = true := by decide +kernel
def mX10_init : px_M := (yX10_init, cX10_init, 3, none)
theorem okX10_init : px_okI mX10_init 2 := ⟨⟨px_in (List.mem_of_getElem? (i := 392) (by decide +kernel)) rfl, px_in (List.mem_of_getElem? (i := 107) (by decide +kernel)) rfl, by decide +kernel, by decide +kernel, by decide +kernel⟩, px_in (List.mem_of_getElem? (i := 391) (by decide +kernel)) rfl, rfl, rfl⟩
theorem plX10_init : plainFor mX10_init.1 = true := by decide +kernel
def mX10_fewestToTurn : px_M := (yX10_fewestToTurn, cX10_fewestToTurn, 6, (some .int))
theorem okX10_fewestToTurn : px_okV mX10_fewestToTurn 1 := ⟨⟨px_in (List.mem_of_getElem? (i := 866) (by decide +kernel)) rfl, px_in (List.mem_of_getElem? (i := 107) (by decide +kernel)) rfl, by decide +kernel, by decide +kernel, by decide +kernel⟩, px_in (List.mem_of_getElem? (i := 864) (by decide +kernel)) rfl, px_in (List.mem_of_getElem? (i := 865) (by decide +kernel)) rfl⟩
theorem plX10_fewestToTurn : plainFor mX10_fewestToTurn.1 = true := by decide +kernel
def mX10_areAcross : px_M := (yX10_areAcross, cX10_areAcross, 3, (some .boolean))
theorem okX10_areAcross : px_okV mX10_areAcross 2 := ⟨⟨px_in (List.mem_of_getElem? (i := 921) (by decide +kernel)) rfl, px_in (List.mem_of_getElem? (i := 107) (by decide +kernel)) rfl, by decide +kernel, by decide +kernel, by decide +kernel⟩, px_in (List.mem_of_getElem? (i := 920) (by decide +kernel)) rfl, px_in (List.mem_of_getElem? (i := 24) (by decide +kernel)) rfl⟩
theorem plX10_areAcross : plainFor mX10_areAcross.1 = true := by decide +kernel
def mX10_nearestAcross : px_M := (yX10_nearestAcross, cX10_nearestAcross, 4, (some .int))
theorem okX10_nearestAcross : px_okV mX10_nearestAcross 1 := ⟨⟨px_in (List.mem_of_getElem? (i := 917) (by decide +kernel)) rfl, px_in (List.mem_of_getElem? (i := 107) (by decide +kernel)) rfl, by decide +kernel, by decide +kernel, by decide +kernel⟩, px_in (List.mem_of_getElem? (i := 915) (by decide +kernel)) rfl, px_in (List.mem_of_getElem? (i := 916) (by decide +kernel)) rfl⟩
theorem plX10_nearestAcross : plainFor mX10_nearestAcross.1 = true := by decide +kernel
def mX10_mostPairs : px_M := (yX10_mostPairs, cX10_mostPairs, 4, (some .int))
theorem okX10_mostPairs : px_okV mX10_mostPairs 1 := ⟨⟨px_in (List.mem_of_getElem? (i := 931) (by decide +kernel)) rfl, px_in (List.mem_of_getElem? (i := 107) (by decide +kernel)) rfl, by decide +kernel, by decide +kernel, by decide +kernel⟩, px_in (List.mem_of_getElem? (i := 929) (by decide +kernel)) rfl, px_in (List.mem_of_getElem? (i := 930) (by decide +kernel)) rfl⟩
theorem plX10_mostPairs : plainFor mX10_mostPairs.1 = true := by decide +kernel
def mX10_pairOff : px_M := (yX10_pairOff, cX10_pairOff, 7, none)
theorem okX10_pairOff : px_okV mX10_pairOff 2 := ⟨⟨px_in (List.mem_of_getElem? (i := 935) (by decide +kernel)) rfl, px_in (List.mem_of_getElem? (i := 107) (by decide +kernel)) rfl, by decide +kernel, by decide +kernel, by decide +kernel⟩, px_in (List.mem_of_getElem? (i := 934) (by decide +kernel)) rfl, px_in (List.mem_of_getElem? (i := 25) (by decide +kernel)) rfl⟩
theorem plX10_pairOff : plainFor mX10_pairOff.1 = true := by decide +kernel
def mX10_playTurns : px_M := (yX10_playTurns, cX10_playTurns, 5, none)
theorem okX10_playTurns : px_okV mX10_playTurns 1 := ⟨⟨px_in (List.mem_of_getElem? (i := 946) (by decide +kernel)) rfl, px_in (List.mem_of_getElem? (i := 107) (by decide +kernel)) rfl, by decide +kernel, by decide +kernel, by decide +kernel⟩, px_in (List.mem_of_getElem? (i := 944) (by decide +kernel)) rfl, px_in (List.mem_of_getElem? (i := 945) (by decide +kernel)) rfl⟩
theorem plX10_playTurns : plainFor mX10_playTurns.1 = true := by decide +kernel
def mX10_bestLead : px_M := (yX10_bestLead, cX10_bestLead, 7, (some .int))
theorem okX10_bestLead : px_okV mX10_bestLead 3 := ⟨⟨px_in (List.mem_of_getElem? (i := 950) (by decide +kernel)) rfl, px_in (List.mem_of_getElem? (i := 107) (by decide +kernel)) rfl, by decide +kernel, by decide +kernel, by decide +kernel⟩, px_in (List.mem_of_getElem? (i := 949) (by decide +kernel)) rfl, px_in (List.mem_of_getElem? (i := 26) (by decide +kernel)) rfl⟩
theorem plX10_bestLead : plainFor mX10_bestLead.1 = true := by decide +kernel
def mX10_leadIfMoved : px_M := (yX10_leadIfMoved, cX10_leadIfMoved, 7, (some .int))
theorem okX10_leadIfMoved : px_okV mX10_leadIfMoved 4 := ⟨⟨px_in (List.mem_of_getElem? (i := 954) (by decide +kernel)) rfl, px_in (List.mem_of_getElem? (i := 107) (by decide +kernel)) rfl, by decide +kernel, by decide +kernel, by decide +kernel⟩, px_in (List.mem_of_getElem? (i := 953) (by decide +kernel)) rfl, px_in (List.mem_of_getElem? (i := 27) (by decide +kernel)) rfl⟩
theorem plX10_leadIfMoved : plainFor mX10_leadIfMoved.1 = true := by decide +kernel
def mX11_init : px_M := (yX11_init, cX11_init, 6, none)
theorem okX11_init : px_okI mX11_init 0 := ⟨⟨px_in (List.mem_of_getElem? (i := 117) (by decide +kernel)) rfl, px_in (List.mem_of_getElem? (i := 97) (by decide +kernel)) rfl, by decide +kernel, by decide +kernel, by decide +kernel⟩, px_in (List.mem_of_getElem? (i := 116) (by decide +kernel)) rfl, rfl, rfl⟩
theorem plX11_init : plainFor mX11_init.1 = true := by decide +kernel
def mX11_person : px_M := (yX11_person, cX11_person, 2, (some .int))
theorem okX11_person : px_okV mX11_person 1 := ⟨⟨px_in (List.mem_of_getElem? (i := 491) (by decide +kernel)) rfl, px_in (List.mem_of_getElem? (i := 97) (by decide +kernel)) rfl, by decide +kernel, by decide +kernel, by decide +kernel⟩, px_in (List.mem_of_getElem? (i := 489) (by decide +kernel)) rfl, px_in (List.mem_of_getElem? (i := 490) (by decide +kernel)) rfl⟩
theorem plX11_person : plainFor mX11_person.1 = true := by decide +kernel
def mX11_joy : px_M := (yX11_joy, cX11_joy, 3, (some .int))
theorem okX11_joy : px_okV mX11_joy 2 := ⟨⟨px_in (List.mem_of_getElem? (i := 498) (by decide +kernel)) rfl, px_in (List.mem_of_getElem? (i := 97) (by decide +kernel)) rfl, by decide +kernel, by decide +kernel, by decide +kernel⟩, px_in (List.mem_of_getElem? (i := 496) (by decide +kernel)) rfl, px_in (List.mem_of_getElem? (i := 497) (by decide +kernel)) rfl⟩
theorem plX11_joy : plainFor mX11_joy.1 = true := by decide +kernel
def mX11_joys : px_M := (yX11_joys, cX11_joys, 7, (some .int))
theorem okX11_joys : px_okV mX11_joys 3 := ⟨⟨px_in (List.mem_of_getElem? (i := 510) (by decide +kernel)) rfl, px_in (List.mem_of_getElem? (i := 97) (by decide +kernel)) rfl, by decide +kernel, by decide +kernel, by decide +kernel⟩, px_in (List.mem_of_getElem? (i := 508) (by decide +kernel)) rfl, px_in (List.mem_of_getElem? (i := 509) (by decide +kernel)) rfl⟩
theorem plX11_joys : plainFor mX11_joys.1 = true := by decide +kernel
def mX11_joyFromRow : px_M := (yX11_joyFromRow, cX11_joyFromRow, 7, (some .boolean))
theorem okX11_joyFromRow : px_okV mX11_joyFromRow 2 := ⟨⟨px_in (List.mem_of_getElem? (i := 533) (by decide +kernel)) rfl, px_in (List.mem_of_getElem? (i := 97) (by decide +kernel)) rfl, by decide +kernel, by decide +kernel, by decide +kernel⟩, px_in (List.mem_of_getElem? (i := 532) (by decide +kernel)) rfl, px_in (List.mem_of_getElem? (i := 2) (by decide +kernel)) rfl⟩
theorem plX11_joyFromRow : plainFor mX11_joyFromRow.1 = true := by decide +kernel
def mX11_mend : px_M := (yX11_mend, cX11_mend, 5, (some .int))
theorem okX11_mend : px_okV mX11_mend 3 := ⟨⟨px_in (List.mem_of_getElem? (i := 562) (by decide +kernel)) rfl, px_in (List.mem_of_getElem? (i := 97) (by decide +kernel)) rfl, by decide +kernel, by decide +kernel, by decide +kernel⟩, px_in (List.mem_of_getElem? (i := 560) (by decide +kernel)) rfl, px_in (List.mem_of_getElem? (i := 561) (by decide +kernel)) rfl⟩
theorem plX11_mend : plainFor mX11_mend.1 = true := by decide +kernel
def mX11_of : px_M := (yX11_of, cX11_of, 3, (some .int))
theorem okX11_of : px_okV mX11_of 2 := ⟨⟨px_in (List.mem_of_getElem? (i := 596) (by decide +kernel)) rfl, px_in (List.mem_of_getElem? (i := 97) (by decide +kernel)) rfl, by decide +kernel, by decide +kernel, by decide +kernel⟩, px_in (List.mem_of_getElem? (i := 594) (by decide +kernel)) rfl, px_in (List.mem_of_getElem? (i := 595) (by decide +kernel)) rfl⟩
theorem plX11_of : plainFor mX11_of.1 = true := by decide +kernel
def mX11_feed : px_M := (yX11_feed, cX11_feed, 2, (some .int))
theorem okX11_feed : px_okV mX11_feed 1 := ⟨⟨px_in (List.mem_of_getElem? (i := 600) (by decide +kernel)) rfl, px_in (List.mem_of_getElem? (i := 97) (by decide +kernel)) rfl, by decide +kernel, by decide +kernel, by decide +kernel⟩, px_in (List.mem_of_getElem? (i := 598) (by decide +kernel)) rfl, px_in (List.mem_of_getElem? (i := 599) (by decide +kernel)) rfl⟩
theorem plX11_feed : plainFor mX11_feed.1 = true := by decide +kernel
def mX11_law : px_M := (yX11_law, cX11_law, 2, (some .int))
theorem okX11_law : px_okV mX11_law 0 := ⟨⟨px_in (List.mem_of_getElem? (i := 608) (by decide +kernel)) rfl, px_in (List.mem_of_getElem? (i := 97) (by decide +kernel)) rfl, by decide +kernel, by decide +kernel, by decide +kernel⟩, px_in (List.mem_of_getElem? (i := 606) (by decide +kernel)) rfl, px_in (List.mem_of_getElem? (i := 607) (by decide +kernel)) rfl⟩
theorem plX11_law : plainFor mX11_law.1 = true := by decide +kernel
def mX11_smell : px_M := (yX11_smell, cX11_smell, 3, (some .int))
theorem okX11_smell : px_okV mX11_smell 2 := ⟨⟨px_in (List.mem_of_getElem? (i := 679) (by decide +kernel)) rfl, px_in (List.mem_of_getElem? (i := 97) (by decide +kernel)) rfl, by decide +kernel, by decide +kernel, by decide +kernel⟩, px_in (List.mem_of_getElem? (i := 677) (by decide +kernel)) rfl, px_in (List.mem_of_getElem? (i := 678) (by decide +kernel)) rfl⟩
theorem plX11_smell : plainFor mX11_smell.1 = true := by decide +kernel
def mX11_smelt : px_M := (yX11_smelt, cX11_smelt, 2, (some .int))
theorem okX11_smelt : px_okV mX11_smelt 1 := ⟨⟨px_in (List.mem_of_getElem? (i := 736) (by decide +kernel)) rfl, px_in (List.mem_of_getElem? (i := 97) (by decide +kernel)) rfl, by decide +kernel, by decide +kernel, by decide +kernel⟩, px_in (List.mem_of_getElem? (i := 734) (by decide +kernel)) rfl, px_in (List.mem_of_getElem? (i := 735) (by decide +kernel)) rfl⟩
theorem plX11_smelt : plainFor mX11_smelt.1 = true := by decide +kernel
def mX11_shut : px_M := (yX11_shut, cX11_shut, 3, (some .int))
theorem okX11_shut : px_okV mX11_shut 1 := ⟨⟨px_in (List.mem_of_getElem? (i := 746) (by decide +kernel)) rfl, px_in (List.mem_of_getElem? (i := 97) (by decide +kernel)) rfl, by decide +kernel, by decide +kernel, by decide +kernel⟩, px_in (List.mem_of_getElem? (i := 744) (by decide +kernel)) rfl, px_in (List.mem_of_getElem? (i := 745) (by decide +kernel)) rfl⟩
theorem plX11_shut : plainFor mX11_shut.1 = true := by decide +kernel
def mX11_lane : px_M := (yX11_lane, cX11_lane, 4, (some .int))
theorem okX11_lane : px_okV mX11_lane 2 := ⟨⟨px_in (List.mem_of_getElem? (i := 766) (by decide +kernel)) rfl, px_in (List.mem_of_getElem? (i := 97) (by decide +kernel)) rfl, by decide +kernel, by decide +kernel, by decide +kernel⟩, px_in (List.mem_of_getElem? (i := 764) (by decide +kernel)) rfl, px_in (List.mem_of_getElem? (i := 765) (by decide +kernel)) rfl⟩
theorem plX11_lane : plainFor mX11_lane.1 = true := by decide +kernel
def mX11_when : px_M := (yX11_when, cX11_when, 3, (some .int))
theorem okX11_when : px_okV mX11_when 2 := ⟨⟨px_in (List.mem_of_getElem? (i := 839) (by decide +kernel)) rfl, px_in (List.mem_of_getElem? (i := 97) (by decide +kernel)) rfl, by decide +kernel, by decide +kernel, by decide +kernel⟩, px_in (List.mem_of_getElem? (i := 837) (by decide +kernel)) rfl, px_in (List.mem_of_getElem? (i := 838) (by decide +kernel)) rfl⟩
theorem plX11_when : plainFor mX11_when.1 = true := by decide +kernel
def mX11_move : px_M := (yX11_move, cX11_move, 3, (some .int))
theorem okX11_move : px_okV mX11_move 2 := ⟨⟨px_in (List.mem_of_getElem? (i := 848) (by decide +kernel)) rfl, px_in (List.mem_of_getElem? (i := 97) (by decide +kernel)) rfl, by decide +kernel, by decide +kernel, by decide +kernel⟩, px_in (List.mem_of_getElem? (i := 846) (by decide +kernel)) rfl, px_in (List.mem_of_getElem? (i := 847) (by decide +kernel)) rfl⟩
theorem plX11_move : plainFor mX11_move.1 = true := by decide +kernel
def mX11_over : px_M := (yX11_over, cX11_over, 2, (some .int))
theorem okX11_over : px_okV mX11_over 1 := ⟨⟨px_in (List.mem_of_getElem? (i := 862) (by decide +kernel)) rfl, px_in (List.mem_of_getElem? (i := 97) (by decide +kernel)) rfl, by decide +kernel, by decide +kernel, by decide +kernel⟩, px_in (List.mem_of_getElem? (i := 860) (by decide +kernel)) rfl, px_in (List.mem_of_getElem? (i := 861) (by decide +kernel)) rfl⟩
theorem plX11_over : plainFor mX11_over.1 = true := by decide +kernel
def mX11_date : px_M := (yX11_date, cX11_date, 4, (some .int))
theorem okX11_date : px_okV mX11_date 3 := ⟨⟨px_in (List.mem_of_getElem? (i := 871) (by decide +kernel)) rfl, px_in (List.mem_of_getElem? (i := 97) (by decide +kernel)) rfl, by decide +kernel, by decide +kernel, by decide +kernel⟩, px_in (List.mem_of_getElem? (i := 869) (by decide +kernel)) rfl, px_in (List.mem_of_getElem? (i := 870) (by decide +kernel)) rfl⟩
theorem plX11_date : plainFor mX11_date.1 = true := by decide +kernel
def mX11_judge : px_M := (yX11_judge, cX11_judge, 4, (some .int))
theorem okX11_judge : px_okV mX11_judge 2 := ⟨⟨px_in (List.mem_of_getElem? (i := 879) (by decide +kernel)) rfl, px_in (List.mem_of_getElem? (i := 97) (by decide +kernel)) rfl, by decide +kernel, by decide +kernel, by decide +kernel⟩, px_in (List.mem_of_getElem? (i := 877) (by decide +kernel)) rfl, px_in (List.mem_of_getElem? (i := 878) (by decide +kernel)) rfl⟩
theorem plX11_judge : plainFor mX11_judge.1 = true := by decide +kernel
def mX11_fits : px_M := (yX11_fits, cX11_fits, 7, (some .int))
theorem okX11_fits : px_okV mX11_fits 3 := ⟨⟨px_in (List.mem_of_getElem? (i := 892) (by decide +kernel)) rfl, px_in (List.mem_of_getElem? (i := 97) (by decide +kernel)) rfl, by decide +kernel, by decide +kernel, by decide +kernel⟩, px_in (List.mem_of_getElem? (i := 890) (by decide +kernel)) rfl, px_in (List.mem_of_getElem? (i := 891) (by decide +kernel)) rfl⟩
theorem plX11_fits : plainFor mX11_fits.1 = true := by decide +kernel
def mX11_who : px_M := (yX11_who, cX11_who, 5, (some .int))
theorem okX11_who : px_okV mX11_who 1 := ⟨⟨px_in (List.mem_of_getElem? (i := 901) (by decide +kernel)) rfl, px_in (List.mem_of_getElem? (i := 97) (by decide +kernel)) rfl, by decide +kernel, by decide +kernel, by decide +kernel⟩, px_in (List.mem_of_getElem? (i := 899) (by decide +kernel)) rfl, px_in (List.mem_of_getElem? (i := 900) (by decide +kernel)) rfl⟩
theorem plX11_who : plainFor mX11_who.1 = true := by decide +kernel
def mX11_share : px_M := (yX11_share, cX11_share, 4, (some .int))
theorem okX11_share : px_okV mX11_share 2 := ⟨⟨px_in (List.mem_of_getElem? (i := 905) (by decide +kernel)) rfl, px_in (List.mem_of_getElem? (i := 97) (by decide +kernel)) rfl, by decide +kernel, by decide +kernel, by decide +kernel⟩, px_in (List.mem_of_getElem? (i := 903) (by decide +kernel)) rfl, px_in (List.mem_of_getElem? (i := 904) (by decide +kernel)) rfl⟩
theorem plX11_share : plainFor mX11_share.1 = true := by decide +kernel
def mX11_near : px_M := (yX11_near, cX11_near, 2, (some .int))
theorem okX11_near : px_okV mX11_near 1 := ⟨⟨px_in (List.mem_of_getElem? (i := 913) (by decide +kernel)) rfl, px_in (List.mem_of_getElem? (i := 97) (by decide +kernel)) rfl, by decide +kernel, by decide +kernel, by decide +kernel⟩, px_in (List.mem_of_getElem? (i := 911) (by decide +kernel)) rfl, px_in (List.mem_of_getElem? (i := 912) (by decide +kernel)) rfl⟩
theorem plX11_near : plainFor mX11_near.1 = true := by decide +kernel
def mX11_mates : px_M := (yX11_mates, cX11_mates, 2, (some .int))
theorem okX11_mates : px_okV mX11_mates 1 := ⟨⟨px_in (List.mem_of_getElem? (i := 927) (by decide +kernel)) rfl, px_in (List.mem_of_getElem? (i := 97) (by decide +kernel)) rfl, by decide +kernel, by decide +kernel, by decide +kernel⟩, px_in (List.mem_of_getElem? (i := 925) (by decide +kernel)) rfl, px_in (List.mem_of_getElem? (i := 926) (by decide +kernel)) rfl⟩
theorem plX11_mates : plainFor mX11_mates.1 = true := by decide +kernel
def mX11_byTurns : px_M := (yX11_byTurns, cX11_byTurns, 3, (some .int))
theorem okX11_byTurns : px_okV mX11_byTurns 2 := ⟨⟨px_in (List.mem_of_getElem? (i := 941) (by decide +kernel)) rfl, px_in (List.mem_of_getElem? (i := 97) (by decide +kernel)) rfl, by decide +kernel, by decide +kernel, by decide +kernel⟩, px_in (List.mem_of_getElem? (i := 939) (by decide +kernel)) rfl, px_in (List.mem_of_getElem? (i := 940) (by decide +kernel)) rfl⟩
theorem plX11_byTurns : plainFor mX11_byTurns.1 = true := by decide +kernel
def mX11_drawn : px_M := (yX11_drawn, cX11_drawn, 7, (some .int))
theorem okX11_drawn : px_okV mX11_drawn 3 := ⟨⟨px_in (List.mem_of_getElem? (i := 958) (by decide +kernel)) rfl, px_in (List.mem_of_getElem? (i := 97) (by decide +kernel)) rfl, by decide +kernel, by decide +kernel, by decide +kernel⟩, px_in (List.mem_of_getElem? (i := 956) (by decide +kernel)) rfl, px_in (List.mem_of_getElem? (i := 957) (by decide +kernel)) rfl⟩
theorem plX11_drawn : plainFor mX11_drawn.1 = true := by decide +kernel
def mX11_moves : px_M := (yX11_moves, cX11_moves, 4, (some .int))
theorem okX11_moves : px_okV mX11_moves 2 := ⟨⟨px_in (List.mem_of_getElem? (i := 972) (by decide +kernel)) rfl, px_in (List.mem_of_getElem? (i := 97) (by decide +kernel)) rfl, by decide +kernel, by decide +kernel, by decide +kernel⟩, px_in (List.mem_of_getElem? (i := 970) (by decide +kernel)) rfl, px_in (List.mem_of_getElem? (i := 971) (by decide +kernel)) rfl⟩
theorem plX11_moves : plainFor mX11_moves.1 = true := by decide +kernel
def mX11_day : px_M := (yX11_day, cX11_day, 1, (some .int))
theorem okX11_day : px_okV mX11_day 0 := ⟨⟨px_in (List.mem_of_getElem? (i := 976) (by decide +kernel)) rfl, px_in (List.mem_of_getElem? (i := 97) (by decide +kernel)) rfl, by decide +kernel, by decide +kernel, by decide +kernel⟩, px_in (List.mem_of_getElem? (i := 974) (by decide +kernel)) rfl, px_in (List.mem_of_getElem? (i := 975) (by decide +kernel)) rfl⟩
theorem plX11_day : plainFor mX11_day.1 = true := by decide +kernel
def mX11_inspect : px_M := (yX11_inspect, cX11_inspect, 2, (some .int))
theorem okX11_inspect : px_okV mX11_inspect 0 := ⟨⟨px_in (List.mem_of_getElem? (i := 981) (by decide +kernel)) rfl, px_in (List.mem_of_getElem? (i := 97) (by decide +kernel)) rfl, by decide +kernel, by decide +kernel, by decide +kernel⟩, px_in (List.mem_of_getElem? (i := 979) (by decide +kernel)) rfl, px_in (List.mem_of_getElem? (i := 980) (by decide +kernel)) rfl⟩
theorem plX11_inspect : plainFor mX11_inspect.1 = true := by decide +kernel
def mX11_led : px_M := (yX11_led, cX11_led, 2, (some .int))
theorem okX11_led : px_okV mX11_led 1 := ⟨⟨px_in (List.mem_of_getElem? (i := 989) (by decide +kernel)) rfl, px_in (List.mem_of_getElem? (i := 97) (by decide +kernel)) rfl, by decide +kernel, by decide +kernel, by decide +kernel⟩, px_in (List.mem_of_getElem? (i := 987) (by decide +kernel)) rfl, px_in (List.mem_of_getElem? (i := 988) (by decide +kernel)) rfl⟩
theorem plX11_led : plainFor mX11_led.1 = true := by decide +kernel
def mX11_image : px_M := (yX11_image, cX11_image, 1, (some .int))
theorem okX11_image : px_okV mX11_image 0 := ⟨⟨px_in (List.mem_of_getElem? (i := 993) (by decide +kernel)) rfl, px_in (List.mem_of_getElem? (i := 97) (by decide +kernel)) rfl, by decide +kernel, by decide +kernel, by decide +kernel⟩, px_in (List.mem_of_getElem? (i := 991) (by decide +kernel)) rfl, px_in (List.mem_of_getElem? (i := 992) (by decide +kernel)) rfl⟩
theorem plX11_image : plainFor mX11_image.1 = true := by decide +kernel
def mX11_back : px_M := (yX11_back, cX11_back, 1, (some .int))
theorem okX11_back : px_okV mX11_back 0 := ⟨⟨px_in (List.mem_of_getElem? (i := 998) (by decide +kernel)) rfl, px_in (List.mem_of_getElem? (i := 97) (by decide +kernel)) rfl, by decide +kernel, by decide +kernel, by decide +kernel⟩, px_in (List.mem_of_getElem? (i := 996) (by decide +kernel)) rfl, px_in (List.mem_of_getElem? (i := 997) (by decide +kernel)) rfl⟩
theorem plX11_back : plainFor mX11_back.1 = true := by decide +kernel
def mX11_undo : px_M := (yX11_undo, cX11_undo, 1, (some .int))
theorem okX11_undo : px_okV mX11_undo 0 := ⟨⟨px_in (List.mem_of_getElem? (i := 1002) (by decide +kernel)) rfl, px_in (List.mem_of_getElem? (i := 97) (by decide +kernel)) rfl, by decide +kernel, by decide +kernel, by decide +kernel⟩, px_in (List.mem_of_getElem? (i := 1000) (by decide +kernel)) rfl, px_in (List.mem_of_getElem? (i := 1001) (by decide +kernel)) rfl⟩
theorem plX11_undo : plainFor mX11_undo.1 = true := by decide +kernel
def mX11_redo : px_M := (yX11_redo, cX11_redo, 1, (some .int))
theorem okX11_redo : px_okV mX11_redo 0 := ⟨⟨px_in (List.mem_of_getElem? (i := 1011) (by decide +kernel)) rfl, px_in (List.mem_of_getElem? (i := 97) (by decide +kernel)) rfl, by decide +kernel, by decide +kernel, by decide +kernel⟩, px_in (List.mem_of_getElem? (i := 1009) (by decide +kernel)) rfl, px_in (List.mem_of_getElem? (i := 1010) (by decide +kernel)) rfl⟩
theorem plX11_redo : plainFor mX11_redo.1 = true := by decide +kernel
def mX11_body : px_M := (yX11_body, cX11_body, 2, (some .int))
theorem okX11_body : px_okV mX11_body 1 := ⟨⟨px_in (List.mem_of_getElem? (i := 1019) (by decide +kernel)) rfl, px_in (List.mem_of_getElem? (i := 97) (by decide +kernel)) rfl, by decide +kernel, by decide +kernel, by decide +kernel⟩, px_in (List.mem_of_getElem? (i := 1017) (by decide +kernel)) rfl, px_in (List.mem_of_getElem? (i := 1018) (by decide +kernel)) rfl⟩
theorem plX11_body : plainFor mX11_body.1 = true := by decide +kernel
def mX11_act : px_M := (yX11_act, cX11_act, 4, (some .int))
theorem okX11_act : px_okV mX11_act 3 := ⟨⟨px_in (List.mem_of_getElem? (i := 1027) (by decide +kernel)) rfl, px_in (List.mem_of_getElem? (i := 97) (by decide +kernel)) rfl, by decide +kernel, by decide +kernel, by decide +kernel⟩, px_in (List.mem_of_getElem? (i := 1025) (by decide +kernel)) rfl, px_in (List.mem_of_getElem? (i := 1026) (by decide +kernel)) rfl⟩
theorem plX11_act : plainFor mX11_act.1 = true := by decide +kernel
def mX11_trace : px_M := (yX11_trace, cX11_trace, 2, (some .int))
theorem okX11_trace : px_okV mX11_trace 1 := ⟨⟨px_in (List.mem_of_getElem? (i := 1058) (by decide +kernel)) rfl, px_in (List.mem_of_getElem? (i := 97) (by decide +kernel)) rfl, by decide +kernel, by decide +kernel, by decide +kernel⟩, px_in (List.mem_of_getElem? (i := 1056) (by decide +kernel)) rfl, px_in (List.mem_of_getElem? (i := 1057) (by decide +kernel)) rfl⟩
theorem plX11_trace : plainFor mX11_trace.1 = true := by decide +kernel
def mX11_keep : px_M := (yX11_keep, cX11_keep, 3, (some .int))
theorem okX11_keep : px_okV mX11_keep 2 := ⟨⟨px_in (List.mem_of_getElem? (i := 1067) (by decide +kernel)) rfl, px_in (List.mem_of_getElem? (i := 97) (by decide +kernel)) rfl, by decide +kernel, by decide +kernel, by decide +kernel⟩, px_in (List.mem_of_getElem? (i := 1065) (by decide +kernel)) rfl, px_in (List.mem_of_getElem? (i := 1066) (by decide +kernel)) rfl⟩
theorem plX11_keep : plainFor mX11_keep.1 = true := by decide +kernel
def mX11_row : px_M := (yX11_row, cX11_row, 4, (some .int))
theorem okX11_row : px_okV mX11_row 3 := ⟨⟨px_in (List.mem_of_getElem? (i := 1081) (by decide +kernel)) rfl, px_in (List.mem_of_getElem? (i := 97) (by decide +kernel)) rfl, by decide +kernel, by decide +kernel, by decide +kernel⟩, px_in (List.mem_of_getElem? (i := 1079) (by decide +kernel)) rfl, px_in (List.mem_of_getElem? (i := 1080) (by decide +kernel)) rfl⟩
theorem plX11_row : plainFor mX11_row.1 = true := by decide +kernel
def mX11_put : px_M := (yX11_put, cX11_put, 6, (some .int))
theorem okX11_put : px_okV mX11_put 3 := ⟨⟨px_in (List.mem_of_getElem? (i := 1089) (by decide +kernel)) rfl, px_in (List.mem_of_getElem? (i := 97) (by decide +kernel)) rfl, by decide +kernel, by decide +kernel, by decide +kernel⟩, px_in (List.mem_of_getElem? (i := 1087) (by decide +kernel)) rfl, px_in (List.mem_of_getElem? (i := 1088) (by decide +kernel)) rfl⟩
theorem plX11_put : plainFor mX11_put.1 = true := by decide +kernel
def mX11_element : px_M := (yX11_element, cX11_element, 3, (some .long))
theorem okX11_element : px_okV mX11_element 2 := ⟨⟨px_in (List.mem_of_getElem? (i := 1104) (by decide +kernel)) rfl, px_in (List.mem_of_getElem? (i := 97) (by decide +kernel)) rfl, by decide +kernel, by decide +kernel, by decide +kernel⟩, px_in (List.mem_of_getElem? (i := 1102) (by decide +kernel)) rfl, px_in (List.mem_of_getElem? (i := 1103) (by decide +kernel)) rfl⟩
theorem plX11_element : plainFor mX11_element.1 = true := by decide +kernel
def mX11_shift : px_M := (yX11_shift, cX11_shift, 7, (some .int))
theorem okX11_shift : px_okV mX11_shift 5 := ⟨⟨px_in (List.mem_of_getElem? (i := 1109) (by decide +kernel)) rfl, px_in (List.mem_of_getElem? (i := 97) (by decide +kernel)) rfl, by decide +kernel, by decide +kernel, by decide +kernel⟩, px_in (List.mem_of_getElem? (i := 1107) (by decide +kernel)) rfl, px_in (List.mem_of_getElem? (i := 1108) (by decide +kernel)) rfl⟩
theorem plX11_shift : plainFor mX11_shift.1 = true := by decide +kernel
def mX11_taken : px_M := (yX11_taken, cX11_taken, 4, (some .int))
theorem okX11_taken : px_okV mX11_taken 2 := ⟨⟨px_in (List.mem_of_getElem? (i := 1123) (by decide +kernel)) rfl, px_in (List.mem_of_getElem? (i := 97) (by decide +kernel)) rfl, by decide +kernel, by decide +kernel, by decide +kernel⟩, px_in (List.mem_of_getElem? (i := 1121) (by decide +kernel)) rfl, px_in (List.mem_of_getElem? (i := 1122) (by decide +kernel)) rfl⟩
theorem plX11_taken : plainFor mX11_taken.1 = true := by decide +kernel
def mX11_count : px_M := (yX11_count, cX11_count, 2, (some .int))
theorem okX11_count : px_okV mX11_count 1 := ⟨⟨px_in (List.mem_of_getElem? (i := 1135) (by decide +kernel)) rfl, px_in (List.mem_of_getElem? (i := 97) (by decide +kernel)) rfl, by decide +kernel, by decide +kernel, by decide +kernel⟩, px_in (List.mem_of_getElem? (i := 1133) (by decide +kernel)) rfl, px_in (List.mem_of_getElem? (i := 1134) (by decide +kernel)) rfl⟩
theorem plX11_count : plainFor mX11_count.1 = true := by decide +kernel
def mX11_isWithin : px_M := (yX11_isWithin, cX11_isWithin, 3, (some .boolean))
theorem okX11_isWithin : px_okS mX11_isWithin 3 := ⟨⟨px_in (List.mem_of_getElem? (i := 494) (by decide +kernel)) rfl, px_in (List.mem_of_getElem? (i := 97) (by decide +kernel)) rfl, by decide +kernel, by decide +kernel, by decide +kernel⟩, px_in (List.mem_of_getElem? (i := 493) (by decide +kernel)) rfl⟩
theorem plX11_isWithin : plainFor mX11_isWithin.1 = true := by decide +kernel
def mX11_placesApart : px_M := (yX11_placesApart, cX11_placesApart, 2, (some .int))
theorem okX11_placesApart : px_okS mX11_placesApart 2 := ⟨⟨px_in (List.mem_of_getElem? (i := 695) (by decide +kernel)) rfl, px_in (List.mem_of_getElem? (i := 97) (by decide +kernel)) rfl, by decide +kernel, by decide +kernel, by decide +kernel⟩, px_in (List.mem_of_getElem? (i := 694) (by decide +kernel)) rfl⟩
theorem plX11_placesApart : plainFor mX11_placesApart.1 = true := by decide +kernel
def mX12_init : px_M := (yX12_init, cX12_init, 1, none)
theorem okX12_init : px_okI mX12_init 0 := ⟨⟨px_in (List.mem_of_getElem? (i := 1140) (by decide +kernel)) rfl, px_in (List.mem_of_getElem? (i := 109) (by decide +kernel)) rfl, by decide +kernel, by decide +kernel, by decide +kernel⟩, px_in (List.mem_of_getElem? (i := 1139) (by decide +kernel)) rfl, rfl, rfl⟩
theorem plX12_init : plainFor mX12_init.1 = true := by decide +kernel
def mX12_in : px_M := (yX12_in, cX12_in, 3, (some .boolean))
theorem okX12_in : px_okS mX12_in 3 := ⟨⟨px_in (List.mem_of_getElem? (i := 1330) (by decide +kernel)) rfl, px_in (List.mem_of_getElem? (i := 109) (by decide +kernel)) rfl, by decide +kernel, by decide +kernel, by decide +kernel⟩, px_in (List.mem_of_getElem? (i := 1329) (by decide +kernel)) rfl⟩
theorem plX12_in : plainFor mX12_in.1 = true := by decide +kernel
def mX12_has : px_M := (yX12_has, cX12_has, 2, (some .boolean))
theorem okX12_has : px_okS mX12_has 2 := ⟨⟨px_in (List.mem_of_getElem? (i := 1515) (by decide +kernel)) rfl, px_in (List.mem_of_getElem? (i := 109) (by decide +kernel)) rfl, by decide +kernel, by decide +kernel, by decide +kernel⟩, px_in (List.mem_of_getElem? (i := 1514) (by decide +kernel)) rfl⟩
theorem plX12_has : plainFor mX12_has.1 = true := by decide +kernel
def mX12_bitsOf : px_M := (yX12_bitsOf, cX12_bitsOf, 3, (some .int))
theorem okX12_bitsOf : px_okS mX12_bitsOf 1 := ⟨⟨px_in (List.mem_of_getElem? (i := 1508) (by decide +kernel)) rfl, px_in (List.mem_of_getElem? (i := 109) (by decide +kernel)) rfl, by decide +kernel, by decide +kernel, by decide +kernel⟩, px_in (List.mem_of_getElem? (i := 1507) (by decide +kernel)) rfl⟩
theorem plX12_bitsOf : plainFor mX12_bitsOf.1 = true := by decide +kernel
def mX12_isOne : px_M := (yX12_isOne, cX12_isOne, 2, (some .boolean))
theorem okX12_isOne : px_okV mX12_isOne 1 := ⟨⟨px_in (List.mem_of_getElem? (i := 1338) (by decide +kernel)) rfl, px_in (List.mem_of_getElem? (i := 109) (by decide +kernel)) rfl, by decide +kernel, by decide +kernel, by decide +kernel⟩, px_in (List.mem_of_getElem? (i := 1337) (by decide +kernel)) rfl, px_in (List.mem_of_getElem? (i := 32) (by decide +kernel)) rfl⟩
theorem plX12_isOne : plainFor mX12_isOne.1 = true := by decide +kernel
def mX12_isJoy : px_M := (yX12_isJoy, cX12_isJoy, 2, (some .boolean))
theorem okX12_isJoy : px_okV mX12_isJoy 1 := ⟨⟨px_in (List.mem_of_getElem? (i := 1374) (by decide +kernel)) rfl, px_in (List.mem_of_getElem? (i := 109) (by decide +kernel)) rfl, by decide +kernel, by decide +kernel, by decide +kernel⟩, px_in (List.mem_of_getElem? (i := 1373) (by decide +kernel)) rfl, px_in (List.mem_of_getElem? (i := 36) (by decide +kernel)) rfl⟩
theorem plX12_isJoy : plainFor mX12_isJoy.1 = true := by decide +kernel
def mX12_isHouse : px_M := (yX12_isHouse, cX12_isHouse, 1, (some .boolean))
theorem okX12_isHouse : px_okS mX12_isHouse 1 := ⟨⟨px_in (List.mem_of_getElem? (i := 1327) (by decide +kernel)) rfl, px_in (List.mem_of_getElem? (i := 109) (by decide +kernel)) rfl, by decide +kernel, by decide +kernel, by decide +kernel⟩, px_in (List.mem_of_getElem? (i := 1326) (by decide +kernel)) rfl⟩
theorem plX12_isHouse : plainFor mX12_isHouse.1 = true := by decide +kernel
def mX12_isSide : px_M := (yX12_isSide, cX12_isSide, 1, (some .boolean))
theorem okX12_isSide : px_okS mX12_isSide 1 := ⟨⟨px_in (List.mem_of_getElem? (i := 1380) (by decide +kernel)) rfl, px_in (List.mem_of_getElem? (i := 109) (by decide +kernel)) rfl, by decide +kernel, by decide +kernel, by decide +kernel⟩, px_in (List.mem_of_getElem? (i := 1379) (by decide +kernel)) rfl⟩
theorem plX12_isSide : plainFor mX12_isSide.1 = true := by decide +kernel
def mX12_person : px_M := (yX12_person, cX12_person, 2, (some .int))
theorem okX12_person : px_okV mX12_person 1 := ⟨⟨px_in (List.mem_of_getElem? (i := 1324) (by decide +kernel)) rfl, px_in (List.mem_of_getElem? (i := 109) (by decide +kernel)) rfl, by decide +kernel, by decide +kernel, by decide +kernel⟩, px_in (List.mem_of_getElem? (i := 1322) (by decide +kernel)) rfl, px_in (List.mem_of_getElem? (i := 1323) (by decide +kernel)) rfl⟩
theorem plX12_person : plainFor mX12_person.1 = true := by decide +kernel
def mX12_addJoy : px_M := (yX12_addJoy, cX12_addJoy, 4, (some .int))
theorem okX12_addJoy : px_okV mX12_addJoy 3 := ⟨⟨px_in (List.mem_of_getElem? (i := 1342) (by decide +kernel)) rfl, px_in (List.mem_of_getElem? (i := 109) (by decide +kernel)) rfl, by decide +kernel, by decide +kernel, by decide +kernel⟩, px_in (List.mem_of_getElem? (i := 1341) (by decide +kernel)) rfl, px_in (List.mem_of_getElem? (i := 33) (by decide +kernel)) rfl⟩
theorem plX12_addJoy : plainFor mX12_addJoy.1 = true := by decide +kernel
def mX12_joy : px_M := (yX12_joy, cX12_joy, 3, (some .int))
theorem okX12_joy : px_okV mX12_joy 2 := ⟨⟨px_in (List.mem_of_getElem? (i := 1334) (by decide +kernel)) rfl, px_in (List.mem_of_getElem? (i := 109) (by decide +kernel)) rfl, by decide +kernel, by decide +kernel, by decide +kernel⟩, px_in (List.mem_of_getElem? (i := 1332) (by decide +kernel)) rfl, px_in (List.mem_of_getElem? (i := 1333) (by decide +kernel)) rfl⟩
theorem plX12_joy : plainFor mX12_joy.1 = true := by decide +kernel
def mX12_joys : px_M := (yX12_joys, cX12_joys, 8, (some .int))
theorem okX12_joys : px_okV mX12_joys 3 := ⟨⟨px_in (List.mem_of_getElem? (i := 1346) (by decide +kernel)) rfl, px_in (List.mem_of_getElem? (i := 109) (by decide +kernel)) rfl, by decide +kernel, by decide +kernel, by decide +kernel⟩, px_in (List.mem_of_getElem? (i := 1344) (by decide +kernel)) rfl, px_in (List.mem_of_getElem? (i := 1345) (by decide +kernel)) rfl⟩
theorem plX12_joys : plainFor mX12_joys.1 = true := by decide +kernel
def mX12_valueAt : px_M := (yX12_valueAt, cX12_valueAt, 3, (some .int))
theorem okX12_valueAt : px_okV mX12_valueAt 2 := ⟨⟨px_in (List.mem_of_getElem? (i := 1388) (by decide +kernel)) rfl, px_in (List.mem_of_getElem? (i := 109) (by decide +kernel)) rfl, by decide +kernel, by decide +kernel, by decide +kernel⟩, px_in (List.mem_of_getElem? (i := 1387) (by decide +kernel)) rfl, px_in (List.mem_of_getElem? (i := 38) (by decide +kernel)) rfl⟩
theorem plX12_valueAt : plainFor mX12_valueAt.1 = true := by decide +kernel
def mX12_lays : px_M := (yX12_lays, cX12_lays, 4, none)
theorem okX12_lays : px_okV mX12_lays 3 := ⟨⟨px_in (List.mem_of_getElem? (i := 1358) (by decide +kernel)) rfl, px_in (List.mem_of_getElem? (i := 109) (by decide +kernel)) rfl, by decide +kernel, by decide +kernel, by decide +kernel⟩, px_in (List.mem_of_getElem? (i := 1357) (by decide +kernel)) rfl, px_in (List.mem_of_getElem? (i := 34) (by decide +kernel)) rfl⟩
theorem plX12_lays : plainFor mX12_lays.1 = true := by decide +kernel
def mX12_changes : px_M := (yX12_changes, cX12_changes, 6, (some .int))
theorem okX12_changes : px_okV mX12_changes 3 := ⟨⟨px_in (List.mem_of_getElem? (i := 1384) (by decide +kernel)) rfl, px_in (List.mem_of_getElem? (i := 109) (by decide +kernel)) rfl, by decide +kernel, by decide +kernel, by decide +kernel⟩, px_in (List.mem_of_getElem? (i := 1383) (by decide +kernel)) rfl, px_in (List.mem_of_getElem? (i := 37) (by decide +kernel)) rfl⟩
theorem plX12_changes : plainFor mX12_changes.1 = true := by decide +kernel
def mX12_undo : px_M := (yX12_undo, cX12_undo, 1, (some .int))
theorem okX12_undo : px_okV mX12_undo 0 := ⟨⟨px_in (List.mem_of_getElem? (i := 1354) (by decide +kernel)) rfl, px_in (List.mem_of_getElem? (i := 109) (by decide +kernel)) rfl, by decide +kernel, by decide +kernel, by decide +kernel⟩, px_in (List.mem_of_getElem? (i := 1352) (by decide +kernel)) rfl, px_in (List.mem_of_getElem? (i := 1353) (by decide +kernel)) rfl⟩
theorem plX12_undo : plainFor mX12_undo.1 = true := by decide +kernel
def mX12_redo : px_M := (yX12_redo, cX12_redo, 1, (some .int))
theorem okX12_redo : px_okV mX12_redo 0 := ⟨⟨px_in (List.mem_of_getElem? (i := 1362) (by decide +kernel)) rfl, px_in (List.mem_of_getElem? (i := 109) (by decide +kernel)) rfl, by decide +kernel, by decide +kernel, by decide +kernel⟩, px_in (List.mem_of_getElem? (i := 1360) (by decide +kernel)) rfl, px_in (List.mem_of_getElem? (i := 1361) (by decide +kernel)) rfl⟩
theorem plX12_redo : plainFor mX12_redo.1 = true := by decide +kernel
def mX12_isPlace : px_M := (yX12_isPlace, cX12_isPlace, 3, (some .boolean))
theorem okX12_isPlace : px_okV mX12_isPlace 2 := ⟨⟨px_in (List.mem_of_getElem? (i := 1370) (by decide +kernel)) rfl, px_in (List.mem_of_getElem? (i := 109) (by decide +kernel)) rfl, by decide +kernel, by decide +kernel, by decide +kernel⟩, px_in (List.mem_of_getElem? (i := 1369) (by decide +kernel)) rfl, px_in (List.mem_of_getElem? (i := 35) (by decide +kernel)) rfl⟩
theorem plX12_isPlace : plainFor mX12_isPlace.1 = true := by decide +kernel
def mX12_mayHave : px_M := (yX12_mayHave, cX12_mayHave, 2, (some .boolean))
theorem okX12_mayHave : px_okS mX12_mayHave 2 := ⟨⟨px_in (List.mem_of_getElem? (i := 1377) (by decide +kernel)) rfl, px_in (List.mem_of_getElem? (i := 109) (by decide +kernel)) rfl, by decide +kernel, by decide +kernel, by decide +kernel⟩, px_in (List.mem_of_getElem? (i := 1376) (by decide +kernel)) rfl⟩
theorem plX12_mayHave : plainFor mX12_mayHave.1 = true := by decide +kernel
def mX12_mend : px_M := (yX12_mend, cX12_mend, 4, (some .int))
theorem okX12_mend : px_okV mX12_mend 3 := ⟨⟨px_in (List.mem_of_getElem? (i := 1366) (by decide +kernel)) rfl, px_in (List.mem_of_getElem? (i := 109) (by decide +kernel)) rfl, by decide +kernel, by decide +kernel, by decide +kernel⟩, px_in (List.mem_of_getElem? (i := 1364) (by decide +kernel)) rfl, px_in (List.mem_of_getElem? (i := 1365) (by decide +kernel)) rfl⟩
theorem plX12_mend : plainFor mX12_mend.1 = true := by decide +kernel
def mX12_of : px_M := (yX12_of, cX12_of, 3, (some .int))
theorem okX12_of : px_okV mX12_of 2 := ⟨⟨px_in (List.mem_of_getElem? (i := 1392) (by decide +kernel)) rfl, px_in (List.mem_of_getElem? (i := 109) (by decide +kernel)) rfl, by decide +kernel, by decide +kernel, by decide +kernel⟩, px_in (List.mem_of_getElem? (i := 1390) (by decide +kernel)) rfl, px_in (List.mem_of_getElem? (i := 1391) (by decide +kernel)) rfl⟩
theorem plX12_of : plainFor mX12_of.1 = true := by decide +kernel
def mX12_feed : px_M := (yX12_feed, cX12_feed, 2, (some .int))
theorem okX12_feed : px_okV mX12_feed 1 := ⟨⟨px_in (List.mem_of_getElem? (i := 1396) (by decide +kernel)) rfl, px_in (List.mem_of_getElem? (i := 109) (by decide +kernel)) rfl, by decide +kernel, by decide +kernel, by decide +kernel⟩, px_in (List.mem_of_getElem? (i := 1394) (by decide +kernel)) rfl, px_in (List.mem_of_getElem? (i := 1395) (by decide +kernel)) rfl⟩
theorem plX12_feed : plainFor mX12_feed.1 = true := by decide +kernel
def mX12_look : px_M := (yX12_look, cX12_look, 1, (some .int))
theorem okX12_look : px_okV mX12_look 0 := ⟨⟨px_in (List.mem_of_getElem? (i := 1436) (by decide +kernel)) rfl, px_in (List.mem_of_getElem? (i := 109) (by decide +kernel)) rfl, by decide +kernel, by decide +kernel, by decide +kernel⟩, px_in (List.mem_of_getElem? (i := 1435) (by decide +kernel)) rfl, px_in (List.mem_of_getElem? (i := 47) (by decide +kernel)) rfl⟩
theorem plX12_look : plainFor mX12_look.1 = true := by decide +kernel
def mX12_wrong : px_M := (yX12_wrong, cX12_wrong, 1, none)
theorem okX12_wrong : px_okV mX12_wrong 0 := ⟨⟨px_in (List.mem_of_getElem? (i := 1451) (by decide +kernel)) rfl, px_in (List.mem_of_getElem? (i := 109) (by decide +kernel)) rfl, by decide +kernel, by decide +kernel, by decide +kernel⟩, px_in (List.mem_of_getElem? (i := 1450) (by decide +kernel)) rfl, px_in (List.mem_of_getElem? (i := 50) (by decide +kernel)) rfl⟩
theorem plX12_wrong : plainFor mX12_wrong.1 = true := by decide +kernel
def mX12_addStep : px_M := (yX12_addStep, cX12_addStep, 3, none)
theorem okX12_addStep : px_okV mX12_addStep 2 := ⟨⟨px_in (List.mem_of_getElem? (i := 1443) (by decide +kernel)) rfl, px_in (List.mem_of_getElem? (i := 109) (by decide +kernel)) rfl, by decide +kernel, by decide +kernel, by decide +kernel⟩, px_in (List.mem_of_getElem? (i := 1442) (by decide +kernel)) rfl, px_in (List.mem_of_getElem? (i := 48) (by decide +kernel)) rfl⟩
theorem plX12_addStep : plainFor mX12_addStep.1 = true := by decide +kernel
def mX12_nameOf : px_M := (yX12_nameOf, cX12_nameOf, 1, (some .int))
theorem okX12_nameOf : px_okS mX12_nameOf 1 := ⟨⟨px_in (List.mem_of_getElem? (i := 1439) (by decide +kernel)) rfl, px_in (List.mem_of_getElem? (i := 109) (by decide +kernel)) rfl, by decide +kernel, by decide +kernel, by decide +kernel⟩, px_in (List.mem_of_getElem? (i := 1438) (by decide +kernel)) rfl⟩
theorem plX12_nameOf : plainFor mX12_nameOf.1 = true := by decide +kernel
def mX12_opens : px_M := (yX12_opens, cX12_opens, 1, (some .boolean))
theorem okX12_opens : px_okV mX12_opens 0 := ⟨⟨px_in (List.mem_of_getElem? (i := 1447) (by decide +kernel)) rfl, px_in (List.mem_of_getElem? (i := 109) (by decide +kernel)) rfl, by decide +kernel, by decide +kernel, by decide +kernel⟩, px_in (List.mem_of_getElem? (i := 1446) (by decide +kernel)) rfl, px_in (List.mem_of_getElem? (i := 49) (by decide +kernel)) rfl⟩
theorem plX12_opens : plainFor mX12_opens.1 = true := by decide +kernel
def mX12_figure : px_M := (yX12_figure, cX12_figure, 3, none)
theorem okX12_figure : px_okV mX12_figure 0 := ⟨⟨px_in (List.mem_of_getElem? (i := 1455) (by decide +kernel)) rfl, px_in (List.mem_of_getElem? (i := 109) (by decide +kernel)) rfl, by decide +kernel, by decide +kernel, by decide +kernel⟩, px_in (List.mem_of_getElem? (i := 1454) (by decide +kernel)) rfl, px_in (List.mem_of_getElem? (i := 51) (by decide +kernel)) rfl⟩
theorem plX12_figure : plainFor mX12_figure.1 = true := by decide +kernel
def mX12_operand : px_M := (yX12_operand, cX12_operand, 2, none)
theorem okX12_operand : px_okV mX12_operand 0 := ⟨⟨px_in (List.mem_of_getElem? (i := 1432) (by decide +kernel)) rfl, px_in (List.mem_of_getElem? (i := 109) (by decide +kernel)) rfl, by decide +kernel, by decide +kernel, by decide +kernel⟩, px_in (List.mem_of_getElem? (i := 1431) (by decide +kernel)) rfl, px_in (List.mem_of_getElem? (i := 46) (by decide +kernel)) rfl⟩
theorem plX12_operand : plainFor mX12_operand.1 = true := by decide +kernel
def mX12_product : px_M := (yX12_product, cX12_product, 2, none)
theorem okX12_product : px_okV mX12_product 0 := ⟨⟨px_in (List.mem_of_getElem? (i := 1428) (by decide +kernel)) rfl, px_in (List.mem_of_getElem? (i := 109) (by decide +kernel)) rfl, by decide +kernel, by decide +kernel, by decide +kernel⟩, px_in (List.mem_of_getElem? (i := 1427) (by decide +kernel)) rfl, px_in (List.mem_of_getElem? (i := 45) (by decide +kernel)) rfl⟩
theorem plX12_product : plainFor mX12_product.1 = true := by decide +kernel
def mX12_sum : px_M := (yX12_sum, cX12_sum, 2, none)
theorem okX12_sum : px_okV mX12_sum 0 := ⟨⟨px_in (List.mem_of_getElem? (i := 1424) (by decide +kernel)) rfl, px_in (List.mem_of_getElem? (i := 109) (by decide +kernel)) rfl, by decide +kernel, by decide +kernel, by decide +kernel⟩, px_in (List.mem_of_getElem? (i := 1423) (by decide +kernel)) rfl, px_in (List.mem_of_getElem? (i := 44) (by decide +kernel)) rfl⟩
theorem plX12_sum : plainFor mX12_sum.1 = true := by decide +kernel
def mX12_compared : px_M := (yX12_compared, cX12_compared, 2, none)
theorem okX12_compared : px_okV mX12_compared 0 := ⟨⟨px_in (List.mem_of_getElem? (i := 1420) (by decide +kernel)) rfl, px_in (List.mem_of_getElem? (i := 109) (by decide +kernel)) rfl, by decide +kernel, by decide +kernel, by decide +kernel⟩, px_in (List.mem_of_getElem? (i := 1419) (by decide +kernel)) rfl, px_in (List.mem_of_getElem? (i := 43) (by decide +kernel)) rfl⟩
theorem plX12_compared : plainFor mX12_compared.1 = true := by decide +kernel
def mX12_both : px_M := (yX12_both, cX12_both, 1, none)
theorem okX12_both : px_okV mX12_both 0 := ⟨⟨px_in (List.mem_of_getElem? (i := 1416) (by decide +kernel)) rfl, px_in (List.mem_of_getElem? (i := 109) (by decide +kernel)) rfl, by decide +kernel, by decide +kernel, by decide +kernel⟩, px_in (List.mem_of_getElem? (i := 1415) (by decide +kernel)) rfl, px_in (List.mem_of_getElem? (i := 42) (by decide +kernel)) rfl⟩
theorem plX12_both : plainFor mX12_both.1 = true := by decide +kernel
def mX12_either : px_M := (yX12_either, cX12_either, 1, none)
theorem okX12_either : px_okV mX12_either 0 := ⟨⟨px_in (List.mem_of_getElem? (i := 1412) (by decide +kernel)) rfl, px_in (List.mem_of_getElem? (i := 109) (by decide +kernel)) rfl, by decide +kernel, by decide +kernel, by decide +kernel⟩, px_in (List.mem_of_getElem? (i := 1411) (by decide +kernel)) rfl, px_in (List.mem_of_getElem? (i := 41) (by decide +kernel)) rfl⟩
theorem plX12_either : plainFor mX12_either.1 = true := by decide +kernel
def mX12_line : px_M := (yX12_line, cX12_line, 2, none)
theorem okX12_line : px_okV mX12_line 0 := ⟨⟨px_in (List.mem_of_getElem? (i := 1408) (by decide +kernel)) rfl, px_in (List.mem_of_getElem? (i := 109) (by decide +kernel)) rfl, by decide +kernel, by decide +kernel, by decide +kernel⟩, px_in (List.mem_of_getElem? (i := 1407) (by decide +kernel)) rfl, px_in (List.mem_of_getElem? (i := 40) (by decide +kernel)) rfl⟩
theorem plX12_line : plainFor mX12_line.1 = true := by decide +kernel
def mX12_readText : px_M := (yX12_readText, cX12_readText, 3, (some .int))
theorem okX12_readText : px_okV mX12_readText 1 := ⟨⟨px_in (List.mem_of_getElem? (i := 1404) (by decide +kernel)) rfl, px_in (List.mem_of_getElem? (i := 109) (by decide +kernel)) rfl, by decide +kernel, by decide +kernel, by decide +kernel⟩, px_in (List.mem_of_getElem? (i := 1403) (by decide +kernel)) rfl, px_in (List.mem_of_getElem? (i := 39) (by decide +kernel)) rfl⟩
theorem plX12_readText : plainFor mX12_readText.1 = true := by decide +kernel
def mX12_twoOf : px_M := (yX12_twoOf, cX12_twoOf, 3, (some .int))
theorem okX12_twoOf : px_okS mX12_twoOf 3 := ⟨⟨px_in (List.mem_of_getElem? (i := 1493) (by decide +kernel)) rfl, px_in (List.mem_of_getElem? (i := 109) (by decide +kernel)) rfl, by decide +kernel, by decide +kernel, by decide +kernel⟩, px_in (List.mem_of_getElem? (i := 1492) (by decide +kernel)) rfl⟩
theorem plX12_twoOf : plainFor mX12_twoOf.1 = true := by decide +kernel
def mX12_worked : px_M := (yX12_worked, cX12_worked, 7, (some .int))
theorem okX12_worked : px_okV mX12_worked 3 := ⟨⟨px_in (List.mem_of_getElem? (i := 1490) (by decide +kernel)) rfl, px_in (List.mem_of_getElem? (i := 109) (by decide +kernel)) rfl, by decide +kernel, by decide +kernel, by decide +kernel⟩, px_in (List.mem_of_getElem? (i := 1489) (by decide +kernel)) rfl, px_in (List.mem_of_getElem? (i := 58) (by decide +kernel)) rfl⟩
theorem plX12_worked : plainFor mX12_worked.1 = true := by decide +kernel
def mX12_gives : px_M := (yX12_gives, cX12_gives, 4, (some .int))
theorem okX12_gives : px_okV mX12_gives 1 := ⟨⟨px_in (List.mem_of_getElem? (i := 1486) (by decide +kernel)) rfl, px_in (List.mem_of_getElem? (i := 109) (by decide +kernel)) rfl, by decide +kernel, by decide +kernel, by decide +kernel⟩, px_in (List.mem_of_getElem? (i := 1485) (by decide +kernel)) rfl, px_in (List.mem_of_getElem? (i := 57) (by decide +kernel)) rfl⟩
theorem plX12_gives : plainFor mX12_gives.1 = true := by decide +kernel
def mX12_law : px_M := (yX12_law, cX12_law, 2, (some .int))
theorem okX12_law : px_okV mX12_law 0 := ⟨⟨px_in (List.mem_of_getElem? (i := 1400) (by decide +kernel)) rfl, px_in (List.mem_of_getElem? (i := 109) (by decide +kernel)) rfl, by decide +kernel, by decide +kernel, by decide +kernel⟩, px_in (List.mem_of_getElem? (i := 1398) (by decide +kernel)) rfl, px_in (List.mem_of_getElem? (i := 1399) (by decide +kernel)) rfl⟩
theorem plX12_law : plainFor mX12_law.1 = true := by decide +kernel
def mX12_layNow : px_M := (yX12_layNow, cX12_layNow, 2, none)
theorem okX12_layNow : px_okV mX12_layNow 0 := ⟨⟨px_in (List.mem_of_getElem? (i := 1463) (by decide +kernel)) rfl, px_in (List.mem_of_getElem? (i := 109) (by decide +kernel)) rfl, by decide +kernel, by decide +kernel, by decide +kernel⟩, px_in (List.mem_of_getElem? (i := 1462) (by decide +kernel)) rfl, px_in (List.mem_of_getElem? (i := 52) (by decide +kernel)) rfl⟩
theorem plX12_layNow : plainFor mX12_layNow.1 = true := by decide +kernel
def mX12_houseOfJoy : px_M := (yX12_houseOfJoy, cX12_houseOfJoy, 2, (some .int))
theorem okX12_houseOfJoy : px_okV mX12_houseOfJoy 1 := ⟨⟨px_in (List.mem_of_getElem? (i := 1467) (by decide +kernel)) rfl, px_in (List.mem_of_getElem? (i := 109) (by decide +kernel)) rfl, by decide +kernel, by decide +kernel, by decide +kernel⟩, px_in (List.mem_of_getElem? (i := 1466) (by decide +kernel)) rfl, px_in (List.mem_of_getElem? (i := 53) (by decide +kernel)) rfl⟩
theorem plX12_houseOfJoy : plainFor mX12_houseOfJoy.1 = true := by decide +kernel
def mX12_waits : px_M := (yX12_waits, cX12_waits, 2, (some .boolean))
theorem okX12_waits : px_okV mX12_waits 1 := ⟨⟨px_in (List.mem_of_getElem? (i := 1547) (by decide +kernel)) rfl, px_in (List.mem_of_getElem? (i := 109) (by decide +kernel)) rfl, by decide +kernel, by decide +kernel, by decide +kernel⟩, px_in (List.mem_of_getElem? (i := 1546) (by decide +kernel)) rfl, px_in (List.mem_of_getElem? (i := 67) (by decide +kernel)) rfl⟩
theorem plX12_waits : plainFor mX12_waits.1 = true := by decide +kernel
def mX12_runs : px_M := (yX12_runs, cX12_runs, 2, (some .boolean))
theorem okX12_runs : px_okV mX12_runs 1 := ⟨⟨px_in (List.mem_of_getElem? (i := 1482) (by decide +kernel)) rfl, px_in (List.mem_of_getElem? (i := 109) (by decide +kernel)) rfl, by decide +kernel, by decide +kernel, by decide +kernel⟩, px_in (List.mem_of_getElem? (i := 1481) (by decide +kernel)) rfl, px_in (List.mem_of_getElem? (i := 56) (by decide +kernel)) rfl⟩
theorem plX12_runs : plainFor mX12_runs.1 = true := by decide +kernel
def mX12_isHad : px_M := (yX12_isHad, cX12_isHad, 2, (some .boolean))
theorem okX12_isHad : px_okV mX12_isHad 1 := ⟨⟨px_in (List.mem_of_getElem? (i := 1559) (by decide +kernel)) rfl, px_in (List.mem_of_getElem? (i := 109) (by decide +kernel)) rfl, by decide +kernel, by decide +kernel, by decide +kernel⟩, px_in (List.mem_of_getElem? (i := 1558) (by decide +kernel)) rfl, px_in (List.mem_of_getElem? (i := 70) (by decide +kernel)) rfl⟩
theorem plX12_isHad : plainFor mX12_isHad.1 = true := by decide +kernel
def mX12_onGladSide : px_M := (yX12_onGladSide, cX12_onGladSide, 2, (some .boolean))
theorem okX12_onGladSide : px_okV mX12_onGladSide 1 := ⟨⟨px_in (List.mem_of_getElem? (i := 1543) (by decide +kernel)) rfl, px_in (List.mem_of_getElem? (i := 109) (by decide +kernel)) rfl, by decide +kernel, by decide +kernel, by decide +kernel⟩, px_in (List.mem_of_getElem? (i := 1542) (by decide +kernel)) rfl, px_in (List.mem_of_getElem? (i := 66) (by decide +kernel)) rfl⟩
theorem plX12_onGladSide : plainFor mX12_onGladSide.1 = true := by decide +kernel
def mX12_moreLeft : px_M := (yX12_moreLeft, cX12_moreLeft, 3, (some .int))
theorem okX12_moreLeft : px_okV mX12_moreLeft 0 := ⟨⟨px_in (List.mem_of_getElem? (i := 1535) (by decide +kernel)) rfl, px_in (List.mem_of_getElem? (i := 109) (by decide +kernel)) rfl, by decide +kernel, by decide +kernel, by decide +kernel⟩, px_in (List.mem_of_getElem? (i := 1534) (by decide +kernel)) rfl, px_in (List.mem_of_getElem? (i := 64) (by decide +kernel)) rfl⟩
theorem plX12_moreLeft : plainFor mX12_moreLeft.1 = true := by decide +kernel
def mX12_vote : px_M := (yX12_vote, cX12_vote, 3, none)
theorem okX12_vote : px_okV mX12_vote 0 := ⟨⟨px_in (List.mem_of_getElem? (i := 1531) (by decide +kernel)) rfl, px_in (List.mem_of_getElem? (i := 109) (by decide +kernel)) rfl, by decide +kernel, by decide +kernel, by decide +kernel⟩, px_in (List.mem_of_getElem? (i := 1530) (by decide +kernel)) rfl, px_in (List.mem_of_getElem? (i := 63) (by decide +kernel)) rfl⟩
theorem plX12_vote : plainFor mX12_vote.1 = true := by decide +kernel
def mX12_goJoy : px_M := (yX12_goJoy, cX12_goJoy, 3, none)
theorem okX12_goJoy : px_okV mX12_goJoy 1 := ⟨⟨px_in (List.mem_of_getElem? (i := 1539) (by decide +kernel)) rfl, px_in (List.mem_of_getElem? (i := 109) (by decide +kernel)) rfl, by decide +kernel, by decide +kernel, by decide +kernel⟩, px_in (List.mem_of_getElem? (i := 1538) (by decide +kernel)) rfl, px_in (List.mem_of_getElem? (i := 65) (by decide +kernel)) rfl⟩
theorem plX12_goJoy : plainFor mX12_goJoy.1 = true := by decide +kernel
def mX12_goDay : px_M := (yX12_goDay, cX12_goDay, 2, none)
theorem okX12_goDay : px_okV mX12_goDay 0 := ⟨⟨px_in (List.mem_of_getElem? (i := 1527) (by decide +kernel)) rfl, px_in (List.mem_of_getElem? (i := 109) (by decide +kernel)) rfl, by decide +kernel, by decide +kernel, by decide +kernel⟩, px_in (List.mem_of_getElem? (i := 1526) (by decide +kernel)) rfl, px_in (List.mem_of_getElem? (i := 62) (by decide +kernel)) rfl⟩
theorem plX12_goDay : plainFor mX12_goDay.1 = true := by decide +kernel
def mX12_joysBy : px_M := (yX12_joysBy, cX12_joysBy, 4, (some .int))
theorem okX12_joysBy : px_okV mX12_joysBy 1 := ⟨⟨px_in (List.mem_of_getElem? (i := 1555) (by decide +kernel)) rfl, px_in (List.mem_of_getElem? (i := 109) (by decide +kernel)) rfl, by decide +kernel, by decide +kernel, by decide +kernel⟩, px_in (List.mem_of_getElem? (i := 1554) (by decide +kernel)) rfl, px_in (List.mem_of_getElem? (i := 69) (by decide +kernel)) rfl⟩
theorem plX12_joysBy : plainFor mX12_joysBy.1 = true := by decide +kernel
def mX12_gladPeople : px_M := (yX12_gladPeople, cX12_gladPeople, 3, (some .int))
theorem okX12_gladPeople : px_okV mX12_gladPeople 0 := ⟨⟨px_in (List.mem_of_getElem? (i := 1551) (by decide +kernel)) rfl, px_in (List.mem_of_getElem? (i := 109) (by decide +kernel)) rfl, by decide +kernel, by decide +kernel, by decide +kernel⟩, px_in (List.mem_of_getElem? (i := 1550) (by decide +kernel)) rfl, px_in (List.mem_of_getElem? (i := 68) (by decide +kernel)) rfl⟩
theorem plX12_gladPeople : plainFor mX12_gladPeople.1 = true := by decide +kernel
def mX12_worthsOf : px_M := (yX12_worthsOf, cX12_worthsOf, 4, (some .int))
theorem okX12_worthsOf : px_okV mX12_worthsOf 1 := ⟨⟨px_in (List.mem_of_getElem? (i := 1563) (by decide +kernel)) rfl, px_in (List.mem_of_getElem? (i := 109) (by decide +kernel)) rfl, by decide +kernel, by decide +kernel, by decide +kernel⟩, px_in (List.mem_of_getElem? (i := 1562) (by decide +kernel)) rfl, px_in (List.mem_of_getElem? (i := 71) (by decide +kernel)) rfl⟩
theorem plX12_worthsOf : plainFor mX12_worthsOf.1 = true := by decide +kernel
def mX12_othersRun : px_M := (yX12_othersRun, cX12_othersRun, 4, (some .int))
theorem okX12_othersRun : px_okV mX12_othersRun 1 := ⟨⟨px_in (List.mem_of_getElem? (i := 1478) (by decide +kernel)) rfl, px_in (List.mem_of_getElem? (i := 109) (by decide +kernel)) rfl, by decide +kernel, by decide +kernel, by decide +kernel⟩, px_in (List.mem_of_getElem? (i := 1477) (by decide +kernel)) rfl, px_in (List.mem_of_getElem? (i := 55) (by decide +kernel)) rfl⟩
theorem plX12_othersRun : plainFor mX12_othersRun.1 = true := by decide +kernel
def mX12_apartBy : px_M := (yX12_apartBy, cX12_apartBy, 2, (some .int))
theorem okX12_apartBy : px_okS mX12_apartBy 2 := ⟨⟨px_in (List.mem_of_getElem? (i := 1474) (by decide +kernel)) rfl, px_in (List.mem_of_getElem? (i := 109) (by decide +kernel)) rfl, by decide +kernel, by decide +kernel, by decide +kernel⟩, px_in (List.mem_of_getElem? (i := 1473) (by decide +kernel)) rfl⟩
theorem plX12_apartBy : plainFor mX12_apartBy.1 = true := by decide +kernel
def mX12_overBy : px_M := (yX12_overBy, cX12_overBy, 5, (some .int))
theorem okX12_overBy : px_okV mX12_overBy 2 := ⟨⟨px_in (List.mem_of_getElem? (i := 1471) (by decide +kernel)) rfl, px_in (List.mem_of_getElem? (i := 109) (by decide +kernel)) rfl, by decide +kernel, by decide +kernel, by decide +kernel⟩, px_in (List.mem_of_getElem? (i := 1470) (by decide +kernel)) rfl, px_in (List.mem_of_getElem? (i := 54) (by decide +kernel)) rfl⟩
theorem plX12_overBy : plainFor mX12_overBy.1 = true := by decide +kernel
def mX12_smell : px_M := (yX12_smell, cX12_smell, 3, (some .int))
theorem okX12_smell : px_okV mX12_smell 2 := ⟨⟨px_in (List.mem_of_getElem? (i := 1459) (by decide +kernel)) rfl, px_in (List.mem_of_getElem? (i := 109) (by decide +kernel)) rfl, by decide +kernel, by decide +kernel, by decide +kernel⟩, px_in (List.mem_of_getElem? (i := 1457) (by decide +kernel)) rfl, px_in (List.mem_of_getElem? (i := 1458) (by decide +kernel)) rfl⟩
theorem plX12_smell : plainFor mX12_smell.1 = true := by decide +kernel
def mX12_smeltBy : px_M := (yX12_smeltBy, cX12_smeltBy, 4, (some .int))
theorem okX12_smeltBy : px_okV mX12_smeltBy 1 := ⟨⟨px_in (List.mem_of_getElem? (i := 1501) (by decide +kernel)) rfl, px_in (List.mem_of_getElem? (i := 109) (by decide +kernel)) rfl, by decide +kernel, by decide +kernel, by decide +kernel⟩, px_in (List.mem_of_getElem? (i := 1500) (by decide +kernel)) rfl, px_in (List.mem_of_getElem? (i := 59) (by decide +kernel)) rfl⟩
theorem plX12_smeltBy : plainFor mX12_smeltBy.1 = true := by decide +kernel
def mX12_smelt : px_M := (yX12_smelt, cX12_smelt, 2, (some .int))
theorem okX12_smelt : px_okV mX12_smelt 1 := ⟨⟨px_in (List.mem_of_getElem? (i := 1497) (by decide +kernel)) rfl, px_in (List.mem_of_getElem? (i := 109) (by decide +kernel)) rfl, by decide +kernel, by decide +kernel, by decide +kernel⟩, px_in (List.mem_of_getElem? (i := 1495) (by decide +kernel)) rfl, px_in (List.mem_of_getElem? (i := 1496) (by decide +kernel)) rfl⟩
theorem plX12_smelt : plainFor mX12_smelt.1 = true := by decide +kernel
def mX12_noneSmelt : px_M := (yX12_noneSmelt, cX12_noneSmelt, 3, (some .boolean))
theorem okX12_noneSmelt : px_okV mX12_noneSmelt 1 := ⟨⟨px_in (List.mem_of_getElem? (i := 1512) (by decide +kernel)) rfl, px_in (List.mem_of_getElem? (i := 109) (by decide +kernel)) rfl, by decide +kernel, by decide +kernel, by decide +kernel⟩, px_in (List.mem_of_getElem? (i := 1511) (by decide +kernel)) rfl, px_in (List.mem_of_getElem? (i := 60) (by decide +kernel)) rfl⟩
theorem plX12_noneSmelt : plainFor mX12_noneSmelt.1 = true := by decide +kernel
def mX12_shut : px_M := (yX12_shut, cX12_shut, 4, (some .int))
theorem okX12_shut : px_okV mX12_shut 1 := ⟨⟨px_in (List.mem_of_getElem? (i := 1505) (by decide +kernel)) rfl, px_in (List.mem_of_getElem? (i := 109) (by decide +kernel)) rfl, by decide +kernel, by decide +kernel, by decide +kernel⟩, px_in (List.mem_of_getElem? (i := 1503) (by decide +kernel)) rfl, px_in (List.mem_of_getElem? (i := 1504) (by decide +kernel)) rfl⟩
theorem plX12_shut : plainFor mX12_shut.1 = true := by decide +kernel
def mX12_goDays : px_M := (yX12_goDays, cX12_goDays, 3, none)
theorem okX12_goDays : px_okV mX12_goDays 1 := ⟨⟨px_in (List.mem_of_getElem? (i := 1523) (by decide +kernel)) rfl, px_in (List.mem_of_getElem? (i := 109) (by decide +kernel)) rfl, by decide +kernel, by decide +kernel, by decide +kernel⟩, px_in (List.mem_of_getElem? (i := 1522) (by decide +kernel)) rfl, px_in (List.mem_of_getElem? (i := 61) (by decide +kernel)) rfl⟩
theorem plX12_goDays : plainFor mX12_goDays.1 = true := by decide +kernel
def mX12_lane : px_M := (yX12_lane, cX12_lane, 3, (some .int))
theorem okX12_lane : px_okV mX12_lane 2 := ⟨⟨px_in (List.mem_of_getElem? (i := 1519) (by decide +kernel)) rfl, px_in (List.mem_of_getElem? (i := 109) (by decide +kernel)) rfl, by decide +kernel, by decide +kernel, by decide +kernel⟩, px_in (List.mem_of_getElem? (i := 1517) (by decide +kernel)) rfl, px_in (List.mem_of_getElem? (i := 1518) (by decide +kernel)) rfl⟩
theorem plX12_lane : plainFor mX12_lane.1 = true := by decide +kernel
def mX12_when : px_M := (yX12_when, cX12_when, 4, (some .int))
theorem okX12_when : px_okV mX12_when 2 := ⟨⟨px_in (List.mem_of_getElem? (i := 1567) (by decide +kernel)) rfl, px_in (List.mem_of_getElem? (i := 109) (by decide +kernel)) rfl, by decide +kernel, by decide +kernel, by decide +kernel⟩, px_in (List.mem_of_getElem? (i := 1565) (by decide +kernel)) rfl, px_in (List.mem_of_getElem? (i := 1566) (by decide +kernel)) rfl⟩
theorem plX12_when : plainFor mX12_when.1 = true := by decide +kernel
def mX12_hadBehind : px_M := (yX12_hadBehind, cX12_hadBehind, 2, (some .int))
theorem okX12_hadBehind : px_okV mX12_hadBehind 1 := ⟨⟨px_in (List.mem_of_getElem? (i := 1575) (by decide +kernel)) rfl, px_in (List.mem_of_getElem? (i := 109) (by decide +kernel)) rfl, by decide +kernel, by decide +kernel, by decide +kernel⟩, px_in (List.mem_of_getElem? (i := 1574) (by decide +kernel)) rfl, px_in (List.mem_of_getElem? (i := 72) (by decide +kernel)) rfl⟩
theorem plX12_hadBehind : plainFor mX12_hadBehind.1 = true := by decide +kernel
def mX12_move : px_M := (yX12_move, cX12_move, 8, (some .int))
theorem okX12_move : px_okV mX12_move 2 := ⟨⟨px_in (List.mem_of_getElem? (i := 1571) (by decide +kernel)) rfl, px_in (List.mem_of_getElem? (i := 109) (by decide +kernel)) rfl, by decide +kernel, by decide +kernel, by decide +kernel⟩, px_in (List.mem_of_getElem? (i := 1569) (by decide +kernel)) rfl, px_in (List.mem_of_getElem? (i := 1570) (by decide +kernel)) rfl⟩
theorem plX12_move : plainFor mX12_move.1 = true := by decide +kernel
def mX12_over : px_M := (yX12_over, cX12_over, 4, (some .int))
theorem okX12_over : px_okV mX12_over 1 := ⟨⟨px_in (List.mem_of_getElem? (i := 1579) (by decide +kernel)) rfl, px_in (List.mem_of_getElem? (i := 109) (by decide +kernel)) rfl, by decide +kernel, by decide +kernel, by decide +kernel⟩, px_in (List.mem_of_getElem? (i := 1577) (by decide +kernel)) rfl, px_in (List.mem_of_getElem? (i := 1578) (by decide +kernel)) rfl⟩
theorem plX12_over : plainFor mX12_over.1 = true := by decide +kernel
def mX12_date : px_M := (yX12_date, cX12_date, 9, (some .int))
theorem okX12_date : px_okV mX12_date 3 := ⟨⟨px_in (List.mem_of_getElem? (i := 1583) (by decide +kernel)) rfl, px_in (List.mem_of_getElem? (i := 109) (by decide +kernel)) rfl, by decide +kernel, by decide +kernel, by decide +kernel⟩, px_in (List.mem_of_getElem? (i := 1581) (by decide +kernel)) rfl, px_in (List.mem_of_getElem? (i := 1582) (by decide +kernel)) rfl⟩
theorem plX12_date : plainFor mX12_date.1 = true := by decide +kernel
def mX12_rowFault : px_M := (yX12_rowFault, cX12_rowFault, 2, (some .int))
theorem okX12_rowFault : px_okV mX12_rowFault 1 := ⟨⟨px_in (List.mem_of_getElem? (i := 1591) (by decide +kernel)) rfl, px_in (List.mem_of_getElem? (i := 109) (by decide +kernel)) rfl, by decide +kernel, by decide +kernel, by decide +kernel⟩, px_in (List.mem_of_getElem? (i := 1590) (by decide +kernel)) rfl, px_in (List.mem_of_getElem? (i := 73) (by decide +kernel)) rfl⟩
theorem plX12_rowFault : plainFor mX12_rowFault.1 = true := by decide +kernel
def mX12_at : px_M := (yX12_at, cX12_at, 3, (some .int))
theorem okX12_at : px_okV mX12_at 2 := ⟨⟨px_in (List.mem_of_getElem? (i := 1599) (by decide +kernel)) rfl, px_in (List.mem_of_getElem? (i := 109) (by decide +kernel)) rfl, by decide +kernel, by decide +kernel, by decide +kernel⟩, px_in (List.mem_of_getElem? (i := 1598) (by decide +kernel)) rfl, px_in (List.mem_of_getElem? (i := 75) (by decide +kernel)) rfl⟩
theorem plX12_at : plainFor mX12_at.1 = true := by decide +kernel
def mX12_wrongDay : px_M := (yX12_wrongDay, cX12_wrongDay, 5, (some .int))
theorem okX12_wrongDay : px_okV mX12_wrongDay 2 := ⟨⟨px_in (List.mem_of_getElem? (i := 1595) (by decide +kernel)) rfl, px_in (List.mem_of_getElem? (i := 109) (by decide +kernel)) rfl, by decide +kernel, by decide +kernel, by decide +kernel⟩, px_in (List.mem_of_getElem? (i := 1594) (by decide +kernel)) rfl, px_in (List.mem_of_getElem? (i := 74) (by decide +kernel)) rfl⟩
theorem plX12_wrongDay : plainFor mX12_wrongDay.1 = true := by decide +kernel
def mX12_judge : px_M := (yX12_judge, cX12_judge, 3, (some .int))
theorem okX12_judge : px_okV mX12_judge 2 := ⟨⟨px_in (List.mem_of_getElem? (i := 1587) (by decide +kernel)) rfl, px_in (List.mem_of_getElem? (i := 109) (by decide +kernel)) rfl, by decide +kernel, by decide +kernel, by decide +kernel⟩, px_in (List.mem_of_getElem? (i := 1585) (by decide +kernel)) rfl, px_in (List.mem_of_getElem? (i := 1586) (by decide +kernel)) rfl⟩
theorem plX12_judge : plainFor mX12_judge.1 = true := by decide +kernel
def mX12_dues : px_M := (yX12_dues, cX12_dues, 9, (some .int))
theorem okX12_dues : px_okV mX12_dues 4 := ⟨⟨px_in (List.mem_of_getElem? (i := 1607) (by decide +kernel)) rfl, px_in (List.mem_of_getElem? (i := 109) (by decide +kernel)) rfl, by decide +kernel, by decide +kernel, by decide +kernel⟩, px_in (List.mem_of_getElem? (i := 1606) (by decide +kernel)) rfl, px_in (List.mem_of_getElem? (i := 76) (by decide +kernel)) rfl⟩
theorem plX12_dues : plainFor mX12_dues.1 = true := by decide +kernel
def mX12_lates : px_M := (yX12_lates, cX12_lates, 9, (some .int))
theorem okX12_lates : px_okV mX12_lates 4 := ⟨⟨px_in (List.mem_of_getElem? (i := 1611) (by decide +kernel)) rfl, px_in (List.mem_of_getElem? (i := 109) (by decide +kernel)) rfl, by decide +kernel, by decide +kernel, by decide +kernel⟩, px_in (List.mem_of_getElem? (i := 1610) (by decide +kernel)) rfl, px_in (List.mem_of_getElem? (i := 77) (by decide +kernel)) rfl⟩
theorem plX12_lates : plainFor mX12_lates.1 = true := by decide +kernel
def mX12_fits : px_M := (yX12_fits, cX12_fits, 4, (some .int))
theorem okX12_fits : px_okV mX12_fits 3 := ⟨⟨px_in (List.mem_of_getElem? (i := 1603) (by decide +kernel)) rfl, px_in (List.mem_of_getElem? (i := 109) (by decide +kernel)) rfl, by decide +kernel, by decide +kernel, by decide +kernel⟩, px_in (List.mem_of_getElem? (i := 1601) (by decide +kernel)) rfl, px_in (List.mem_of_getElem? (i := 1602) (by decide +kernel)) rfl⟩
theorem plX12_fits : plainFor mX12_fits.1 = true := by decide +kernel
def mX12_who : px_M := (yX12_who, cX12_who, 4, (some .int))
theorem okX12_who : px_okV mX12_who 1 := ⟨⟨px_in (List.mem_of_getElem? (i := 1615) (by decide +kernel)) rfl, px_in (List.mem_of_getElem? (i := 109) (by decide +kernel)) rfl, by decide +kernel, by decide +kernel, by decide +kernel⟩, px_in (List.mem_of_getElem? (i := 1613) (by decide +kernel)) rfl, px_in (List.mem_of_getElem? (i := 1614) (by decide +kernel)) rfl⟩
theorem plX12_who : plainFor mX12_who.1 = true := by decide +kernel
def mX12_share : px_M := (yX12_share, cX12_share, 6, (some .int))
theorem okX12_share : px_okV mX12_share 2 := ⟨⟨px_in (List.mem_of_getElem? (i := 1619) (by decide +kernel)) rfl, px_in (List.mem_of_getElem? (i := 109) (by decide +kernel)) rfl, by decide +kernel, by decide +kernel, by decide +kernel⟩, px_in (List.mem_of_getElem? (i := 1617) (by decide +kernel)) rfl, px_in (List.mem_of_getElem? (i := 1618) (by decide +kernel)) rfl⟩
theorem plX12_share : plainFor mX12_share.1 = true := by decide +kernel
def mX12_near : px_M := (yX12_near, cX12_near, 5, (some .int))
theorem okX12_near : px_okV mX12_near 1 := ⟨⟨px_in (List.mem_of_getElem? (i := 1623) (by decide +kernel)) rfl, px_in (List.mem_of_getElem? (i := 109) (by decide +kernel)) rfl, by decide +kernel, by decide +kernel, by decide +kernel⟩, px_in (List.mem_of_getElem? (i := 1621) (by decide +kernel)) rfl, px_in (List.mem_of_getElem? (i := 1622) (by decide +kernel)) rfl⟩
theorem plX12_near : plainFor mX12_near.1 = true := by decide +kernel
def mX12_mostMates : px_M := (yX12_mostMates, cX12_mostMates, 7, (some .int))
theorem okX12_mostMates : px_okV mX12_mostMates 3 := ⟨⟨px_in (List.mem_of_getElem? (i := 1631) (by decide +kernel)) rfl, px_in (List.mem_of_getElem? (i := 109) (by decide +kernel)) rfl, by decide +kernel, by decide +kernel, by decide +kernel⟩, px_in (List.mem_of_getElem? (i := 1630) (by decide +kernel)) rfl, px_in (List.mem_of_getElem? (i := 78) (by decide +kernel)) rfl⟩
theorem plX12_mostMates : plainFor mX12_mostMates.1 = true := by decide +kernel
def mX12_mates : px_M := (yX12_mates, cX12_mates, 2, (some .int))
theorem okX12_mates : px_okV mX12_mates 1 := ⟨⟨px_in (List.mem_of_getElem? (i := 1627) (by decide +kernel)) rfl, px_in (List.mem_of_getElem? (i := 109) (by decide +kernel)) rfl, by decide +kernel, by decide +kernel, by decide +kernel⟩, px_in (List.mem_of_getElem? (i := 1625) (by decide +kernel)) rfl, px_in (List.mem_of_getElem? (i := 1626) (by decide +kernel)) rfl⟩
theorem plX12_mates : plainFor mX12_mates.1 = true := by decide +kernel
def mX12_endsBy : px_M := (yX12_endsBy, cX12_endsBy, 4, (some .int))
theorem okX12_endsBy : px_okV mX12_endsBy 1 := ⟨⟨px_in (List.mem_of_getElem? (i := 1644) (by decide +kernel)) rfl, px_in (List.mem_of_getElem? (i := 109) (by decide +kernel)) rfl, by decide +kernel, by decide +kernel, by decide +kernel⟩, px_in (List.mem_of_getElem? (i := 1643) (by decide +kernel)) rfl, px_in (List.mem_of_getElem? (i := 80) (by decide +kernel)) rfl⟩
theorem plX12_endsBy : plainFor mX12_endsBy.1 = true := by decide +kernel
def mX12_bestOf : px_M := (yX12_bestOf, cX12_bestOf, 7, (some .int))
theorem okX12_bestOf : px_okV mX12_bestOf 3 := ⟨⟨px_in (List.mem_of_getElem? (i := 1640) (by decide +kernel)) rfl, px_in (List.mem_of_getElem? (i := 109) (by decide +kernel)) rfl, by decide +kernel, by decide +kernel, by decide +kernel⟩, px_in (List.mem_of_getElem? (i := 1639) (by decide +kernel)) rfl, px_in (List.mem_of_getElem? (i := 79) (by decide +kernel)) rfl⟩
theorem plX12_bestOf : plainFor mX12_bestOf.1 = true := by decide +kernel
def mX12_byTurns : px_M := (yX12_byTurns, cX12_byTurns, 5, (some .int))
theorem okX12_byTurns : px_okV mX12_byTurns 2 := ⟨⟨px_in (List.mem_of_getElem? (i := 1635) (by decide +kernel)) rfl, px_in (List.mem_of_getElem? (i := 109) (by decide +kernel)) rfl, by decide +kernel, by decide +kernel, by decide +kernel⟩, px_in (List.mem_of_getElem? (i := 1633) (by decide +kernel)) rfl, px_in (List.mem_of_getElem? (i := 1634) (by decide +kernel)) rfl⟩
theorem plX12_byTurns : plainFor mX12_byTurns.1 = true := by decide +kernel
def mX12_drawn : px_M := (yX12_drawn, cX12_drawn, 9, (some .int))
theorem okX12_drawn : px_okV mX12_drawn 3 := ⟨⟨px_in (List.mem_of_getElem? (i := 1648) (by decide +kernel)) rfl, px_in (List.mem_of_getElem? (i := 109) (by decide +kernel)) rfl, by decide +kernel, by decide +kernel, by decide +kernel⟩, px_in (List.mem_of_getElem? (i := 1646) (by decide +kernel)) rfl, px_in (List.mem_of_getElem? (i := 1647) (by decide +kernel)) rfl⟩
theorem plX12_drawn : plainFor mX12_drawn.1 = true := by decide +kernel
def mX12_moves : px_M := (yX12_moves, cX12_moves, 4, (some .int))
theorem okX12_moves : px_okV mX12_moves 2 := ⟨⟨px_in (List.mem_of_getElem? (i := 1653) (by decide +kernel)) rfl, px_in (List.mem_of_getElem? (i := 109) (by decide +kernel)) rfl, by decide +kernel, by decide +kernel, by decide +kernel⟩, px_in (List.mem_of_getElem? (i := 1651) (by decide +kernel)) rfl, px_in (List.mem_of_getElem? (i := 1652) (by decide +kernel)) rfl⟩
theorem plX12_moves : plainFor mX12_moves.1 = true := by decide +kernel
def mX12_day : px_M := (yX12_day, cX12_day, 3, (some .int))
theorem okX12_day : px_okV mX12_day 0 := ⟨⟨px_in (List.mem_of_getElem? (i := 1657) (by decide +kernel)) rfl, px_in (List.mem_of_getElem? (i := 109) (by decide +kernel)) rfl, by decide +kernel, by decide +kernel, by decide +kernel⟩, px_in (List.mem_of_getElem? (i := 1655) (by decide +kernel)) rfl, px_in (List.mem_of_getElem? (i := 1656) (by decide +kernel)) rfl⟩
theorem plX12_day : plainFor mX12_day.1 = true := by decide +kernel
def mX12_livedIn : px_M := (yX12_livedIn, cX12_livedIn, 3, (some .int))
theorem okX12_livedIn : px_okV mX12_livedIn 0 := ⟨⟨px_in (List.mem_of_getElem? (i := 1665) (by decide +kernel)) rfl, px_in (List.mem_of_getElem? (i := 109) (by decide +kernel)) rfl, by decide +kernel, by decide +kernel, by decide +kernel⟩, px_in (List.mem_of_getElem? (i := 1664) (by decide +kernel)) rfl, px_in (List.mem_of_getElem? (i := 81) (by decide +kernel)) rfl⟩
theorem plX12_livedIn : plainFor mX12_livedIn.1 = true := by decide +kernel
def mX12_inspect : px_M := (yX12_inspect, cX12_inspect, 3, (some .int))
theorem okX12_inspect : px_okV mX12_inspect 0 := ⟨⟨px_in (List.mem_of_getElem? (i := 1661) (by decide +kernel)) rfl, px_in (List.mem_of_getElem? (i := 109) (by decide +kernel)) rfl, by decide +kernel, by decide +kernel, by decide +kernel⟩, px_in (List.mem_of_getElem? (i := 1659) (by decide +kernel)) rfl, px_in (List.mem_of_getElem? (i := 1660) (by decide +kernel)) rfl⟩
theorem plX12_inspect : plainFor mX12_inspect.1 = true := by decide +kernel
def mX12_led : px_M := (yX12_led, cX12_led, 2, (some .int))
theorem okX12_led : px_okV mX12_led 1 := ⟨⟨px_in (List.mem_of_getElem? (i := 1669) (by decide +kernel)) rfl, px_in (List.mem_of_getElem? (i := 109) (by decide +kernel)) rfl, by decide +kernel, by decide +kernel, by decide +kernel⟩, px_in (List.mem_of_getElem? (i := 1667) (by decide +kernel)) rfl, px_in (List.mem_of_getElem? (i := 1668) (by decide +kernel)) rfl⟩
theorem plX12_led : plainFor mX12_led.1 = true := by decide +kernel
def mX12_image : px_M := (yX12_image, cX12_image, 2, (some .int))
theorem okX12_image : px_okV mX12_image 0 := ⟨⟨px_in (List.mem_of_getElem? (i := 1673) (by decide +kernel)) rfl, px_in (List.mem_of_getElem? (i := 109) (by decide +kernel)) rfl, by decide +kernel, by decide +kernel, by decide +kernel⟩, px_in (List.mem_of_getElem? (i := 1671) (by decide +kernel)) rfl, px_in (List.mem_of_getElem? (i := 1672) (by decide +kernel)) rfl⟩
theorem plX12_image : plainFor mX12_image.1 = true := by decide +kernel
def mX12_back : px_M := (yX12_back, cX12_back, 2, (some .int))
theorem okX12_back : px_okV mX12_back 0 := ⟨⟨px_in (List.mem_of_getElem? (i := 1677) (by decide +kernel)) rfl, px_in (List.mem_of_getElem? (i := 109) (by decide +kernel)) rfl, by decide +kernel, by decide +kernel, by decide +kernel⟩, px_in (List.mem_of_getElem? (i := 1675) (by decide +kernel)) rfl, px_in (List.mem_of_getElem? (i := 1676) (by decide +kernel)) rfl⟩
theorem plX12_back : plainFor mX12_back.1 = true := by decide +kernel
def mX12_isBody : px_M := (yX12_isBody, cX12_isBody, 2, (some .boolean))
theorem okX12_isBody : px_okV mX12_isBody 1 := ⟨⟨px_in (List.mem_of_getElem? (i := 1693) (by decide +kernel)) rfl, px_in (List.mem_of_getElem? (i := 109) (by decide +kernel)) rfl, by decide +kernel, by decide +kernel, by decide +kernel⟩, px_in (List.mem_of_getElem? (i := 1692) (by decide +kernel)) rfl, px_in (List.mem_of_getElem? (i := 82) (by decide +kernel)) rfl⟩
theorem plX12_isBody : plainFor mX12_isBody.1 = true := by decide +kernel
def mX12_ran : px_M := (yX12_ran, cX12_ran, 2, none)
theorem okX12_ran : px_okV mX12_ran 1 := ⟨⟨px_in (List.mem_of_getElem? (i := 1704) (by decide +kernel)) rfl, px_in (List.mem_of_getElem? (i := 109) (by decide +kernel)) rfl, by decide +kernel, by decide +kernel, by decide +kernel⟩, px_in (List.mem_of_getElem? (i := 1703) (by decide +kernel)) rfl, px_in (List.mem_of_getElem? (i := 84) (by decide +kernel)) rfl⟩
theorem plX12_ran : plainFor mX12_ran.1 = true := by decide +kernel
def mX12_trace : px_M := (yX12_trace, cX12_trace, 2, (some .int))
theorem okX12_trace : px_okV mX12_trace 1 := ⟨⟨px_in (List.mem_of_getElem? (i := 1681) (by decide +kernel)) rfl, px_in (List.mem_of_getElem? (i := 109) (by decide +kernel)) rfl, by decide +kernel, by decide +kernel, by decide +kernel⟩, px_in (List.mem_of_getElem? (i := 1679) (by decide +kernel)) rfl, px_in (List.mem_of_getElem? (i := 1680) (by decide +kernel)) rfl⟩
theorem plX12_trace : plainFor mX12_trace.1 = true := by decide +kernel
def mX12_body : px_M := (yX12_body, cX12_body, 2, (some .int))
theorem okX12_body : px_okV mX12_body 1 := ⟨⟨px_in (List.mem_of_getElem? (i := 1685) (by decide +kernel)) rfl, px_in (List.mem_of_getElem? (i := 109) (by decide +kernel)) rfl, by decide +kernel, by decide +kernel, by decide +kernel⟩, px_in (List.mem_of_getElem? (i := 1683) (by decide +kernel)) rfl, px_in (List.mem_of_getElem? (i := 1684) (by decide +kernel)) rfl⟩
theorem plX12_body : plainFor mX12_body.1 = true := by decide +kernel
def mX12_isUnder : px_M := (yX12_isUnder, cX12_isUnder, 2, (some .boolean))
theorem okX12_isUnder : px_okS mX12_isUnder 2 := ⟨⟨px_in (List.mem_of_getElem? (i := 1700) (by decide +kernel)) rfl, px_in (List.mem_of_getElem? (i := 109) (by decide +kernel)) rfl, by decide +kernel, by decide +kernel, by decide +kernel⟩, px_in (List.mem_of_getElem? (i := 1699) (by decide +kernel)) rfl⟩
theorem plX12_isUnder : plainFor mX12_isUnder.1 = true := by decide +kernel
def mX12_plainOpens : px_M := (yX12_plainOpens, cX12_plainOpens, 3, (some .int))
theorem okX12_plainOpens : px_okV mX12_plainOpens 2 := ⟨⟨px_in (List.mem_of_getElem? (i := 1708) (by decide +kernel)) rfl, px_in (List.mem_of_getElem? (i := 109) (by decide +kernel)) rfl, by decide +kernel, by decide +kernel, by decide +kernel⟩, px_in (List.mem_of_getElem? (i := 1707) (by decide +kernel)) rfl, px_in (List.mem_of_getElem? (i := 85) (by decide +kernel)) rfl⟩
theorem plX12_plainOpens : plainFor mX12_plainOpens.1 = true := by decide +kernel
def mX12_springOpens : px_M := (yX12_springOpens, cX12_springOpens, 3, (some .int))
theorem okX12_springOpens : px_okV mX12_springOpens 2 := ⟨⟨px_in (List.mem_of_getElem? (i := 1712) (by decide +kernel)) rfl, px_in (List.mem_of_getElem? (i := 109) (by decide +kernel)) rfl, by decide +kernel, by decide +kernel, by decide +kernel⟩, px_in (List.mem_of_getElem? (i := 1711) (by decide +kernel)) rfl, px_in (List.mem_of_getElem? (i := 86) (by decide +kernel)) rfl⟩
theorem plX12_springOpens : plainFor mX12_springOpens.1 = true := by decide +kernel
def mX12_opening : px_M := (yX12_opening, cX12_opening, 3, (some .int))
theorem okX12_opening : px_okV mX12_opening 2 := ⟨⟨px_in (List.mem_of_getElem? (i := 1697) (by decide +kernel)) rfl, px_in (List.mem_of_getElem? (i := 109) (by decide +kernel)) rfl, by decide +kernel, by decide +kernel, by decide +kernel⟩, px_in (List.mem_of_getElem? (i := 1696) (by decide +kernel)) rfl, px_in (List.mem_of_getElem? (i := 83) (by decide +kernel)) rfl⟩
theorem plX12_opening : plainFor mX12_opening.1 = true := by decide +kernel
def mX12_plainSmells : px_M := (yX12_plainSmells, cX12_plainSmells, 3, (some .int))
theorem okX12_plainSmells : px_okV mX12_plainSmells 2 := ⟨⟨px_in (List.mem_of_getElem? (i := 1724) (by decide +kernel)) rfl, px_in (List.mem_of_getElem? (i := 109) (by decide +kernel)) rfl, by decide +kernel, by decide +kernel, by decide +kernel⟩, px_in (List.mem_of_getElem? (i := 1723) (by decide +kernel)) rfl, px_in (List.mem_of_getElem? (i := 89) (by decide +kernel)) rfl⟩
theorem plX12_plainSmells : plainFor mX12_plainSmells.1 = true := by decide +kernel
def mX12_weddingSmells : px_M := (yX12_weddingSmells, cX12_weddingSmells, 3, (some .int))
theorem okX12_weddingSmells : px_okV mX12_weddingSmells 2 := ⟨⟨px_in (List.mem_of_getElem? (i := 1720) (by decide +kernel)) rfl, px_in (List.mem_of_getElem? (i := 109) (by decide +kernel)) rfl, by decide +kernel, by decide +kernel, by decide +kernel⟩, px_in (List.mem_of_getElem? (i := 1719) (by decide +kernel)) rfl, px_in (List.mem_of_getElem? (i := 88) (by decide +kernel)) rfl⟩
theorem plX12_weddingSmells : plainFor mX12_weddingSmells.1 = true := by decide +kernel
def mX12_smelling : px_M := (yX12_smelling, cX12_smelling, 4, (some .int))
theorem okX12_smelling : px_okV mX12_smelling 2 := ⟨⟨px_in (List.mem_of_getElem? (i := 1716) (by decide +kernel)) rfl, px_in (List.mem_of_getElem? (i := 109) (by decide +kernel)) rfl, by decide +kernel, by decide +kernel, by decide +kernel⟩, px_in (List.mem_of_getElem? (i := 1715) (by decide +kernel)) rfl, px_in (List.mem_of_getElem? (i := 87) (by decide +kernel)) rfl⟩
theorem plX12_smelling : plainFor mX12_smelling.1 = true := by decide +kernel
def mX12_plainVotes : px_M := (yX12_plainVotes, cX12_plainVotes, 3, (some .int))
theorem okX12_plainVotes : px_okV mX12_plainVotes 2 := ⟨⟨px_in (List.mem_of_getElem? (i := 1736) (by decide +kernel)) rfl, px_in (List.mem_of_getElem? (i := 109) (by decide +kernel)) rfl, by decide +kernel, by decide +kernel, by decide +kernel⟩, px_in (List.mem_of_getElem? (i := 1735) (by decide +kernel)) rfl, px_in (List.mem_of_getElem? (i := 92) (by decide +kernel)) rfl⟩
theorem plX12_plainVotes : plainFor mX12_plainVotes.1 = true := by decide +kernel
def mX12_widowVotes : px_M := (yX12_widowVotes, cX12_widowVotes, 3, (some .int))
theorem okX12_widowVotes : px_okV mX12_widowVotes 2 := ⟨⟨px_in (List.mem_of_getElem? (i := 1732) (by decide +kernel)) rfl, px_in (List.mem_of_getElem? (i := 109) (by decide +kernel)) rfl, by decide +kernel, by decide +kernel, by decide +kernel⟩, px_in (List.mem_of_getElem? (i := 1731) (by decide +kernel)) rfl, px_in (List.mem_of_getElem? (i := 91) (by decide +kernel)) rfl⟩
theorem plX12_widowVotes : plainFor mX12_widowVotes.1 = true := by decide +kernel
def mX12_voting : px_M := (yX12_voting, cX12_voting, 4, (some .int))
theorem okX12_voting : px_okV mX12_voting 2 := ⟨⟨px_in (List.mem_of_getElem? (i := 1728) (by decide +kernel)) rfl, px_in (List.mem_of_getElem? (i := 109) (by decide +kernel)) rfl, by decide +kernel, by decide +kernel, by decide +kernel⟩, px_in (List.mem_of_getElem? (i := 1727) (by decide +kernel)) rfl, px_in (List.mem_of_getElem? (i := 90) (by decide +kernel)) rfl⟩
theorem plX12_voting : plainFor mX12_voting.1 = true := by decide +kernel
def mX12_plainTells : px_M := (yX12_plainTells, cX12_plainTells, 4, (some .int))
theorem okX12_plainTells : px_okV mX12_plainTells 2 := ⟨⟨px_in (List.mem_of_getElem? (i := 1744) (by decide +kernel)) rfl, px_in (List.mem_of_getElem? (i := 109) (by decide +kernel)) rfl, by decide +kernel, by decide +kernel, by decide +kernel⟩, px_in (List.mem_of_getElem? (i := 1743) (by decide +kernel)) rfl, px_in (List.mem_of_getElem? (i := 94) (by decide +kernel)) rfl⟩
theorem plX12_plainTells : plainFor mX12_plainTells.1 = true := by decide +kernel
def mX12_telling : px_M := (yX12_telling, cX12_telling, 3, (some .int))
theorem okX12_telling : px_okV mX12_telling 2 := ⟨⟨px_in (List.mem_of_getElem? (i := 1740) (by decide +kernel)) rfl, px_in (List.mem_of_getElem? (i := 109) (by decide +kernel)) rfl, by decide +kernel, by decide +kernel, by decide +kernel⟩, px_in (List.mem_of_getElem? (i := 1739) (by decide +kernel)) rfl, px_in (List.mem_of_getElem? (i := 93) (by decide +kernel)) rfl⟩
theorem plX12_telling : plainFor mX12_telling.1 = true := by decide +kernel
def mX12_act : px_M := (yX12_act, cX12_act, 4, (some .int))
theorem okX12_act : px_okV mX12_act 3 := ⟨⟨px_in (List.mem_of_getElem? (i := 1689) (by decide +kernel)) rfl, px_in (List.mem_of_getElem? (i := 109) (by decide +kernel)) rfl, by decide +kernel, by decide +kernel, by decide +kernel⟩, px_in (List.mem_of_getElem? (i := 1687) (by decide +kernel)) rfl, px_in (List.mem_of_getElem? (i := 1688) (by decide +kernel)) rfl⟩
theorem plX12_act : plainFor mX12_act.1 = true := by decide +kernel
def mX12_count : px_M := (yX12_count, cX12_count, 2, (some .int))
theorem okX12_count : px_okV mX12_count 1 := ⟨⟨px_in (List.mem_of_getElem? (i := 1748) (by decide +kernel)) rfl, px_in (List.mem_of_getElem? (i := 109) (by decide +kernel)) rfl, by decide +kernel, by decide +kernel, by decide +kernel⟩, px_in (List.mem_of_getElem? (i := 1746) (by decide +kernel)) rfl, px_in (List.mem_of_getElem? (i := 1747) (by decide +kernel)) rfl⟩
theorem plX12_count : plainFor mX12_count.1 = true := by decide +kernel
def mX12_isShelf : px_M := (yX12_isShelf, cX12_isShelf, 1, (some .boolean))
theorem okX12_isShelf : px_okS mX12_isShelf 1 := ⟨⟨px_in (List.mem_of_getElem? (i := 1349) (by decide +kernel)) rfl, px_in (List.mem_of_getElem? (i := 109) (by decide +kernel)) rfl, by decide +kernel, by decide +kernel, by decide +kernel⟩, px_in (List.mem_of_getElem? (i := 1348) (by decide +kernel)) rfl⟩
theorem plX12_isShelf : plainFor mX12_isShelf.1 = true := by decide +kernel
def mX12_keep : px_M := (yX12_keep, cX12_keep, 3, (some .int))
theorem okX12_keep : px_okV mX12_keep 2 := ⟨⟨px_in (List.mem_of_getElem? (i := 1752) (by decide +kernel)) rfl, px_in (List.mem_of_getElem? (i := 109) (by decide +kernel)) rfl, by decide +kernel, by decide +kernel, by decide +kernel⟩, px_in (List.mem_of_getElem? (i := 1750) (by decide +kernel)) rfl, px_in (List.mem_of_getElem? (i := 1751) (by decide +kernel)) rfl⟩
theorem plX12_keep : plainFor mX12_keep.1 = true := by decide +kernel
def mX12_row : px_M := (yX12_row, cX12_row, 5, (some .int))
theorem okX12_row : px_okV mX12_row 3 := ⟨⟨px_in (List.mem_of_getElem? (i := 1756) (by decide +kernel)) rfl, px_in (List.mem_of_getElem? (i := 109) (by decide +kernel)) rfl, by decide +kernel, by decide +kernel, by decide +kernel⟩, px_in (List.mem_of_getElem? (i := 1754) (by decide +kernel)) rfl, px_in (List.mem_of_getElem? (i := 1755) (by decide +kernel)) rfl⟩
theorem plX12_row : plainFor mX12_row.1 = true := by decide +kernel
def mX12_whyNoPlace : px_M := (yX12_whyNoPlace, cX12_whyNoPlace, 3, (some .int))
theorem okX12_whyNoPlace : px_okV mX12_whyNoPlace 2 := ⟨⟨px_in (List.mem_of_getElem? (i := 1764) (by decide +kernel)) rfl, px_in (List.mem_of_getElem? (i := 109) (by decide +kernel)) rfl, by decide +kernel, by decide +kernel, by decide +kernel⟩, px_in (List.mem_of_getElem? (i := 1763) (by decide +kernel)) rfl, px_in (List.mem_of_getElem? (i := 95) (by decide +kernel)) rfl⟩
theorem plX12_whyNoPlace : plainFor mX12_whyNoPlace.1 = true := by decide +kernel
def mX12_put : px_M := (yX12_put, cX12_put, 7, (some .int))
theorem okX12_put : px_okV mX12_put 3 := ⟨⟨px_in (List.mem_of_getElem? (i := 1760) (by decide +kernel)) rfl, px_in (List.mem_of_getElem? (i := 109) (by decide +kernel)) rfl, by decide +kernel, by decide +kernel, by decide +kernel⟩, px_in (List.mem_of_getElem? (i := 1758) (by decide +kernel)) rfl, px_in (List.mem_of_getElem? (i := 1759) (by decide +kernel)) rfl⟩
theorem plX12_put : plainFor mX12_put.1 = true := by decide +kernel
def mX12_element : px_M := (yX12_element, cX12_element, 3, (some .long))
theorem okX12_element : px_okV mX12_element 2 := ⟨⟨px_in (List.mem_of_getElem? (i := 1768) (by decide +kernel)) rfl, px_in (List.mem_of_getElem? (i := 109) (by decide +kernel)) rfl, by decide +kernel, by decide +kernel, by decide +kernel⟩, px_in (List.mem_of_getElem? (i := 1766) (by decide +kernel)) rfl, px_in (List.mem_of_getElem? (i := 1767) (by decide +kernel)) rfl⟩
theorem plX12_element : plainFor mX12_element.1 = true := by decide +kernel
def mX12_shift : px_M := (yX12_shift, cX12_shift, 7, (some .int))
theorem okX12_shift : px_okV mX12_shift 5 := ⟨⟨px_in (List.mem_of_getElem? (i := 1773) (by decide +kernel)) rfl, px_in (List.mem_of_getElem? (i := 109) (by decide +kernel)) rfl, by decide +kernel, by decide +kernel, by decide +kernel⟩, px_in (List.mem_of_getElem? (i := 1771) (by decide +kernel)) rfl, px_in (List.mem_of_getElem? (i := 1772) (by decide +kernel)) rfl⟩
theorem plX12_shift : plainFor mX12_shift.1 = true := by decide +kernel
def mX12_taken : px_M := (yX12_taken, cX12_taken, 3, (some .int))
theorem okX12_taken : px_okV mX12_taken 2 := ⟨⟨px_in (List.mem_of_getElem? (i := 1777) (by decide +kernel)) rfl, px_in (List.mem_of_getElem? (i := 109) (by decide +kernel)) rfl, by decide +kernel, by decide +kernel, by decide +kernel⟩, px_in (List.mem_of_getElem? (i := 1775) (by decide +kernel)) rfl, px_in (List.mem_of_getElem? (i := 1776) (by decide +kernel)) rfl⟩
theorem plX12_taken : plainFor mX12_taken.1 = true := by decide +kernel
def mJ6_bitCount_0f7a4 : px_M := (yJ6_bitCount_0f7a4, cJ6_bitCount_0f7a4, 1, (some .int))
theorem okJ6_bitCount_0f7a4 : px_okS mJ6_bitCount_0f7a4 1 := ⟨⟨px_in (List.mem_of_getElem? (i := 754) (by decide +kernel)) rfl, px_in (List.mem_of_getElem? (i := 112) (by decide +kernel)) rfl, by decide +kernel, by decide +kernel, by decide +kernel⟩, px_in (List.mem_of_getElem? (i := 753) (by decide +kernel)) rfl⟩
theorem plJ6_bitCount_0f7a4 : plainFor mJ6_bitCount_0f7a4.1 = true := by decide +kernel
def mJ9_abs_0f7a4 : px_M := (yJ9_abs_0f7a4, cJ9_abs_0f7a4, 1, (some .int))
theorem okJ9_abs_0f7a4 : px_okS mJ9_abs_0f7a4 1 := ⟨⟨px_in (List.mem_of_getElem? (i := 698) (by decide +kernel)) rfl, px_in (List.mem_of_getElem? (i := 111) (by decide +kernel)) rfl, by decide +kernel, by decide +kernel, by decide +kernel⟩, px_in (List.mem_of_getElem? (i := 697) (by decide +kernel)) rfl⟩
theorem plJ9_abs_0f7a4 : plainFor mJ9_abs_0f7a4.1 = true := by decide +kernel
def mJ9_max_7cf53 : px_M := (yJ9_max_7cf53, cJ9_max_7cf53, 2, (some .int))
theorem okJ9_max_7cf53 : px_okS mJ9_max_7cf53 2 := ⟨⟨px_in (List.mem_of_getElem? (i := 725) (by decide +kernel)) rfl, px_in (List.mem_of_getElem? (i := 111) (by decide +kernel)) rfl, by decide +kernel, by decide +kernel, by decide +kernel⟩, px_in (List.mem_of_getElem? (i := 724) (by decide +kernel)) rfl⟩
theorem plJ9_max_7cf53 : plainFor mJ9_max_7cf53.1 = true := by decide +kernel
def mJ9_min_7cf53 : px_M := (yJ9_min_7cf53, cJ9_min_7cf53, 2, (some .int))
theorem okJ9_min_7cf53 : px_okS mJ9_min_7cf53 2 := ⟨⟨px_in (List.mem_of_getElem? (i := 731) (by decide +kernel)) rfl, px_in (List.mem_of_getElem? (i := 111) (by decide +kernel)) rfl, by decide +kernel, by decide +kernel, by decide +kernel⟩, px_in (List.mem_of_getElem? (i := 730) (by decide +kernel)) rfl⟩
theorem plJ9_min_7cf53 : plainFor mJ9_min_7cf53.1 = true := by decide +kernel
theorem flX7_9 : px_fl RX7 9 7 0 true (.array .int) := ⟨RX7, TX7, 10, tyX7, rfl, by decide, inX7, tyX7_ok, nmX7, px_in (List.mem_of_getElem? (i := 127) (by decide +kernel)) rfl, rfl, rfl, by decide +kernel⟩
theorem flX2_50 : px_fl RX2 50 7 0 true (.array .int) := ⟨RX7, TX7, 10, tyX7, rfl, by decide, inX7, tyX7_ok, nmX7, px_in (List.mem_of_getElem? (i := 128) (by decide +kernel)) rfl, rfl, rfl, by decide +kernel⟩
theorem flX11_163 : px_fl RX11 163 7 0 true (.array .int) := ⟨RX7, TX7, 10, tyX7, rfl, by decide, inX7, tyX7_ok, nmX7, px_in (List.mem_of_getElem? (i := 129) (by decide +kernel)) rfl, rfl, rfl, by decide +kernel⟩
theorem flX7_15 : px_fl RX7 15 7 1 true (.array .int) := ⟨RX7, TX7, 10, tyX7, rfl, by decide, inX7, tyX7_ok, nmX7, px_in (List.mem_of_getElem? (i := 130) (by decide +kernel)) rfl, rfl, rfl, by decide +kernel⟩
theorem flX2_62 : px_fl RX2 62 7 1 true (.array .int) := ⟨RX7, TX7, 10, tyX7, rfl, by decide, inX7, tyX7_ok, nmX7, px_in (List.mem_of_getElem? (i := 131) (by decide +kernel)) rfl, rfl, rfl, by decide +kernel⟩
theorem flX4_61 : px_fl RX4 61 7 1 true (.array .int) := ⟨RX7, TX7, 10, tyX7, rfl, by decide, inX7, tyX7_ok, nmX7, px_in (List.mem_of_getElem? (i := 132) (by decide +kernel)) rfl, rfl, rfl, by decide +kernel⟩
theorem flX9_76 : px_fl RX9 76 7 1 true (.array .int) := ⟨RX7, TX7, 10, tyX7, rfl, by decide, inX7, tyX7_ok, nmX7, px_in (List.mem_of_getElem? (i := 133) (by decide +kernel)) rfl, rfl, rfl, by decide +kernel⟩
theorem flX11_245 : px_fl RX11 245 7 1 true (.array .int) := ⟨RX7, TX7, 10, tyX7, rfl, by decide, inX7, tyX7_ok, nmX7, px_in (List.mem_of_getElem? (i := 134) (by decide +kernel)) rfl, rfl, rfl, by decide +kernel⟩
theorem flX7_18 : px_fl RX7 18 7 2 true (.array .int) := ⟨RX7, TX7, 10, tyX7, rfl, by decide, inX7, tyX7_ok, nmX7, px_in (List.mem_of_getElem? (i := 135) (by decide +kernel)) rfl, rfl, rfl, by decide +kernel⟩
theorem flX6_66 : px_fl RX6 66 7 2 true (.array .int) := ⟨RX7, TX7, 10, tyX7, rfl, by decide, inX7, tyX7_ok, nmX7, px_in (List.mem_of_getElem? (i := 136) (by decide +kernel)) rfl, rfl, rfl, by decide +kernel⟩
theorem flX2_59 : px_fl RX2 59 7 2 true (.array .int) := ⟨RX7, TX7, 10, tyX7, rfl, by decide, inX7, tyX7_ok, nmX7, px_in (List.mem_of_getElem? (i := 137) (by decide +kernel)) rfl, rfl, rfl, by decide +kernel⟩
theorem flX4_64 : px_fl RX4 64 7 2 true (.array .int) := ⟨RX7, TX7, 10, tyX7, rfl, by decide, inX7, tyX7_ok, nmX7, px_in (List.mem_of_getElem? (i := 138) (by decide +kernel)) rfl, rfl, rfl, by decide +kernel⟩
theorem flX7_21 : px_fl RX7 21 7 3 true (.array .int) := ⟨RX7, TX7, 10, tyX7, rfl, by decide, inX7, tyX7_ok, nmX7, px_in (List.mem_of_getElem? (i := 139) (by decide +kernel)) rfl, rfl, rfl, by decide +kernel⟩
theorem flX4_67 : px_fl RX4 67 7 3 true (.array .int) := ⟨RX7, TX7, 10, tyX7, rfl, by decide, inX7, tyX7_ok, nmX7, px_in (List.mem_of_getElem? (i := 140) (by decide +kernel)) rfl, rfl, rfl, by decide +kernel⟩
theorem flX2_111 : px_fl RX2 111 7 3 true (.array .int) := ⟨RX7, TX7, 10, tyX7, rfl, by decide, inX7, tyX7_ok, nmX7, px_in (List.mem_of_getElem? (i := 141) (by decide +kernel)) rfl, rfl, rfl, by decide +kernel⟩
theorem flX11_252 : px_fl RX11 252 7 3 true (.array .int) := ⟨RX7, TX7, 10, tyX7, rfl, by decide, inX7, tyX7_ok, nmX7, px_in (List.mem_of_getElem? (i := 142) (by decide +kernel)) rfl, rfl, rfl, by decide +kernel⟩
theorem flX7_24 : px_fl RX7 24 7 4 true (.array .int) := ⟨RX7, TX7, 10, tyX7, rfl, by decide, inX7, tyX7_ok, nmX7, px_in (List.mem_of_getElem? (i := 143) (by decide +kernel)) rfl, rfl, rfl, by decide +kernel⟩
theorem flX6_50 : px_fl RX6 50 7 4 true (.array .int) := ⟨RX7, TX7, 10, tyX7, rfl, by decide, inX7, tyX7_ok, nmX7, px_in (List.mem_of_getElem? (i := 144) (by decide +kernel)) rfl, rfl, rfl, by decide +kernel⟩
theorem flX11_146 : px_fl RX11 146 7 4 true (.array .int) := ⟨RX7, TX7, 10, tyX7, rfl, by decide, inX7, tyX7_ok, nmX7, px_in (List.mem_of_getElem? (i := 145) (by decide +kernel)) rfl, rfl, rfl, by decide +kernel⟩
theorem flX4_70 : px_fl RX4 70 7 4 true (.array .int) := ⟨RX7, TX7, 10, tyX7, rfl, by decide, inX7, tyX7_ok, nmX7, px_in (List.mem_of_getElem? (i := 146) (by decide +kernel)) rfl, rfl, rfl, by decide +kernel⟩
theorem flX2_88 : px_fl RX2 88 7 4 true (.array .int) := ⟨RX7, TX7, 10, tyX7, rfl, by decide, inX7, tyX7_ok, nmX7, px_in (List.mem_of_getElem? (i := 147) (by decide +kernel)) rfl, rfl, rfl, by decide +kernel⟩
theorem flX7_27 : px_fl RX7 27 7 5 true (.array .int) := ⟨RX7, TX7, 10, tyX7, rfl, by decide, inX7, tyX7_ok, nmX7, px_in (List.mem_of_getElem? (i := 148) (by decide +kernel)) rfl, rfl, rfl, by decide +kernel⟩
theorem flX6_69 : px_fl RX6 69 7 5 true (.array .int) := ⟨RX7, TX7, 10, tyX7, rfl, by decide, inX7, tyX7_ok, nmX7, px_in (List.mem_of_getElem? (i := 149) (by decide +kernel)) rfl, rfl, rfl, by decide +kernel⟩
theorem flX4_73 : px_fl RX4 73 7 5 true (.array .int) := ⟨RX7, TX7, 10, tyX7, rfl, by decide, inX7, tyX7_ok, nmX7, px_in (List.mem_of_getElem? (i := 150) (by decide +kernel)) rfl, rfl, rfl, by decide +kernel⟩
theorem flX7_37 : px_fl RX7 37 7 6 false .int := ⟨RX7, TX7, 10, tyX7, rfl, by decide, inX7, tyX7_ok, nmX7, px_in (List.mem_of_getElem? (i := 151) (by decide +kernel)) rfl, rfl, rfl, by decide +kernel⟩
theorem flX9_31 : px_fl RX9 31 7 6 false .int := ⟨RX7, TX7, 10, tyX7, rfl, by decide, inX7, tyX7_ok, nmX7, px_in (List.mem_of_getElem? (i := 152) (by decide +kernel)) rfl, rfl, rfl, by decide +kernel⟩
theorem flX11_103 : px_fl RX11 103 7 6 false .int := ⟨RX7, TX7, 10, tyX7, rfl, by decide, inX7, tyX7_ok, nmX7, px_in (List.mem_of_getElem? (i := 153) (by decide +kernel)) rfl, rfl, rfl, by decide +kernel⟩
theorem flX10_33 : px_fl RX10 33 7 6 false .int := ⟨RX7, TX7, 10, tyX7, rfl, by decide, inX7, tyX7_ok, nmX7, px_in (List.mem_of_getElem? (i := 154) (by decide +kernel)) rfl, rfl, rfl, by decide +kernel⟩
theorem flX6_107 : px_fl RX6 107 7 6 false .int := ⟨RX7, TX7, 10, tyX7, rfl, by decide, inX7, tyX7_ok, nmX7, px_in (List.mem_of_getElem? (i := 155) (by decide +kernel)) rfl, rfl, rfl, by decide +kernel⟩
theorem flX2_82 : px_fl RX2 82 7 6 false .int := ⟨RX7, TX7, 10, tyX7, rfl, by decide, inX7, tyX7_ok, nmX7, px_in (List.mem_of_getElem? (i := 156) (by decide +kernel)) rfl, rfl, rfl, by decide +kernel⟩
theorem flX9_37 : px_fl RX9 37 7 7 false .int := ⟨RX7, TX7, 10, tyX7, rfl, by decide, inX7, tyX7_ok, nmX7, px_in (List.mem_of_getElem? (i := 157) (by decide +kernel)) rfl, rfl, rfl, by decide +kernel⟩
theorem flX7_40 : px_fl RX7 40 7 7 false .int := ⟨RX7, TX7, 10, tyX7, rfl, by decide, inX7, tyX7_ok, nmX7, px_in (List.mem_of_getElem? (i := 158) (by decide +kernel)) rfl, rfl, rfl, by decide +kernel⟩
theorem flX11_115 : px_fl RX11 115 7 7 false .int := ⟨RX7, TX7, 10, tyX7, rfl, by decide, inX7, tyX7_ok, nmX7, px_in (List.mem_of_getElem? (i := 159) (by decide +kernel)) rfl, rfl, rfl, by decide +kernel⟩
theorem flX6_80 : px_fl RX6 80 7 7 false .int := ⟨RX7, TX7, 10, tyX7, rfl, by decide, inX7, tyX7_ok, nmX7, px_in (List.mem_of_getElem? (i := 160) (by decide +kernel)) rfl, rfl, rfl, by decide +kernel⟩
theorem flX2_75 : px_fl RX2 75 7 7 false .int := ⟨RX7, TX7, 10, tyX7, rfl, by decide, inX7, tyX7_ok, nmX7, px_in (List.mem_of_getElem? (i := 161) (by decide +kernel)) rfl, rfl, rfl, by decide +kernel⟩
theorem flX7_30 : px_fl RX7 30 7 8 false .int := ⟨RX7, TX7, 10, tyX7, rfl, by decide, inX7, tyX7_ok, nmX7, px_in (List.mem_of_getElem? (i := 162) (by decide +kernel)) rfl, rfl, rfl, by decide +kernel⟩
theorem flX4_41 : px_fl RX4 41 7 8 false .int := ⟨RX7, TX7, 10, tyX7, rfl, by decide, inX7, tyX7_ok, nmX7, px_in (List.mem_of_getElem? (i := 163) (by decide +kernel)) rfl, rfl, rfl, by decide +kernel⟩
theorem flX2_91 : px_fl RX2 91 7 8 false .int := ⟨RX7, TX7, 10, tyX7, rfl, by decide, inX7, tyX7_ok, nmX7, px_in (List.mem_of_getElem? (i := 164) (by decide +kernel)) rfl, rfl, rfl, by decide +kernel⟩
theorem flX7_34 : px_fl RX7 34 7 9 false .int := ⟨RX7, TX7, 10, tyX7, rfl, by decide, inX7, tyX7_ok, nmX7, px_in (List.mem_of_getElem? (i := 165) (by decide +kernel)) rfl, rfl, rfl, by decide +kernel⟩
theorem flX4_44 : px_fl RX4 44 7 9 false .int := ⟨RX7, TX7, 10, tyX7, rfl, by decide, inX7, tyX7_ok, nmX7, px_in (List.mem_of_getElem? (i := 166) (by decide +kernel)) rfl, rfl, rfl, by decide +kernel⟩
theorem flX6_93 : px_fl RX6 93 7 9 false .int := ⟨RX7, TX7, 10, tyX7, rfl, by decide, inX7, tyX7_ok, nmX7, px_in (List.mem_of_getElem? (i := 167) (by decide +kernel)) rfl, rfl, rfl, by decide +kernel⟩
theorem flX2_9 : px_fl RX2 9 2 0 true (.array .int) := ⟨RX2, TX2, 7, tyX2, rfl, by decide, inX2, tyX2_ok, nmX2, px_in (List.mem_of_getElem? (i := 196) (by decide +kernel)) rfl, rfl, rfl, by decide +kernel⟩
theorem flX11_107 : px_fl RX11 107 2 0 true (.array .int) := ⟨RX2, TX2, 7, tyX2, rfl, by decide, inX2, tyX2_ok, nmX2, px_in (List.mem_of_getElem? (i := 197) (by decide +kernel)) rfl, rfl, rfl, by decide +kernel⟩
theorem flX10_39 : px_fl RX10 39 2 0 true (.array .int) := ⟨RX2, TX2, 7, tyX2, rfl, by decide, inX2, tyX2_ok, nmX2, px_in (List.mem_of_getElem? (i := 198) (by decide +kernel)) rfl, rfl, rfl, by decide +kernel⟩
theorem flX9_54 : px_fl RX9 54 2 0 true (.array .int) := ⟨RX2, TX2, 7, tyX2, rfl, by decide, inX2, tyX2_ok, nmX2, px_in (List.mem_of_getElem? (i := 199) (by decide +kernel)) rfl, rfl, rfl, by decide +kernel⟩
theorem flX4_58 : px_fl RX4 58 2 0 true (.array .int) := ⟨RX2, TX2, 7, tyX2, rfl, by decide, inX2, tyX2_ok, nmX2, px_in (List.mem_of_getElem? (i := 200) (by decide +kernel)) rfl, rfl, rfl, by decide +kernel⟩
theorem flX6_110 : px_fl RX6 110 2 0 true (.array .int) := ⟨RX2, TX2, 7, tyX2, rfl, by decide, inX2, tyX2_ok, nmX2, px_in (List.mem_of_getElem? (i := 201) (by decide +kernel)) rfl, rfl, rfl, by decide +kernel⟩
theorem flX2_15 : px_fl RX2 15 2 1 true (.array .int) := ⟨RX2, TX2, 7, tyX2, rfl, by decide, inX2, tyX2_ok, nmX2, px_in (List.mem_of_getElem? (i := 202) (by decide +kernel)) rfl, rfl, rfl, by decide +kernel⟩
theorem flX4_76 : px_fl RX4 76 2 1 true (.array .int) := ⟨RX2, TX2, 7, tyX2, rfl, by decide, inX2, tyX2_ok, nmX2, px_in (List.mem_of_getElem? (i := 203) (by decide +kernel)) rfl, rfl, rfl, by decide +kernel⟩
theorem flX2_18 : px_fl RX2 18 2 2 true (.array .int) := ⟨RX2, TX2, 7, tyX2, rfl, by decide, inX2, tyX2_ok, nmX2, px_in (List.mem_of_getElem? (i := 204) (by decide +kernel)) rfl, rfl, rfl, by decide +kernel⟩
theorem flX4_79 : px_fl RX4 79 2 2 true (.array .int) := ⟨RX2, TX2, 7, tyX2, rfl, by decide, inX2, tyX2_ok, nmX2, px_in (List.mem_of_getElem? (i := 205) (by decide +kernel)) rfl, rfl, rfl, by decide +kernel⟩
theorem flX2_21 : px_fl RX2 21 2 3 true (.array .int) := ⟨RX2, TX2, 7, tyX2, rfl, by decide, inX2, tyX2_ok, nmX2, px_in (List.mem_of_getElem? (i := 206) (by decide +kernel)) rfl, rfl, rfl, by decide +kernel⟩
theorem flX11_216 : px_fl RX11 216 2 3 true (.array .int) := ⟨RX2, TX2, 7, tyX2, rfl, by decide, inX2, tyX2_ok, nmX2, px_in (List.mem_of_getElem? (i := 207) (by decide +kernel)) rfl, rfl, rfl, by decide +kernel⟩
theorem flX2_43 : px_fl RX2 43 2 4 false .int := ⟨RX2, TX2, 7, tyX2, rfl, by decide, inX2, tyX2_ok, nmX2, px_in (List.mem_of_getElem? (i := 208) (by decide +kernel)) rfl, rfl, rfl, by decide +kernel⟩
theorem flX10_42 : px_fl RX10 42 2 4 false .int := ⟨RX2, TX2, 7, tyX2, rfl, by decide, inX2, tyX2_ok, nmX2, px_in (List.mem_of_getElem? (i := 209) (by decide +kernel)) rfl, rfl, rfl, by decide +kernel⟩
theorem flX4_35 : px_fl RX4 35 2 4 false .int := ⟨RX2, TX2, 7, tyX2, rfl, by decide, inX2, tyX2_ok, nmX2, px_in (List.mem_of_getElem? (i := 210) (by decide +kernel)) rfl, rfl, rfl, by decide +kernel⟩
theorem flX11_207 : px_fl RX11 207 2 4 false .int := ⟨RX2, TX2, 7, tyX2, rfl, by decide, inX2, tyX2_ok, nmX2, px_in (List.mem_of_getElem? (i := 211) (by decide +kernel)) rfl, rfl, rfl, by decide +kernel⟩
theorem flX2_47 : px_fl RX2 47 2 5 false .int := ⟨RX2, TX2, 7, tyX2, rfl, by decide, inX2, tyX2_ok, nmX2, px_in (List.mem_of_getElem? (i := 212) (by decide +kernel)) rfl, rfl, rfl, by decide +kernel⟩
theorem flX6_72 : px_fl RX6 72 2 5 false .int := ⟨RX2, TX2, 7, tyX2, rfl, by decide, inX2, tyX2_ok, nmX2, px_in (List.mem_of_getElem? (i := 213) (by decide +kernel)) rfl, rfl, rfl, by decide +kernel⟩
theorem flX4_47 : px_fl RX4 47 2 5 false .int := ⟨RX2, TX2, 7, tyX2, rfl, by decide, inX2, tyX2_ok, nmX2, px_in (List.mem_of_getElem? (i := 214) (by decide +kernel)) rfl, rfl, rfl, by decide +kernel⟩
theorem flX2_24 : px_fl RX2 24 2 6 true (.object "GladSide$Street") := ⟨RX2, TX2, 7, tyX2, rfl, by decide, inX2, tyX2_ok, nmX2, px_in (List.mem_of_getElem? (i := 215) (by decide +kernel)) rfl, rfl, rfl, by decide +kernel⟩
theorem flX4_9 : px_fl RX4 9 4 0 true (.object "GladSide$Street") := ⟨RX4, TX4, 2, tyX4, rfl, by decide, inX4, tyX4_ok, nmX4, px_in (List.mem_of_getElem? (i := 237) (by decide +kernel)) rfl, rfl, rfl, by decide +kernel⟩
theorem flX4_15 : px_fl RX4 15 4 1 true (.object "GladSide$Course") := ⟨RX4, TX4, 2, tyX4, rfl, by decide, inX4, tyX4_ok, nmX4, px_in (List.mem_of_getElem? (i := 238) (by decide +kernel)) rfl, rfl, rfl, by decide +kernel⟩
theorem flX3_9 : px_fl RX3 9 3 0 true (.array .int) := ⟨RX3, TX3, 5, tyX3, rfl, by decide, inX3, tyX3_ok, nmX3, px_in (List.mem_of_getElem? (i := 250) (by decide +kernel)) rfl, rfl, rfl, by decide +kernel⟩
theorem flX6_63 : px_fl RX6 63 3 0 true (.array .int) := ⟨RX3, TX3, 5, tyX3, rfl, by decide, inX3, tyX3_ok, nmX3, px_in (List.mem_of_getElem? (i := 251) (by decide +kernel)) rfl, rfl, rfl, by decide +kernel⟩
theorem flX3_13 : px_fl RX3 13 3 1 true (.array .int) := ⟨RX3, TX3, 5, tyX3, rfl, by decide, inX3, tyX3_ok, nmX3, px_in (List.mem_of_getElem? (i := 252) (by decide +kernel)) rfl, rfl, rfl, by decide +kernel⟩
theorem flX3_16 : px_fl RX3 16 3 2 true (.array .int) := ⟨RX3, TX3, 5, tyX3, rfl, by decide, inX3, tyX3_ok, nmX3, px_in (List.mem_of_getElem? (i := 253) (by decide +kernel)) rfl, rfl, rfl, by decide +kernel⟩
theorem flX3_19 : px_fl RX3 19 3 3 true (.array .int) := ⟨RX3, TX3, 5, tyX3, rfl, by decide, inX3, tyX3_ok, nmX3, px_in (List.mem_of_getElem? (i := 254) (by decide +kernel)) rfl, rfl, rfl, by decide +kernel⟩
theorem flX3_22 : px_fl RX3 22 3 4 false .int := ⟨RX3, TX3, 5, tyX3, rfl, by decide, inX3, tyX3_ok, nmX3, px_in (List.mem_of_getElem? (i := 255) (by decide +kernel)) rfl, rfl, rfl, by decide +kernel⟩
theorem flX5_11 : px_fl RX5 11 5 0 true (.array .int) := ⟨RX5, TX5, 3, tyX5, rfl, by decide, inX5, tyX5_ok, nmX5, px_in (List.mem_of_getElem? (i := 273) (by decide +kernel)) rfl, rfl, rfl, by decide +kernel⟩
theorem flX5_15 : px_fl RX5 15 5 1 true (.array .int) := ⟨RX5, TX5, 3, tyX5, rfl, by decide, inX5, tyX5_ok, nmX5, px_in (List.mem_of_getElem? (i := 274) (by decide +kernel)) rfl, rfl, rfl, by decide +kernel⟩
theorem flX5_18 : px_fl RX5 18 5 2 true (.array .long) := ⟨RX5, TX5, 3, tyX5, rfl, by decide, inX5, tyX5_ok, nmX5, px_in (List.mem_of_getElem? (i := 275) (by decide +kernel)) rfl, rfl, rfl, by decide +kernel⟩
theorem flX1_9 : px_fl RX1 9 1 0 true (.array .int) := ⟨RX1, TX1, 7, tyX1, rfl, by decide, inX1, tyX1_ok, nmX1, px_in (List.mem_of_getElem? (i := 290) (by decide +kernel)) rfl, rfl, rfl, by decide +kernel⟩
theorem flX1_13 : px_fl RX1 13 1 1 true (.array .int) := ⟨RX1, TX1, 7, tyX1, rfl, by decide, inX1, tyX1_ok, nmX1, px_in (List.mem_of_getElem? (i := 291) (by decide +kernel)) rfl, rfl, rfl, by decide +kernel⟩
theorem flX1_16 : px_fl RX1 16 1 2 true (.array .int) := ⟨RX1, TX1, 7, tyX1, rfl, by decide, inX1, tyX1_ok, nmX1, px_in (List.mem_of_getElem? (i := 292) (by decide +kernel)) rfl, rfl, rfl, by decide +kernel⟩
theorem flX1_19 : px_fl RX1 19 1 3 true (.array .int) := ⟨RX1, TX1, 7, tyX1, rfl, by decide, inX1, tyX1_ok, nmX1, px_in (List.mem_of_getElem? (i := 293) (by decide +kernel)) rfl, rfl, rfl, by decide +kernel⟩
theorem flX1_22 : px_fl RX1 22 1 4 true (.object "GladSide$Numbers") := ⟨RX1, TX1, 7, tyX1, rfl, by decide, inX1, tyX1_ok, nmX1, px_in (List.mem_of_getElem? (i := 294) (by decide +kernel)) rfl, rfl, rfl, by decide +kernel⟩
theorem flX1_26 : px_fl RX1 26 1 5 false .int := ⟨RX1, TX1, 7, tyX1, rfl, by decide, inX1, tyX1_ok, nmX1, px_in (List.mem_of_getElem? (i := 295) (by decide +kernel)) rfl, rfl, rfl, by decide +kernel⟩
theorem flX11_301 : px_fl RX11 301 1 5 false .int := ⟨RX1, TX1, 7, tyX1, rfl, by decide, inX1, tyX1_ok, nmX1, px_in (List.mem_of_getElem? (i := 296) (by decide +kernel)) rfl, rfl, rfl, by decide +kernel⟩
theorem flX1_33 : px_fl RX1 33 1 6 false .int := ⟨RX1, TX1, 7, tyX1, rfl, by decide, inX1, tyX1_ok, nmX1, px_in (List.mem_of_getElem? (i := 297) (by decide +kernel)) rfl, rfl, rfl, by decide +kernel⟩
theorem flX11_307 : px_fl RX11 307 1 6 false .int := ⟨RX1, TX1, 7, tyX1, rfl, by decide, inX1, tyX1_ok, nmX1, px_in (List.mem_of_getElem? (i := 298) (by decide +kernel)) rfl, rfl, rfl, by decide +kernel⟩
theorem flX8_10 : px_fl RX8 10 8 0 true (.object "GladSide$Law") := ⟨RX8, TX8, 5, tyX8, rfl, by decide, inX8, tyX8_ok, nmX8, px_in (List.mem_of_getElem? (i := 322) (by decide +kernel)) rfl, rfl, rfl, by decide +kernel⟩
theorem flX11_176 : px_fl RX11 176 8 0 true (.object "GladSide$Law") := ⟨RX8, TX8, 5, tyX8, rfl, by decide, inX8, tyX8_ok, nmX8, px_in (List.mem_of_getElem? (i := 323) (by decide +kernel)) rfl, rfl, rfl, by decide +kernel⟩
theorem flX8_16 : px_fl RX8 16 8 1 true (.array .int) := ⟨RX8, TX8, 5, tyX8, rfl, by decide, inX8, tyX8_ok, nmX8, px_in (List.mem_of_getElem? (i := 324) (by decide +kernel)) rfl, rfl, rfl, by decide +kernel⟩
theorem flX8_20 : px_fl RX8 20 8 2 false .int := ⟨RX8, TX8, 5, tyX8, rfl, by decide, inX8, tyX8_ok, nmX8, px_in (List.mem_of_getElem? (i := 325) (by decide +kernel)) rfl, rfl, rfl, by decide +kernel⟩
theorem flX11_169 : px_fl RX11 169 8 2 false .int := ⟨RX8, TX8, 5, tyX8, rfl, by decide, inX8, tyX8_ok, nmX8, px_in (List.mem_of_getElem? (i := 326) (by decide +kernel)) rfl, rfl, rfl, by decide +kernel⟩
theorem flX8_24 : px_fl RX8 24 8 3 false .int := ⟨RX8, TX8, 5, tyX8, rfl, by decide, inX8, tyX8_ok, nmX8, px_in (List.mem_of_getElem? (i := 327) (by decide +kernel)) rfl, rfl, rfl, by decide +kernel⟩
theorem flX8_27 : px_fl RX8 27 8 4 false .boolean := ⟨RX8, TX8, 5, tyX8, rfl, by decide, inX8, tyX8_ok, nmX8, px_in (List.mem_of_getElem? (i := 328) (by decide +kernel)) rfl, rfl, rfl, by decide +kernel⟩
theorem flX6_15 : px_fl RX6 15 6 0 true (.object "GladSide$Street") := ⟨RX6, TX6, 4, tyX6, rfl, by decide, inX6, tyX6_ok, nmX6, px_in (List.mem_of_getElem? (i := 346) (by decide +kernel)) rfl, rfl, rfl, by decide +kernel⟩
theorem flX6_19 : px_fl RX6 19 6 1 true (.object "GladSide$Course") := ⟨RX6, TX6, 4, tyX6, rfl, by decide, inX6, tyX6_ok, nmX6, px_in (List.mem_of_getElem? (i := 347) (by decide +kernel)) rfl, rfl, rfl, by decide +kernel⟩
theorem flX6_23 : px_fl RX6 23 6 2 true (.object "GladSide$Law") := ⟨RX6, TX6, 4, tyX6, rfl, by decide, inX6, tyX6_ok, nmX6, px_in (List.mem_of_getElem? (i := 348) (by decide +kernel)) rfl, rfl, rfl, by decide +kernel⟩
theorem flX6_9 : px_fl RX6 9 6 3 true (.array .int) := ⟨RX6, TX6, 4, tyX6, rfl, by decide, inX6, tyX6_ok, nmX6, px_in (List.mem_of_getElem? (i := 349) (by decide +kernel)) rfl, rfl, rfl, by decide +kernel⟩
theorem flX9_9 : px_fl RX9 9 9 0 true (.object "GladSide$Street") := ⟨RX9, TX9, 6, tyX9, rfl, by decide, inX9, tyX9_ok, nmX9, px_in (List.mem_of_getElem? (i := 367) (by decide +kernel)) rfl, rfl, rfl, by decide +kernel⟩
theorem flX9_15 : px_fl RX9 15 9 1 true (.object "GladSide$Course") := ⟨RX9, TX9, 6, tyX9, rfl, by decide, inX9, tyX9_ok, nmX9, px_in (List.mem_of_getElem? (i := 368) (by decide +kernel)) rfl, rfl, rfl, by decide +kernel⟩
theorem flX9_28 : px_fl RX9 28 9 2 true (.object "GladSide$Course") := ⟨RX9, TX9, 6, tyX9, rfl, by decide, inX9, tyX9_ok, nmX9, px_in (List.mem_of_getElem? (i := 369) (by decide +kernel)) rfl, rfl, rfl, by decide +kernel⟩
theorem flX9_19 : px_fl RX9 19 9 3 true (.object "GladSide$Shelves") := ⟨RX9, TX9, 6, tyX9, rfl, by decide, inX9, tyX9_ok, nmX9, px_in (List.mem_of_getElem? (i := 370) (by decide +kernel)) rfl, rfl, rfl, by decide +kernel⟩
theorem flX9_70 : px_fl RX9 70 9 4 false .int := ⟨RX9, TX9, 6, tyX9, rfl, by decide, inX9, tyX9_ok, nmX9, px_in (List.mem_of_getElem? (i := 371) (by decide +kernel)) rfl, rfl, rfl, by decide +kernel⟩
theorem flX11_229 : px_fl RX11 229 9 4 false .int := ⟨RX9, TX9, 6, tyX9, rfl, by decide, inX9, tyX9_ok, nmX9, px_in (List.mem_of_getElem? (i := 372) (by decide +kernel)) rfl, rfl, rfl, by decide +kernel⟩
theorem flX9_73 : px_fl RX9 73 9 5 false .int := ⟨RX9, TX9, 6, tyX9, rfl, by decide, inX9, tyX9_ok, nmX9, px_in (List.mem_of_getElem? (i := 373) (by decide +kernel)) rfl, rfl, rfl, by decide +kernel⟩
theorem flX11_232 : px_fl RX11 232 9 5 false .int := ⟨RX9, TX9, 6, tyX9, rfl, by decide, inX9, tyX9_ok, nmX9, px_in (List.mem_of_getElem? (i := 374) (by decide +kernel)) rfl, rfl, rfl, by decide +kernel⟩
theorem flX10_19 : px_fl RX10 19 10 0 true (.object "GladSide$Street") := ⟨RX10, TX10, 6, tyX10, rfl, by decide, inX10, tyX10_ok, nmX10, px_in (List.mem_of_getElem? (i := 394) (by decide +kernel)) rfl, rfl, rfl, by decide +kernel⟩
theorem flX10_23 : px_fl RX10 23 10 1 true (.object "GladSide$Course") := ⟨RX10, TX10, 6, tyX10, rfl, by decide, inX10, tyX10_ok, nmX10, px_in (List.mem_of_getElem? (i := 395) (by decide +kernel)) rfl, rfl, rfl, by decide +kernel⟩
theorem flX10_9 : px_fl RX10 9 10 2 true (.array .int) := ⟨RX10, TX10, 6, tyX10, rfl, by decide, inX10, tyX10_ok, nmX10, px_in (List.mem_of_getElem? (i := 396) (by decide +kernel)) rfl, rfl, rfl, by decide +kernel⟩
theorem flX10_15 : px_fl RX10 15 10 3 true (.array .boolean) := ⟨RX10, TX10, 6, tyX10, rfl, by decide, inX10, tyX10_ok, nmX10, px_in (List.mem_of_getElem? (i := 397) (by decide +kernel)) rfl, rfl, rfl, by decide +kernel⟩
theorem flX10_75 : px_fl RX10 75 10 4 false .int := ⟨RX10, TX10, 6, tyX10, rfl, by decide, inX10, tyX10_ok, nmX10, px_in (List.mem_of_getElem? (i := 398) (by decide +kernel)) rfl, rfl, rfl, by decide +kernel⟩
theorem flX11_268 : px_fl RX11 268 10 4 false .int := ⟨RX10, TX10, 6, tyX10, rfl, by decide, inX10, tyX10_ok, nmX10, px_in (List.mem_of_getElem? (i := 399) (by decide +kernel)) rfl, rfl, rfl, by decide +kernel⟩
theorem flX10_78 : px_fl RX10 78 10 5 false .int := ⟨RX10, TX10, 6, tyX10, rfl, by decide, inX10, tyX10_ok, nmX10, px_in (List.mem_of_getElem? (i := 400) (by decide +kernel)) rfl, rfl, rfl, by decide +kernel⟩
theorem flX11_271 : px_fl RX11 271 10 5 false .int := ⟨RX10, TX10, 6, tyX10, rfl, by decide, inX10, tyX10_ok, nmX10, px_in (List.mem_of_getElem? (i := 401) (by decide +kernel)) rfl, rfl, rfl, by decide +kernel⟩
theorem flX0_11 : px_fl RX0 11 0 0 true (.array .int) := ⟨RX0, TX0, 5, tyX0, rfl, by decide, inX0, tyX0_ok, nmX0, px_in (List.mem_of_getElem? (i := 422) (by decide +kernel)) rfl, rfl, rfl, by decide +kernel⟩
theorem flX11_364 : px_fl RX11 364 0 0 true (.array .int) := ⟨RX0, TX0, 5, tyX0, rfl, by decide, inX0, tyX0_ok, nmX0, px_in (List.mem_of_getElem? (i := 423) (by decide +kernel)) rfl, rfl, rfl, by decide +kernel⟩
theorem flX0_15 : px_fl RX0 15 0 1 true (.array .int) := ⟨RX0, TX0, 5, tyX0, rfl, by decide, inX0, tyX0_ok, nmX0, px_in (List.mem_of_getElem? (i := 424) (by decide +kernel)) rfl, rfl, rfl, by decide +kernel⟩
theorem flX11_319 : px_fl RX11 319 0 1 true (.array .int) := ⟨RX0, TX0, 5, tyX0, rfl, by decide, inX0, tyX0_ok, nmX0, px_in (List.mem_of_getElem? (i := 425) (by decide +kernel)) rfl, rfl, rfl, by decide +kernel⟩
theorem flX0_18 : px_fl RX0 18 0 2 false .int := ⟨RX0, TX0, 5, tyX0, rfl, by decide, inX0, tyX0_ok, nmX0, px_in (List.mem_of_getElem? (i := 426) (by decide +kernel)) rfl, rfl, rfl, by decide +kernel⟩
theorem flX11_370 : px_fl RX11 370 0 2 false .int := ⟨RX0, TX0, 5, tyX0, rfl, by decide, inX0, tyX0_ok, nmX0, px_in (List.mem_of_getElem? (i := 427) (by decide +kernel)) rfl, rfl, rfl, by decide +kernel⟩
theorem flX0_22 : px_fl RX0 22 0 3 false .int := ⟨RX0, TX0, 5, tyX0, rfl, by decide, inX0, tyX0_ok, nmX0, px_in (List.mem_of_getElem? (i := 428) (by decide +kernel)) rfl, rfl, rfl, by decide +kernel⟩
theorem flX11_373 : px_fl RX11 373 0 3 false .int := ⟨RX0, TX0, 5, tyX0, rfl, by decide, inX0, tyX0_ok, nmX0, px_in (List.mem_of_getElem? (i := 429) (by decide +kernel)) rfl, rfl, rfl, by decide +kernel⟩
theorem flX0_38 : px_fl RX0 38 0 4 false .int := ⟨RX0, TX0, 5, tyX0, rfl, by decide, inX0, tyX0_ok, nmX0, px_in (List.mem_of_getElem? (i := 430) (by decide +kernel)) rfl, rfl, rfl, by decide +kernel⟩
theorem flX11_26 : px_fl RX11 26 11 0 true (.object "GladSide$Street") := ⟨RX11, TX11, 15, tyX11, rfl, by decide, inX11, tyX11_ok, nmX11, px_in (List.mem_of_getElem? (i := 442) (by decide +kernel)) rfl, rfl, rfl, by decide +kernel⟩
theorem flX11_32 : px_fl RX11 32 11 1 true (.object "GladSide$Course") := ⟨RX11, TX11, 15, tyX11, rfl, by decide, inX11, tyX11_ok, nmX11, px_in (List.mem_of_getElem? (i := 443) (by decide +kernel)) rfl, rfl, rfl, by decide +kernel⟩
theorem flX11_36 : px_fl RX11 36 11 2 true (.object "GladSide$Course") := ⟨RX11, TX11, 15, tyX11, rfl, by decide, inX11, tyX11_ok, nmX11, px_in (List.mem_of_getElem? (i := 444) (by decide +kernel)) rfl, rfl, rfl, by decide +kernel⟩
theorem flX11_39 : px_fl RX11 39 11 3 true (.object "GladSide$Numbers") := ⟨RX11, TX11, 15, tyX11, rfl, by decide, inX11, tyX11_ok, nmX11, px_in (List.mem_of_getElem? (i := 445) (by decide +kernel)) rfl, rfl, rfl, by decide +kernel⟩
theorem flX11_48 : px_fl RX11 48 11 4 true (.object "GladSide$Changes") := ⟨RX11, TX11, 15, tyX11, rfl, by decide, inX11, tyX11_ok, nmX11, px_in (List.mem_of_getElem? (i := 446) (by decide +kernel)) rfl, rfl, rfl, by decide +kernel⟩
theorem flX11_55 : px_fl RX11 55 11 5 true (.object "GladSide$Tape") := ⟨RX11, TX11, 15, tyX11, rfl, by decide, inX11, tyX11_ok, nmX11, px_in (List.mem_of_getElem? (i := 447) (by decide +kernel)) rfl, rfl, rfl, by decide +kernel⟩
theorem flX11_59 : px_fl RX11 59 11 6 true (.object "GladSide$Law") := ⟨RX11, TX11, 15, tyX11, rfl, by decide, inX11, tyX11_ok, nmX11, px_in (List.mem_of_getElem? (i := 448) (by decide +kernel)) rfl, rfl, rfl, by decide +kernel⟩
theorem flX11_68 : px_fl RX11 68 11 7 true (.object "GladSide$Smells") := ⟨RX11, TX11, 15, tyX11, rfl, by decide, inX11, tyX11_ok, nmX11, px_in (List.mem_of_getElem? (i := 449) (by decide +kernel)) rfl, rfl, rfl, by decide +kernel⟩
theorem flX11_77 : px_fl RX11 77 11 8 true (.object "GladSide$Thought") := ⟨RX11, TX11, 15, tyX11, rfl, by decide, inX11, tyX11_ok, nmX11, px_in (List.mem_of_getElem? (i := 450) (by decide +kernel)) rfl, rfl, rfl, by decide +kernel⟩
theorem flX11_84 : px_fl RX11 84 11 9 true (.object "GladSide$Votes") := ⟨RX11, TX11, 15, tyX11, rfl, by decide, inX11, tyX11_ok, nmX11, px_in (List.mem_of_getElem? (i := 451) (by decide +kernel)) rfl, rfl, rfl, by decide +kernel⟩
theorem flX11_91 : px_fl RX11 91 11 10 true (.object "GladSide$Acts") := ⟨RX11, TX11, 15, tyX11, rfl, by decide, inX11, tyX11_ok, nmX11, px_in (List.mem_of_getElem? (i := 452) (by decide +kernel)) rfl, rfl, rfl, by decide +kernel⟩
theorem flX11_95 : px_fl RX11 95 11 11 true (.object "GladSide$Shelves") := ⟨RX11, TX11, 15, tyX11, rfl, by decide, inX11, tyX11_ok, nmX11, px_in (List.mem_of_getElem? (i := 453) (by decide +kernel)) rfl, rfl, rfl, by decide +kernel⟩
theorem flX11_284 : px_fl RX11 284 11 12 false .boolean := ⟨RX11, TX11, 15, tyX11, rfl, by decide, inX11, tyX11_ok, nmX11, px_in (List.mem_of_getElem? (i := 454) (by decide +kernel)) rfl, rfl, rfl, by decide +kernel⟩
theorem flX11_288 : px_fl RX11 288 11 13 false .int := ⟨RX11, TX11, 15, tyX11, rfl, by decide, inX11, tyX11_ok, nmX11, px_in (List.mem_of_getElem? (i := 455) (by decide +kernel)) rfl, rfl, rfl, by decide +kernel⟩
theorem flX11_291 : px_fl RX11 291 11 14 false .int := ⟨RX11, TX11, 15, tyX11, rfl, by decide, inX11, tyX11_ok, nmX11, px_in (List.mem_of_getElem? (i := 456) (by decide +kernel)) rfl, rfl, rfl, by decide +kernel⟩
theorem fsX4_19 : Cond.fieldLink RX4 19 "GladSide$Numbers" "LEAST" "[I" ∈ px_tbl := px_in (List.mem_of_getElem? (i := 550) (by decide +kernel)) rfl
theorem fsX4_23 : Cond.fieldLink RX4 23 "GladSide$Numbers" "MOST" "[I" ∈ px_tbl := px_in (List.mem_of_getElem? (i := 552) (by decide +kernel)) rfl
theorem fsX0_49 : Cond.fieldLink RX0 49 "GladSide$Acts" "OWN" "[I" ∈ px_tbl := px_in (List.mem_of_getElem? (i := 1047) (by decide +kernel)) rfl
theorem fsX0_31 : Cond.fieldLink RX0 31 "GladSide$Acts" "ABOVE" "[I" ∈ px_tbl := px_in (List.mem_of_getElem? (i := 1049) (by decide +kernel)) rfl
theorem flX12_128 : px_fl RX12 128 12 1 false .int := ⟨RX12, TX12, 59, tyX12, rfl, by decide, inX12, tyX12_ok, nmX12, px_in (List.mem_of_getElem? (i := 1142) (by decide +kernel)) rfl, rfl, rfl, by decide +kernel⟩
theorem flX12_7 : px_fl RX12 7 12 2 true (.array .int) := ⟨RX12, TX12, 59, tyX12, rfl, by decide, inX12, tyX12_ok, nmX12, px_in (List.mem_of_getElem? (i := 1143) (by decide +kernel)) rfl, rfl, rfl, by decide +kernel⟩
theorem flX12_135 : px_fl RX12 135 12 3 false .int := ⟨RX12, TX12, 59, tyX12, rfl, by decide, inX12, tyX12_ok, nmX12, px_in (List.mem_of_getElem? (i := 1144) (by decide +kernel)) rfl, rfl, rfl, by decide +kernel⟩
theorem flX12_13 : px_fl RX12 13 12 4 true (.array .int) := ⟨RX12, TX12, 59, tyX12, rfl, by decide, inX12, tyX12_ok, nmX12, px_in (List.mem_of_getElem? (i := 1145) (by decide +kernel)) rfl, rfl, rfl, by decide +kernel⟩
theorem flX12_16 : px_fl RX12 16 12 5 true (.array .int) := ⟨RX12, TX12, 59, tyX12, rfl, by decide, inX12, tyX12_ok, nmX12, px_in (List.mem_of_getElem? (i := 1146) (by decide +kernel)) rfl, rfl, rfl, by decide +kernel⟩
theorem flX12_19 : px_fl RX12 19 12 6 true (.array .int) := ⟨RX12, TX12, 59, tyX12, rfl, by decide, inX12, tyX12_ok, nmX12, px_in (List.mem_of_getElem? (i := 1147) (by decide +kernel)) rfl, rfl, rfl, by decide +kernel⟩
theorem flX12_22 : px_fl RX12 22 12 7 true (.array .int) := ⟨RX12, TX12, 59, tyX12, rfl, by decide, inX12, tyX12_ok, nmX12, px_in (List.mem_of_getElem? (i := 1148) (by decide +kernel)) rfl, rfl, rfl, by decide +kernel⟩
theorem flX12_25 : px_fl RX12 25 12 8 true (.array .int) := ⟨RX12, TX12, 59, tyX12, rfl, by decide, inX12, tyX12_ok, nmX12, px_in (List.mem_of_getElem? (i := 1149) (by decide +kernel)) rfl, rfl, rfl, by decide +kernel⟩
theorem flX12_28 : px_fl RX12 28 12 9 true (.array .int) := ⟨RX12, TX12, 59, tyX12, rfl, by decide, inX12, tyX12_ok, nmX12, px_in (List.mem_of_getElem? (i := 1150) (by decide +kernel)) rfl, rfl, rfl, by decide +kernel⟩
theorem flX12_31 : px_fl RX12 31 12 10 true (.array .int) := ⟨RX12, TX12, 59, tyX12, rfl, by decide, inX12, tyX12_ok, nmX12, px_in (List.mem_of_getElem? (i := 1151) (by decide +kernel)) rfl, rfl, rfl, by decide +kernel⟩
theorem flX12_34 : px_fl RX12 34 12 11 true (.array .int) := ⟨RX12, TX12, 59, tyX12, rfl, by decide, inX12, tyX12_ok, nmX12, px_in (List.mem_of_getElem? (i := 1152) (by decide +kernel)) rfl, rfl, rfl, by decide +kernel⟩
theorem flX12_37 : px_fl RX12 37 12 12 true (.array .int) := ⟨RX12, TX12, 59, tyX12, rfl, by decide, inX12, tyX12_ok, nmX12, px_in (List.mem_of_getElem? (i := 1153) (by decide +kernel)) rfl, rfl, rfl, by decide +kernel⟩
theorem flX12_161 : px_fl RX12 161 12 13 false .int := ⟨RX12, TX12, 59, tyX12, rfl, by decide, inX12, tyX12_ok, nmX12, px_in (List.mem_of_getElem? (i := 1154) (by decide +kernel)) rfl, rfl, rfl, by decide +kernel⟩
theorem flX12_158 : px_fl RX12 158 12 14 false .int := ⟨RX12, TX12, 59, tyX12, rfl, by decide, inX12, tyX12_ok, nmX12, px_in (List.mem_of_getElem? (i := 1155) (by decide +kernel)) rfl, rfl, rfl, by decide +kernel⟩
theorem flX12_40 : px_fl RX12 40 12 15 true (.array .int) := ⟨RX12, TX12, 59, tyX12, rfl, by decide, inX12, tyX12_ok, nmX12, px_in (List.mem_of_getElem? (i := 1156) (by decide +kernel)) rfl, rfl, rfl, by decide +kernel⟩
theorem flX12_43 : px_fl RX12 43 12 16 true (.array .int) := ⟨RX12, TX12, 59, tyX12, rfl, by decide, inX12, tyX12_ok, nmX12, px_in (List.mem_of_getElem? (i := 1157) (by decide +kernel)) rfl, rfl, rfl, by decide +kernel⟩
theorem flX12_46 : px_fl RX12 46 12 17 true (.array .int) := ⟨RX12, TX12, 59, tyX12, rfl, by decide, inX12, tyX12_ok, nmX12, px_in (List.mem_of_getElem? (i := 1158) (by decide +kernel)) rfl, rfl, rfl, by decide +kernel⟩
theorem flX12_49 : px_fl RX12 49 12 18 true (.array .int) := ⟨RX12, TX12, 59, tyX12, rfl, by decide, inX12, tyX12_ok, nmX12, px_in (List.mem_of_getElem? (i := 1159) (by decide +kernel)) rfl, rfl, rfl, by decide +kernel⟩
theorem flX12_52 : px_fl RX12 52 12 19 true (.array .byte) := ⟨RX12, TX12, 59, tyX12, rfl, by decide, inX12, tyX12_ok, nmX12, px_in (List.mem_of_getElem? (i := 1160) (by decide +kernel)) rfl, rfl, rfl, by decide +kernel⟩
theorem flX12_184 : px_fl RX12 184 12 20 false .int := ⟨RX12, TX12, 59, tyX12, rfl, by decide, inX12, tyX12_ok, nmX12, px_in (List.mem_of_getElem? (i := 1161) (by decide +kernel)) rfl, rfl, rfl, by decide +kernel⟩
theorem flX12_187 : px_fl RX12 187 12 21 false .int := ⟨RX12, TX12, 59, tyX12, rfl, by decide, inX12, tyX12_ok, nmX12, px_in (List.mem_of_getElem? (i := 1162) (by decide +kernel)) rfl, rfl, rfl, by decide +kernel⟩
theorem flX12_190 : px_fl RX12 190 12 22 false .int := ⟨RX12, TX12, 59, tyX12, rfl, by decide, inX12, tyX12_ok, nmX12, px_in (List.mem_of_getElem? (i := 1163) (by decide +kernel)) rfl, rfl, rfl, by decide +kernel⟩
theorem flX12_196 : px_fl RX12 196 12 23 false .int := ⟨RX12, TX12, 59, tyX12, rfl, by decide, inX12, tyX12_ok, nmX12, px_in (List.mem_of_getElem? (i := 1164) (by decide +kernel)) rfl, rfl, rfl, by decide +kernel⟩
theorem flX12_193 : px_fl RX12 193 12 24 false .int := ⟨RX12, TX12, 59, tyX12, rfl, by decide, inX12, tyX12_ok, nmX12, px_in (List.mem_of_getElem? (i := 1165) (by decide +kernel)) rfl, rfl, rfl, by decide +kernel⟩
theorem flX12_56 : px_fl RX12 56 12 25 true (.array .byte) := ⟨RX12, TX12, 59, tyX12, rfl, by decide, inX12, tyX12_ok, nmX12, px_in (List.mem_of_getElem? (i := 1166) (by decide +kernel)) rfl, rfl, rfl, by decide +kernel⟩
theorem flX12_59 : px_fl RX12 59 12 26 true (.array .int) := ⟨RX12, TX12, 59, tyX12, rfl, by decide, inX12, tyX12_ok, nmX12, px_in (List.mem_of_getElem? (i := 1167) (by decide +kernel)) rfl, rfl, rfl, by decide +kernel⟩
theorem flX12_62 : px_fl RX12 62 12 27 true (.array .int) := ⟨RX12, TX12, 59, tyX12, rfl, by decide, inX12, tyX12_ok, nmX12, px_in (List.mem_of_getElem? (i := 1168) (by decide +kernel)) rfl, rfl, rfl, by decide +kernel⟩
theorem flX12_65 : px_fl RX12 65 12 28 true (.array .short) := ⟨RX12, TX12, 59, tyX12, rfl, by decide, inX12, tyX12_ok, nmX12, px_in (List.mem_of_getElem? (i := 1169) (by decide +kernel)) rfl, rfl, rfl, by decide +kernel⟩
theorem flX12_69 : px_fl RX12 69 12 29 true (.array .short) := ⟨RX12, TX12, 59, tyX12, rfl, by decide, inX12, tyX12_ok, nmX12, px_in (List.mem_of_getElem? (i := 1170) (by decide +kernel)) rfl, rfl, rfl, by decide +kernel⟩
theorem flX12_72 : px_fl RX12 72 12 30 true (.array .int) := ⟨RX12, TX12, 59, tyX12, rfl, by decide, inX12, tyX12_ok, nmX12, px_in (List.mem_of_getElem? (i := 1171) (by decide +kernel)) rfl, rfl, rfl, by decide +kernel⟩
theorem flX12_75 : px_fl RX12 75 12 31 true (.array .int) := ⟨RX12, TX12, 59, tyX12, rfl, by decide, inX12, tyX12_ok, nmX12, px_in (List.mem_of_getElem? (i := 1172) (by decide +kernel)) rfl, rfl, rfl, by decide +kernel⟩
theorem flX12_251 : px_fl RX12 251 12 32 false .boolean := ⟨RX12, TX12, 59, tyX12, rfl, by decide, inX12, tyX12_ok, nmX12, px_in (List.mem_of_getElem? (i := 1173) (by decide +kernel)) rfl, rfl, rfl, by decide +kernel⟩
theorem flX12_78 : px_fl RX12 78 12 33 true (.array .int) := ⟨RX12, TX12, 59, tyX12, rfl, by decide, inX12, tyX12_ok, nmX12, px_in (List.mem_of_getElem? (i := 1174) (by decide +kernel)) rfl, rfl, rfl, by decide +kernel⟩
theorem flX12_81 : px_fl RX12 81 12 34 true (.array .int) := ⟨RX12, TX12, 59, tyX12, rfl, by decide, inX12, tyX12_ok, nmX12, px_in (List.mem_of_getElem? (i := 1175) (by decide +kernel)) rfl, rfl, rfl, by decide +kernel⟩
theorem flX12_84 : px_fl RX12 84 12 35 true (.array .int) := ⟨RX12, TX12, 59, tyX12, rfl, by decide, inX12, tyX12_ok, nmX12, px_in (List.mem_of_getElem? (i := 1176) (by decide +kernel)) rfl, rfl, rfl, by decide +kernel⟩
theorem flX12_255 : px_fl RX12 255 12 36 false .int := ⟨RX12, TX12, 59, tyX12, rfl, by decide, inX12, tyX12_ok, nmX12, px_in (List.mem_of_getElem? (i := 1177) (by decide +kernel)) rfl, rfl, rfl, by decide +kernel⟩
theorem flX12_258 : px_fl RX12 258 12 37 false .int := ⟨RX12, TX12, 59, tyX12, rfl, by decide, inX12, tyX12_ok, nmX12, px_in (List.mem_of_getElem? (i := 1178) (by decide +kernel)) rfl, rfl, rfl, by decide +kernel⟩
theorem flX12_261 : px_fl RX12 261 12 38 false .int := ⟨RX12, TX12, 59, tyX12, rfl, by decide, inX12, tyX12_ok, nmX12, px_in (List.mem_of_getElem? (i := 1179) (by decide +kernel)) rfl, rfl, rfl, by decide +kernel⟩
theorem flX12_264 : px_fl RX12 264 12 39 false .int := ⟨RX12, TX12, 59, tyX12, rfl, by decide, inX12, tyX12_ok, nmX12, px_in (List.mem_of_getElem? (i := 1180) (by decide +kernel)) rfl, rfl, rfl, by decide +kernel⟩
theorem flX12_87 : px_fl RX12 87 12 40 true (.array .int) := ⟨RX12, TX12, 59, tyX12, rfl, by decide, inX12, tyX12_ok, nmX12, px_in (List.mem_of_getElem? (i := 1181) (by decide +kernel)) rfl, rfl, rfl, by decide +kernel⟩
theorem flX12_90 : px_fl RX12 90 12 41 true (.array .int) := ⟨RX12, TX12, 59, tyX12, rfl, by decide, inX12, tyX12_ok, nmX12, px_in (List.mem_of_getElem? (i := 1182) (by decide +kernel)) rfl, rfl, rfl, by decide +kernel⟩
theorem flX12_368 : px_fl RX12 368 12 42 false .boolean := ⟨RX12, TX12, 59, tyX12, rfl, by decide, inX12, tyX12_ok, nmX12, px_in (List.mem_of_getElem? (i := 1183) (by decide +kernel)) rfl, rfl, rfl, by decide +kernel⟩
theorem flX12_371 : px_fl RX12 371 12 43 false .int := ⟨RX12, TX12, 59, tyX12, rfl, by decide, inX12, tyX12_ok, nmX12, px_in (List.mem_of_getElem? (i := 1184) (by decide +kernel)) rfl, rfl, rfl, by decide +kernel⟩
theorem flX12_374 : px_fl RX12 374 12 44 false .int := ⟨RX12, TX12, 59, tyX12, rfl, by decide, inX12, tyX12_ok, nmX12, px_in (List.mem_of_getElem? (i := 1185) (by decide +kernel)) rfl, rfl, rfl, by decide +kernel⟩
theorem flX12_377 : px_fl RX12 377 12 45 false .int := ⟨RX12, TX12, 59, tyX12, rfl, by decide, inX12, tyX12_ok, nmX12, px_in (List.mem_of_getElem? (i := 1186) (by decide +kernel)) rfl, rfl, rfl, by decide +kernel⟩
theorem flX12_380 : px_fl RX12 380 12 46 false .int := ⟨RX12, TX12, 59, tyX12, rfl, by decide, inX12, tyX12_ok, nmX12, px_in (List.mem_of_getElem? (i := 1187) (by decide +kernel)) rfl, rfl, rfl, by decide +kernel⟩
theorem flX12_93 : px_fl RX12 93 12 47 true (.array .int) := ⟨RX12, TX12, 59, tyX12, rfl, by decide, inX12, tyX12_ok, nmX12, px_in (List.mem_of_getElem? (i := 1188) (by decide +kernel)) rfl, rfl, rfl, by decide +kernel⟩
theorem flX12_96 : px_fl RX12 96 12 48 true (.array .int) := ⟨RX12, TX12, 59, tyX12, rfl, by decide, inX12, tyX12_ok, nmX12, px_in (List.mem_of_getElem? (i := 1189) (by decide +kernel)) rfl, rfl, rfl, by decide +kernel⟩
theorem flX12_99 : px_fl RX12 99 12 49 true (.array .int) := ⟨RX12, TX12, 59, tyX12, rfl, by decide, inX12, tyX12_ok, nmX12, px_in (List.mem_of_getElem? (i := 1190) (by decide +kernel)) rfl, rfl, rfl, by decide +kernel⟩
theorem flX12_102 : px_fl RX12 102 12 50 true (.array .int) := ⟨RX12, TX12, 59, tyX12, rfl, by decide, inX12, tyX12_ok, nmX12, px_in (List.mem_of_getElem? (i := 1191) (by decide +kernel)) rfl, rfl, rfl, by decide +kernel⟩
theorem flX12_383 : px_fl RX12 383 12 51 false .int := ⟨RX12, TX12, 59, tyX12, rfl, by decide, inX12, tyX12_ok, nmX12, px_in (List.mem_of_getElem? (i := 1192) (by decide +kernel)) rfl, rfl, rfl, by decide +kernel⟩
theorem flX12_105 : px_fl RX12 105 12 52 true (.array .int) := ⟨RX12, TX12, 59, tyX12, rfl, by decide, inX12, tyX12_ok, nmX12, px_in (List.mem_of_getElem? (i := 1193) (by decide +kernel)) rfl, rfl, rfl, by decide +kernel⟩
theorem flX12_386 : px_fl RX12 386 12 53 false .int := ⟨RX12, TX12, 59, tyX12, rfl, by decide, inX12, tyX12_ok, nmX12, px_in (List.mem_of_getElem? (i := 1194) (by decide +kernel)) rfl, rfl, rfl, by decide +kernel⟩
theorem flX12_108 : px_fl RX12 108 12 54 true (.array .int) := ⟨RX12, TX12, 59, tyX12, rfl, by decide, inX12, tyX12_ok, nmX12, px_in (List.mem_of_getElem? (i := 1195) (by decide +kernel)) rfl, rfl, rfl, by decide +kernel⟩
theorem flX12_111 : px_fl RX12 111 12 55 true (.array .int) := ⟨RX12, TX12, 59, tyX12, rfl, by decide, inX12, tyX12_ok, nmX12, px_in (List.mem_of_getElem? (i := 1196) (by decide +kernel)) rfl, rfl, rfl, by decide +kernel⟩
theorem flX12_114 : px_fl RX12 114 12 56 true (.array .int) := ⟨RX12, TX12, 59, tyX12, rfl, by decide, inX12, tyX12_ok, nmX12, px_in (List.mem_of_getElem? (i := 1197) (by decide +kernel)) rfl, rfl, rfl, by decide +kernel⟩
theorem flX12_117 : px_fl RX12 117 12 57 true (.array .long) := ⟨RX12, TX12, 59, tyX12, rfl, by decide, inX12, tyX12_ok, nmX12, px_in (List.mem_of_getElem? (i := 1198) (by decide +kernel)) rfl, rfl, rfl, by decide +kernel⟩
theorem flX12_121 : px_fl RX12 121 12 58 true (.array .long) := ⟨RX12, TX12, 59, tyX12, rfl, by decide, inX12, tyX12_ok, nmX12, px_in (List.mem_of_getElem? (i := 1199) (by decide +kernel)) rfl, rfl, rfl, by decide +kernel⟩
theorem mlL_9 : Cond.methodLink RL 9 yX11_init ∈ px_tbl := px_in (List.mem_of_getElem? (i := 115) (by decide +kernel)) rfl
theorem mlX11_1 : Cond.methodLink RX11 1 objectInit ∈ px_tbl := px_in (List.mem_of_getElem? (i := 118) (by decide +kernel)) rfl
theorem mlX7_3 : Cond.methodLink RX7 3 objectInit ∈ px_tbl := px_in (List.mem_of_getElem? (i := 126) (by decide +kernel)) rfl
theorem mlX11_12 : Cond.methodLink RX11 12 yX2_init ∈ px_tbl := px_in (List.mem_of_getElem? (i := 192) (by decide +kernel)) rfl
theorem mlX2_3 : Cond.methodLink RX2 3 objectInit ∈ px_tbl := px_in (List.mem_of_getElem? (i := 195) (by decide +kernel)) rfl
theorem mlX11_17 : Cond.methodLink RX11 17 yX4_init ∈ px_tbl := px_in (List.mem_of_getElem? (i := 233) (by decide +kernel)) rfl
theorem mlX4_3 : Cond.methodLink RX4 3 objectInit ∈ px_tbl := px_in (List.mem_of_getElem? (i := 236) (by decide +kernel)) rfl
theorem mlX3_1 : Cond.methodLink RX3 1 objectInit ∈ px_tbl := px_in (List.mem_of_getElem? (i := 249) (by decide +kernel)) rfl
theorem mlX11_25 : Cond.methodLink RX11 25 yX5_init ∈ px_tbl := px_in (List.mem_of_getElem? (i := 269) (by decide +kernel)) rfl
theorem mlX5_3 : Cond.methodLink RX5 3 objectInit ∈ px_tbl := px_in (List.mem_of_getElem? (i := 272) (by decide +kernel)) rfl
theorem mlX11_45 : Cond.methodLink RX11 45 yX1_init ∈ px_tbl := px_in (List.mem_of_getElem? (i := 286) (by decide +kernel)) rfl
theorem mlX1_1 : Cond.methodLink RX1 1 objectInit ∈ px_tbl := px_in (List.mem_of_getElem? (i := 289) (by decide +kernel)) rfl
theorem mlX8_1 : Cond.methodLink RX8 1 objectInit ∈ px_tbl := px_in (List.mem_of_getElem? (i := 319) (by decide +kernel)) rfl
theorem mlX11_65 : Cond.methodLink RX11 65 yX6_init ∈ px_tbl := px_in (List.mem_of_getElem? (i := 342) (by decide +kernel)) rfl
theorem mlX6_3 : Cond.methodLink RX6 3 objectInit ∈ px_tbl := px_in (List.mem_of_getElem? (i := 345) (by decide +kernel)) rfl
theorem mlX11_74 : Cond.methodLink RX11 74 yX9_init ∈ px_tbl := px_in (List.mem_of_getElem? (i := 361) (by decide +kernel)) rfl
theorem mlX9_3 : Cond.methodLink RX9 3 objectInit ∈ px_tbl := px_in (List.mem_of_getElem? (i := 364) (by decide +kernel)) rfl
theorem mlX9_25 : Cond.methodLink RX9 25 yX2_init ∈ px_tbl := px_in (List.mem_of_getElem? (i := 366) (by decide +kernel)) rfl
theorem mlX11_83 : Cond.methodLink RX11 83 yX10_init ∈ px_tbl := px_in (List.mem_of_getElem? (i := 390) (by decide +kernel)) rfl
theorem mlX10_3 : Cond.methodLink RX10 3 objectInit ∈ px_tbl := px_in (List.mem_of_getElem? (i := 393) (by decide +kernel)) rfl
theorem mlX0_3 : Cond.methodLink RX0 3 objectInit ∈ px_tbl := px_in (List.mem_of_getElem? (i := 421) (by decide +kernel)) rfl
theorem mlL_13 : Cond.methodLink RL 13 yX11_person ∈ px_tbl := px_in (List.mem_of_getElem? (i := 488) (by decide +kernel)) rfl
theorem mlX11_99 : Cond.methodLink RX11 99 yX11_isWithin ∈ px_tbl := px_in (List.mem_of_getElem? (i := 492) (by decide +kernel)) rfl
theorem mlL_18 : Cond.methodLink RL 18 yX11_joy ∈ px_tbl := px_in (List.mem_of_getElem? (i := 495) (by decide +kernel)) rfl
theorem mlX11_111 : Cond.methodLink RX11 111 yX7_isPerson ∈ px_tbl := px_in (List.mem_of_getElem? (i := 499) (by decide +kernel)) rfl
theorem mlX11_118 : Cond.methodLink RX11 118 yX7_addJoy ∈ px_tbl := px_in (List.mem_of_getElem? (i := 503) (by decide +kernel)) rfl
theorem mlL_23 : Cond.methodLink RL 23 yX11_joys ∈ px_tbl := px_in (List.mem_of_getElem? (i := 507) (by decide +kernel)) rfl
theorem mlX11_122 : Cond.methodLink RX11 122 yX5_refuseBytes ∈ px_tbl := px_in (List.mem_of_getElem? (i := 511) (by decide +kernel)) rfl
theorem mlX5_32 : Cond.methodLink RX5 32 yX5_refuseRow ∈ px_tbl := px_in (List.mem_of_getElem? (i := 515) (by decide +kernel)) rfl
theorem mlX5_22 : Cond.methodLink RX5 22 yX5_isShelf ∈ px_tbl := px_in (List.mem_of_getElem? (i := 519) (by decide +kernel)) rfl
theorem mlX5_29 : Cond.methodLink RX5 29 yX5_isEmpty ∈ px_tbl := px_in (List.mem_of_getElem? (i := 522) (by decide +kernel)) rfl
theorem mlX5_26 : Cond.methodLink RX5 26 yX5_isRow ∈ px_tbl := px_in (List.mem_of_getElem? (i := 526) (by decide +kernel)) rfl
theorem mlX11_126 : Cond.methodLink RX11 126 yX11_joyFromRow ∈ px_tbl := px_in (List.mem_of_getElem? (i := 530) (by decide +kernel)) rfl
theorem mlX11_130 : Cond.methodLink RX11 130 yX5_lengthOf ∈ px_tbl := px_in (List.mem_of_getElem? (i := 534) (by decide +kernel)) rfl
theorem mlX11_133 : Cond.methodLink RX11 133 yX5_cell ∈ px_tbl := px_in (List.mem_of_getElem? (i := 538) (by decide +kernel)) rfl
theorem mlX5_36 : Cond.methodLink RX5 36 yX5_hasRun ∈ px_tbl := px_in (List.mem_of_getElem? (i := 542) (by decide +kernel)) rfl
theorem mlX5_40 : Cond.methodLink RX5 40 yX5_lengthOf ∈ px_tbl := px_in (List.mem_of_getElem? (i := 546) (by decide +kernel)) rfl
theorem mlX11_137 : Cond.methodLink RX11 137 yX4_mayBe ∈ px_tbl := px_in (List.mem_of_getElem? (i := 547) (by decide +kernel)) rfl
theorem mlX11_140 : Cond.methodLink RX11 140 yX11_joy ∈ px_tbl := px_in (List.mem_of_getElem? (i := 554) (by decide +kernel)) rfl
theorem mlX11_143 : Cond.methodLink RX11 143 yX7_isJoy ∈ px_tbl := px_in (List.mem_of_getElem? (i := 555) (by decide +kernel)) rfl
theorem mlL_28 : Cond.methodLink RL 28 yX11_mend ∈ px_tbl := px_in (List.mem_of_getElem? (i := 559) (by decide +kernel)) rfl
theorem mlX11_149 : Cond.methodLink RX11 149 yX4_isThere ∈ px_tbl := px_in (List.mem_of_getElem? (i := 563) (by decide +kernel)) rfl
theorem mlX4_26 : Cond.methodLink RX4 26 yX7_isPerson ∈ px_tbl := px_in (List.mem_of_getElem? (i := 567) (by decide +kernel)) rfl
theorem mlX4_32 : Cond.methodLink RX4 32 yX7_isJoy ∈ px_tbl := px_in (List.mem_of_getElem? (i := 568) (by decide +kernel)) rfl
theorem mlX11_152 : Cond.methodLink RX11 152 yX4_read ∈ px_tbl := px_in (List.mem_of_getElem? (i := 569) (by decide +kernel)) rfl
theorem mlX4_50 : Cond.methodLink RX4 50 yX4_isThere ∈ px_tbl := px_in (List.mem_of_getElem? (i := 573) (by decide +kernel)) rfl
theorem mlX4_54 : Cond.methodLink RX4 54 yX4_listOf ∈ px_tbl := px_in (List.mem_of_getElem? (i := 574) (by decide +kernel)) rfl
theorem mlX11_155 : Cond.methodLink RX11 155 yX1_add ∈ px_tbl := px_in (List.mem_of_getElem? (i := 578) (by decide +kernel)) rfl
theorem mlX1_30 : Cond.methodLink RX1 30 yX1_forgetOldest ∈ px_tbl := px_in (List.mem_of_getElem? (i := 582) (by decide +kernel)) rfl
theorem mlX1_36 : Cond.methodLink RX1 36 arraycopyName ∈ px_tbl := px_in (List.mem_of_getElem? (i := 586) (by decide +kernel)) rfl
theorem mlX11_159 : Cond.methodLink RX11 159 yX4_write ∈ px_tbl := px_in (List.mem_of_getElem? (i := 589) (by decide +kernel)) rfl
theorem mlL_32 : Cond.methodLink RL 32 yX11_of ∈ px_tbl := px_in (List.mem_of_getElem? (i := 593) (by decide +kernel)) rfl
theorem mlL_36 : Cond.methodLink RL 36 yX11_feed ∈ px_tbl := px_in (List.mem_of_getElem? (i := 597) (by decide +kernel)) rfl
theorem mlX11_166 : Cond.methodLink RX11 166 yX8_append ∈ px_tbl := px_in (List.mem_of_getElem? (i := 601) (by decide +kernel)) rfl
theorem mlL_40 : Cond.methodLink RL 40 yX11_law ∈ px_tbl := px_in (List.mem_of_getElem? (i := 605) (by decide +kernel)) rfl
theorem mlX11_172 : Cond.methodLink RX11 172 yX8_readLaw ∈ px_tbl := px_in (List.mem_of_getElem? (i := 609) (by decide +kernel)) rfl
theorem mlX8_31 : Cond.methodLink RX8 31 yX3_clear ∈ px_tbl := px_in (List.mem_of_getElem? (i := 613) (by decide +kernel)) rfl
theorem mlX8_34 : Cond.methodLink RX8 34 yX8_readLine ∈ px_tbl := px_in (List.mem_of_getElem? (i := 617) (by decide +kernel)) rfl
theorem mlX8_45 : Cond.methodLink RX8 45 yX8_readEither ∈ px_tbl := px_in (List.mem_of_getElem? (i := 621) (by decide +kernel)) rfl
theorem mlX8_56 : Cond.methodLink RX8 56 yX8_readBoth ∈ px_tbl := px_in (List.mem_of_getElem? (i := 625) (by decide +kernel)) rfl
theorem mlX8_59 : Cond.methodLink RX8 59 yX8_readCompared ∈ px_tbl := px_in (List.mem_of_getElem? (i := 629) (by decide +kernel)) rfl
theorem mlX8_62 : Cond.methodLink RX8 62 yX8_readSum ∈ px_tbl := px_in (List.mem_of_getElem? (i := 633) (by decide +kernel)) rfl
theorem mlX8_65 : Cond.methodLink RX8 65 yX8_readProduct ∈ px_tbl := px_in (List.mem_of_getElem? (i := 637) (by decide +kernel)) rfl
theorem mlX8_68 : Cond.methodLink RX8 68 yX8_readOperand ∈ px_tbl := px_in (List.mem_of_getElem? (i := 641) (by decide +kernel)) rfl
theorem mlX8_41 : Cond.methodLink RX8 41 yX8_next ∈ px_tbl := px_in (List.mem_of_getElem? (i := 645) (by decide +kernel)) rfl
theorem mlX8_71 : Cond.methodLink RX8 71 yX8_nameOf ∈ px_tbl := px_in (List.mem_of_getElem? (i := 649) (by decide +kernel)) rfl
theorem mlX8_75 : Cond.methodLink RX8 75 yX8_isDigit ∈ px_tbl := px_in (List.mem_of_getElem? (i := 652) (by decide +kernel)) rfl
theorem mlX8_78 : Cond.methodLink RX8 78 yX8_readNumber ∈ px_tbl := px_in (List.mem_of_getElem? (i := 655) (by decide +kernel)) rfl
theorem mlX8_49 : Cond.methodLink RX8 49 yX3_add ∈ px_tbl := px_in (List.mem_of_getElem? (i := 659) (by decide +kernel)) rfl
theorem mlX8_37 : Cond.methodLink RX8 37 yX8_takes ∈ px_tbl := px_in (List.mem_of_getElem? (i := 663) (by decide +kernel)) rfl
theorem mlX8_53 : Cond.methodLink RX8 53 yX3_aimTest ∈ px_tbl := px_in (List.mem_of_getElem? (i := 667) (by decide +kernel)) rfl
theorem mlX11_179 : Cond.methodLink RX11 179 yX3_take ∈ px_tbl := px_in (List.mem_of_getElem? (i := 671) (by decide +kernel)) rfl
theorem mlX3_26 : Cond.methodLink RX3 26 arraycopyName ∈ px_tbl := px_in (List.mem_of_getElem? (i := 675) (by decide +kernel)) rfl
theorem mlL_45 : Cond.methodLink RL 45 yX11_smell ∈ px_tbl := px_in (List.mem_of_getElem? (i := 676) (by decide +kernel)) rfl
theorem mlX11_183 : Cond.methodLink RX11 183 yX2_sideOfJoy ∈ px_tbl := px_in (List.mem_of_getElem? (i := 680) (by decide +kernel)) rfl
theorem mlX2_55 : Cond.methodLink RX2 55 yX2_houseOfJoy ∈ px_tbl := px_in (List.mem_of_getElem? (i := 684) (by decide +kernel)) rfl
theorem mlX11_186 : Cond.methodLink RX11 186 yX6_howMuch ∈ px_tbl := px_in (List.mem_of_getElem? (i := 688) (by decide +kernel)) rfl
theorem mlX6_27 : Cond.methodLink RX6 27 yX2_houseOfJoy ∈ px_tbl := px_in (List.mem_of_getElem? (i := 692) (by decide +kernel)) rfl
theorem mlX11_376 : Cond.methodLink RX11 376 Lib.Math.abs.name ∈ px_tbl := px_in (List.mem_of_getElem? (i := 696) (by decide +kernel)) rfl
theorem mlX6_37 : Cond.methodLink RX6 37 yX6_othersRunning ∈ px_tbl := px_in (List.mem_of_getElem? (i := 699) (by decide +kernel)) rfl
theorem mlX6_83 : Cond.methodLink RX6 83 yX2_runs ∈ px_tbl := px_in (List.mem_of_getElem? (i := 703) (by decide +kernel)) rfl
theorem mlX6_40 : Cond.methodLink RX6 40 yX3_isTold ∈ px_tbl := px_in (List.mem_of_getElem? (i := 707) (by decide +kernel)) rfl
theorem mlX6_46 : Cond.methodLink RX6 46 yX6_byText ∈ px_tbl := px_in (List.mem_of_getElem? (i := 711) (by decide +kernel)) rfl
theorem mlX6_76 : Cond.methodLink RX6 76 yX3_workOut ∈ px_tbl := px_in (List.mem_of_getElem? (i := 715) (by decide +kernel)) rfl
theorem mlX3_32 : Cond.methodLink RX3 32 yX3_valueOf ∈ px_tbl := px_in (List.mem_of_getElem? (i := 719) (by decide +kernel)) rfl
theorem mlX3_36 : Cond.methodLink RX3 36 Lib.Math.max.name ∈ px_tbl := px_in (List.mem_of_getElem? (i := 723) (by decide +kernel)) rfl
theorem mlX3_42 : Cond.methodLink RX3 42 yX3_join ∈ px_tbl := px_in (List.mem_of_getElem? (i := 726) (by decide +kernel)) rfl
theorem mlX6_55 : Cond.methodLink RX6 55 Lib.Math.min.name ∈ px_tbl := px_in (List.mem_of_getElem? (i := 729) (by decide +kernel)) rfl
theorem mlX6_60 : Cond.methodLink RX6 60 Lib.Math.max.name ∈ px_tbl := px_in (List.mem_of_getElem? (i := 732) (by decide +kernel)) rfl
theorem mlL_49 : Cond.methodLink RL 49 yX11_smelt ∈ px_tbl := px_in (List.mem_of_getElem? (i := 733) (by decide +kernel)) rfl
theorem mlX11_189 : Cond.methodLink RX11 189 yX6_housesSmelling ∈ px_tbl := px_in (List.mem_of_getElem? (i := 737) (by decide +kernel)) rfl
theorem mlX6_87 : Cond.methodLink RX6 87 yX2_sideOfJoy ∈ px_tbl := px_in (List.mem_of_getElem? (i := 741) (by decide +kernel)) rfl
theorem mlX6_90 : Cond.methodLink RX6 90 yX6_howMuch ∈ px_tbl := px_in (List.mem_of_getElem? (i := 742) (by decide +kernel)) rfl
theorem mlL_53 : Cond.methodLink RL 53 yX11_shut ∈ px_tbl := px_in (List.mem_of_getElem? (i := 743) (by decide +kernel)) rfl
theorem mlX11_192 : Cond.methodLink RX11 192 yX6_fewestShut ∈ px_tbl := px_in (List.mem_of_getElem? (i := 747) (by decide +kernel)) rfl
theorem mlX6_96 : Cond.methodLink RX6 96 yX6_housesSmelling ∈ px_tbl := px_in (List.mem_of_getElem? (i := 751) (by decide +kernel)) rfl
theorem mlX6_99 : Cond.methodLink RX6 99 yJ6_bitCount_0f7a4 ∈ px_tbl := px_in (List.mem_of_getElem? (i := 752) (by decide +kernel)) rfl
theorem mlX6_104 : Cond.methodLink RX6 104 yX6_holdsIn ∈ px_tbl := px_in (List.mem_of_getElem? (i := 758) (by decide +kernel)) rfl
theorem mlX11_195 : Cond.methodLink RX11 195 yJ6_bitCount_0f7a4 ∈ px_tbl := px_in (List.mem_of_getElem? (i := 762) (by decide +kernel)) rfl
theorem mlL_57 : Cond.methodLink RL 57 yX11_lane ∈ px_tbl := px_in (List.mem_of_getElem? (i := 763) (by decide +kernel)) rfl
theorem mlX11_200 : Cond.methodLink RX11 200 yX9_behind ∈ px_tbl := px_in (List.mem_of_getElem? (i := 767) (by decide +kernel)) rfl
theorem mlX9_44 : Cond.methodLink RX9 44 yX9_startNow ∈ px_tbl := px_in (List.mem_of_getElem? (i := 771) (by decide +kernel)) rfl
theorem mlX9_40 : Cond.methodLink RX9 40 yX2_take ∈ px_tbl := px_in (List.mem_of_getElem? (i := 775) (by decide +kernel)) rfl
theorem mlX2_28 : Cond.methodLink RX2 28 Lib.Math.min.name ∈ px_tbl := px_in (List.mem_of_getElem? (i := 779) (by decide +kernel)) rfl
theorem mlX2_34 : Cond.methodLink RX2 34 Lib.Math.max.name ∈ px_tbl := px_in (List.mem_of_getElem? (i := 780) (by decide +kernel)) rfl
theorem mlX2_37 : Cond.methodLink RX2 37 arraycopyName ∈ px_tbl := px_in (List.mem_of_getElem? (i := 781) (by decide +kernel)) rfl
theorem mlX9_47 : Cond.methodLink RX9 47 yX2_pass ∈ px_tbl := px_in (List.mem_of_getElem? (i := 782) (by decide +kernel)) rfl
theorem mlX2_94 : Cond.methodLink RX2 94 yX2_holdVote ∈ px_tbl := px_in (List.mem_of_getElem? (i := 786) (by decide +kernel)) rfl
theorem mlX2_101 : Cond.methodLink RX2 101 yX2_leadOfSide0 ∈ px_tbl := px_in (List.mem_of_getElem? (i := 790) (by decide +kernel)) rfl
theorem mlX2_97 : Cond.methodLink RX2 97 yX2_passFor ∈ px_tbl := px_in (List.mem_of_getElem? (i := 794) (by decide +kernel)) rfl
theorem mlX2_105 : Cond.methodLink RX2 105 yX2_sideOfJoy ∈ px_tbl := px_in (List.mem_of_getElem? (i := 798) (by decide +kernel)) rfl
theorem mlX2_69 : Cond.methodLink RX2 69 yX2_runs ∈ px_tbl := px_in (List.mem_of_getElem? (i := 799) (by decide +kernel)) rfl
theorem mlX2_108 : Cond.methodLink RX2 108 yX2_runOn ∈ px_tbl := px_in (List.mem_of_getElem? (i := 800) (by decide +kernel)) rfl
theorem mlX2_72 : Cond.methodLink RX2 72 yX2_had ∈ px_tbl := px_in (List.mem_of_getElem? (i := 804) (by decide +kernel)) rfl
theorem mlX2_65 : Cond.methodLink RX2 65 yX2_waits ∈ px_tbl := px_in (List.mem_of_getElem? (i := 808) (by decide +kernel)) rfl
theorem mlX11_204 : Cond.methodLink RX11 204 yX2_gladPeople ∈ px_tbl := px_in (List.mem_of_getElem? (i := 812) (by decide +kernel)) rfl
theorem mlX2_85 : Cond.methodLink RX2 85 yX2_isGlad ∈ px_tbl := px_in (List.mem_of_getElem? (i := 816) (by decide +kernel)) rfl
theorem mlX11_210 : Cond.methodLink RX11 210 yX2_worthOfHad ∈ px_tbl := px_in (List.mem_of_getElem? (i := 820) (by decide +kernel)) rfl
theorem mlX11_213 : Cond.methodLink RX11 213 yX2_worthOfLost ∈ px_tbl := px_in (List.mem_of_getElem? (i := 824) (by decide +kernel)) rfl
theorem mlX11_219 : Cond.methodLink RX11 219 yX2_joysThat ∈ px_tbl := px_in (List.mem_of_getElem? (i := 828) (by decide +kernel)) rfl
theorem mlX2_78 : Cond.methodLink RX2 78 yX2_isIn ∈ px_tbl := px_in (List.mem_of_getElem? (i := 832) (by decide +kernel)) rfl
theorem mlL_61 : Cond.methodLink RL 61 yX11_when ∈ px_tbl := px_in (List.mem_of_getElem? (i := 836) (by decide +kernel)) rfl
theorem mlX11_222 : Cond.methodLink RX11 222 yX9_firstDayOf ∈ px_tbl := px_in (List.mem_of_getElem? (i := 840) (by decide +kernel)) rfl
theorem mlX9_62 : Cond.methodLink RX9 62 yX2_isIn ∈ px_tbl := px_in (List.mem_of_getElem? (i := 844) (by decide +kernel)) rfl
theorem mlL_65 : Cond.methodLink RL 65 yX11_move ∈ px_tbl := px_in (List.mem_of_getElem? (i := 845) (by decide +kernel)) rfl
theorem mlX11_225 : Cond.methodLink RX11 225 yX9_seekMove ∈ px_tbl := px_in (List.mem_of_getElem? (i := 849) (by decide +kernel)) rfl
theorem mlX9_66 : Cond.methodLink RX9 66 yX9_worthBehind ∈ px_tbl := px_in (List.mem_of_getElem? (i := 853) (by decide +kernel)) rfl
theorem mlX9_50 : Cond.methodLink RX9 50 yX7_isPerson ∈ px_tbl := px_in (List.mem_of_getElem? (i := 857) (by decide +kernel)) rfl
theorem mlX9_58 : Cond.methodLink RX9 58 yX2_worthOfHad ∈ px_tbl := px_in (List.mem_of_getElem? (i := 858) (by decide +kernel)) rfl
theorem mlL_69 : Cond.methodLink RL 69 yX11_over ∈ px_tbl := px_in (List.mem_of_getElem? (i := 859) (by decide +kernel)) rfl
theorem mlX11_235 : Cond.methodLink RX11 235 yX10_fewestToTurn ∈ px_tbl := px_in (List.mem_of_getElem? (i := 863) (by decide +kernel)) rfl
theorem mlX10_27 : Cond.methodLink RX10 27 yX2_leadOfSide0 ∈ px_tbl := px_in (List.mem_of_getElem? (i := 867) (by decide +kernel)) rfl
theorem mlL_73 : Cond.methodLink RL 73 yX11_date ∈ px_tbl := px_in (List.mem_of_getElem? (i := 868) (by decide +kernel)) rfl
theorem mlX11_238 : Cond.methodLink RX11 238 yX9_seekDue ∈ px_tbl := px_in (List.mem_of_getElem? (i := 872) (by decide +kernel)) rfl
theorem mlL_77 : Cond.methodLink RL 77 yX11_judge ∈ px_tbl := px_in (List.mem_of_getElem? (i := 876) (by decide +kernel)) rfl
theorem mlX11_242 : Cond.methodLink RX11 242 yX9_firstUnlike ∈ px_tbl := px_in (List.mem_of_getElem? (i := 880) (by decide +kernel)) rfl
theorem mlX9_79 : Cond.methodLink RX9 79 yX5_lengthOf ∈ px_tbl := px_in (List.mem_of_getElem? (i := 884) (by decide +kernel)) rfl
theorem mlX9_85 : Cond.methodLink RX9 85 Lib.Math.min.name ∈ px_tbl := px_in (List.mem_of_getElem? (i := 885) (by decide +kernel)) rfl
theorem mlX9_91 : Cond.methodLink RX9 91 yX5_cell ∈ px_tbl := px_in (List.mem_of_getElem? (i := 886) (by decide +kernel)) rfl
theorem mlX9_97 : Cond.methodLink RX9 97 yX2_isGlad ∈ px_tbl := px_in (List.mem_of_getElem? (i := 888) (by decide +kernel)) rfl
theorem mlL_81 : Cond.methodLink RL 81 yX11_fits ∈ px_tbl := px_in (List.mem_of_getElem? (i := 889) (by decide +kernel)) rfl
theorem mlX11_248 : Cond.methodLink RX11 248 yX9_seekFits ∈ px_tbl := px_in (List.mem_of_getElem? (i := 893) (by decide +kernel)) rfl
theorem mlX9_100 : Cond.methodLink RX9 100 yX9_firstUnlike ∈ px_tbl := px_in (List.mem_of_getElem? (i := 897) (by decide +kernel)) rfl
theorem mlL_85 : Cond.methodLink RL 85 yX11_who ∈ px_tbl := px_in (List.mem_of_getElem? (i := 898) (by decide +kernel)) rfl
theorem mlL_89 : Cond.methodLink RL 89 yX11_share ∈ px_tbl := px_in (List.mem_of_getElem? (i := 902) (by decide +kernel)) rfl
theorem mlX11_255 : Cond.methodLink RX11 255 yX2_worthOfHadBy ∈ px_tbl := px_in (List.mem_of_getElem? (i := 906) (by decide +kernel)) rfl
theorem mlL_93 : Cond.methodLink RL 93 yX11_near ∈ px_tbl := px_in (List.mem_of_getElem? (i := 910) (by decide +kernel)) rfl
theorem mlX11_258 : Cond.methodLink RX11 258 yX10_nearestAcross ∈ px_tbl := px_in (List.mem_of_getElem? (i := 914) (by decide +kernel)) rfl
theorem mlX10_45 : Cond.methodLink RX10 45 yX10_areAcross ∈ px_tbl := px_in (List.mem_of_getElem? (i := 918) (by decide +kernel)) rfl
theorem mlX10_53 : Cond.methodLink RX10 53 Lib.Math.min.name ∈ px_tbl := px_in (List.mem_of_getElem? (i := 923) (by decide +kernel)) rfl
theorem mlL_97 : Cond.methodLink RL 97 yX11_mates ∈ px_tbl := px_in (List.mem_of_getElem? (i := 924) (by decide +kernel)) rfl
theorem mlX11_261 : Cond.methodLink RX11 261 yX10_mostPairs ∈ px_tbl := px_in (List.mem_of_getElem? (i := 928) (by decide +kernel)) rfl
theorem mlX10_58 : Cond.methodLink RX10 58 yX10_pairOff ∈ px_tbl := px_in (List.mem_of_getElem? (i := 932) (by decide +kernel)) rfl
theorem mlX10_62 : Cond.methodLink RX10 62 yJ6_bitCount_0f7a4 ∈ px_tbl := px_in (List.mem_of_getElem? (i := 936) (by decide +kernel)) rfl
theorem mlX10_68 : Cond.methodLink RX10 68 Lib.Math.max.name ∈ px_tbl := px_in (List.mem_of_getElem? (i := 937) (by decide +kernel)) rfl
theorem mlL_101 : Cond.methodLink RL 101 yX11_byTurns ∈ px_tbl := px_in (List.mem_of_getElem? (i := 938) (by decide +kernel)) rfl
theorem mlX11_265 : Cond.methodLink RX11 265 yX10_playTurns ∈ px_tbl := px_in (List.mem_of_getElem? (i := 943) (by decide +kernel)) rfl
theorem mlX10_71 : Cond.methodLink RX10 71 yX10_bestLead ∈ px_tbl := px_in (List.mem_of_getElem? (i := 947) (by decide +kernel)) rfl
theorem mlX10_81 : Cond.methodLink RX10 81 yX10_leadIfMoved ∈ px_tbl := px_in (List.mem_of_getElem? (i := 951) (by decide +kernel)) rfl
theorem mlL_105 : Cond.methodLink RL 105 yX11_drawn ∈ px_tbl := px_in (List.mem_of_getElem? (i := 955) (by decide +kernel)) rfl
theorem mlX11_274 : Cond.methodLink RX11 274 yX9_drawLanes ∈ px_tbl := px_in (List.mem_of_getElem? (i := 959) (by decide +kernel)) rfl
theorem mlX9_104 : Cond.methodLink RX9 104 yX9_moveByDraw ∈ px_tbl := px_in (List.mem_of_getElem? (i := 964) (by decide +kernel)) rfl
theorem mlX9_108 : Cond.methodLink RX9 108 yX2_had ∈ px_tbl := px_in (List.mem_of_getElem? (i := 968) (by decide +kernel)) rfl
theorem mlL_109 : Cond.methodLink RL 109 yX11_moves ∈ px_tbl := px_in (List.mem_of_getElem? (i := 969) (by decide +kernel)) rfl
theorem mlL_113 : Cond.methodLink RL 113 yX11_day ∈ px_tbl := px_in (List.mem_of_getElem? (i := 973) (by decide +kernel)) rfl
theorem mlX11_278 : Cond.methodLink RX11 278 yX2_pass ∈ px_tbl := px_in (List.mem_of_getElem? (i := 977) (by decide +kernel)) rfl
theorem mlL_117 : Cond.methodLink RL 117 yX11_inspect ∈ px_tbl := px_in (List.mem_of_getElem? (i := 978) (by decide +kernel)) rfl
theorem mlX11_281 : Cond.methodLink RX11 281 yX6_smeltWhereLived ∈ px_tbl := px_in (List.mem_of_getElem? (i := 982) (by decide +kernel)) rfl
theorem mlL_121 : Cond.methodLink RL 121 yX11_led ∈ px_tbl := px_in (List.mem_of_getElem? (i := 986) (by decide +kernel)) rfl
theorem mlL_125 : Cond.methodLink RL 125 yX11_image ∈ px_tbl := px_in (List.mem_of_getElem? (i := 990) (by decide +kernel)) rfl
theorem mlX11_294 : Cond.methodLink RX11 294 yX2_take ∈ px_tbl := px_in (List.mem_of_getElem? (i := 994) (by decide +kernel)) rfl
theorem mlL_129 : Cond.methodLink RL 129 yX11_back ∈ px_tbl := px_in (List.mem_of_getElem? (i := 995) (by decide +kernel)) rfl
theorem mlL_133 : Cond.methodLink RL 133 yX11_undo ∈ px_tbl := px_in (List.mem_of_getElem? (i := 999) (by decide +kernel)) rfl
theorem mlX11_297 : Cond.methodLink RX11 297 yX1_takeBack ∈ px_tbl := px_in (List.mem_of_getElem? (i := 1003) (by decide +kernel)) rfl
theorem mlX1_42 : Cond.methodLink RX1 42 yX4_write ∈ px_tbl := px_in (List.mem_of_getElem? (i := 1007) (by decide +kernel)) rfl
theorem mlL_137 : Cond.methodLink RL 137 yX11_redo ∈ px_tbl := px_in (List.mem_of_getElem? (i := 1008) (by decide +kernel)) rfl
theorem mlX11_304 : Cond.methodLink RX11 304 yX1_doAgain ∈ px_tbl := px_in (List.mem_of_getElem? (i := 1012) (by decide +kernel)) rfl
theorem mlL_141 : Cond.methodLink RL 141 yX11_body ∈ px_tbl := px_in (List.mem_of_getElem? (i := 1016) (by decide +kernel)) rfl
theorem mlX11_310 : Cond.methodLink RX11 310 yX0_add ∈ px_tbl := px_in (List.mem_of_getElem? (i := 1020) (by decide +kernel)) rfl
theorem mlL_145 : Cond.methodLink RL 145 yX11_act ∈ px_tbl := px_in (List.mem_of_getElem? (i := 1024) (by decide +kernel)) rfl
theorem mlX11_312 : Cond.methodLink RX11 312 yX0_perform ∈ px_tbl := px_in (List.mem_of_getElem? (i := 1028) (by decide +kernel)) rfl
theorem mlX0_34 : Cond.methodLink RX0 34 yX0_isBody ∈ px_tbl := px_in (List.mem_of_getElem? (i := 1032) (by decide +kernel)) rfl
theorem mlX0_41 : Cond.methodLink RX0 41 yX0_ask ∈ px_tbl := px_in (List.mem_of_getElem? (i := 1036) (by decide +kernel)) rfl
theorem mlX0_45 : Cond.methodLink RX0 45 yX0_run ∈ px_tbl := px_in (List.mem_of_getElem? (i := 1040) (by decide +kernel)) rfl
theorem mlX0_52 : Cond.methodLink RX0 52 yX0_holderFrom ∈ px_tbl := px_in (List.mem_of_getElem? (i := 1044) (by decide +kernel)) rfl
theorem mlX0_55 : Cond.methodLink RX0 55 yX0_note ∈ px_tbl := px_in (List.mem_of_getElem? (i := 1051) (by decide +kernel)) rfl
theorem mlL_149 : Cond.methodLink RL 149 yX11_trace ∈ px_tbl := px_in (List.mem_of_getElem? (i := 1055) (by decide +kernel)) rfl
theorem mlX11_316 : Cond.methodLink RX11 316 yX0_traced ∈ px_tbl := px_in (List.mem_of_getElem? (i := 1059) (by decide +kernel)) rfl
theorem mlX0_25 : Cond.methodLink RX0 25 Lib.Math.min.name ∈ px_tbl := px_in (List.mem_of_getElem? (i := 1063) (by decide +kernel)) rfl
theorem mlL_153 : Cond.methodLink RL 153 yX11_keep ∈ px_tbl := px_in (List.mem_of_getElem? (i := 1064) (by decide +kernel)) rfl
theorem mlX11_322 : Cond.methodLink RX11 322 yX5_isShelf ∈ px_tbl := px_in (List.mem_of_getElem? (i := 1068) (by decide +kernel)) rfl
theorem mlX11_325 : Cond.methodLink RX11 325 yX5_empty ∈ px_tbl := px_in (List.mem_of_getElem? (i := 1069) (by decide +kernel)) rfl
theorem mlX11_328 : Cond.methodLink RX11 328 yX0_isBody ∈ px_tbl := px_in (List.mem_of_getElem? (i := 1073) (by decide +kernel)) rfl
theorem mlX11_331 : Cond.methodLink RX11 331 yX5_layBody ∈ px_tbl := px_in (List.mem_of_getElem? (i := 1074) (by decide +kernel)) rfl
theorem mlL_157 : Cond.methodLink RL 157 yX11_row ∈ px_tbl := px_in (List.mem_of_getElem? (i := 1078) (by decide +kernel)) rfl
theorem mlX11_334 : Cond.methodLink RX11 334 yX5_layRow ∈ px_tbl := px_in (List.mem_of_getElem? (i := 1082) (by decide +kernel)) rfl
theorem mlL_163 : Cond.methodLink RL 163 yX11_put ∈ px_tbl := px_in (List.mem_of_getElem? (i := 1086) (by decide +kernel)) rfl
theorem mlX11_337 : Cond.methodLink RX11 337 yX5_refusePlace ∈ px_tbl := px_in (List.mem_of_getElem? (i := 1090) (by decide +kernel)) rfl
theorem mlX11_340 : Cond.methodLink RX11 340 yX5_setCell ∈ px_tbl := px_in (List.mem_of_getElem? (i := 1094) (by decide +kernel)) rfl
theorem mlX5_43 : Cond.methodLink RX5 43 yX5_cut ∈ px_tbl := px_in (List.mem_of_getElem? (i := 1098) (by decide +kernel)) rfl
theorem mlL_168 : Cond.methodLink RL 168 yX11_element ∈ px_tbl := px_in (List.mem_of_getElem? (i := 1101) (by decide +kernel)) rfl
theorem mlL_173 : Cond.methodLink RL 173 yX11_shift ∈ px_tbl := px_in (List.mem_of_getElem? (i := 1106) (by decide +kernel)) rfl
theorem mlX11_348 : Cond.methodLink RX11 348 yX5_refusePair ∈ px_tbl := px_in (List.mem_of_getElem? (i := 1110) (by decide +kernel)) rfl
theorem mlX11_351 : Cond.methodLink RX11 351 yX5_hasRun ∈ px_tbl := px_in (List.mem_of_getElem? (i := 1114) (by decide +kernel)) rfl
theorem mlX11_354 : Cond.methodLink RX11 354 yX5_copyRun ∈ px_tbl := px_in (List.mem_of_getElem? (i := 1115) (by decide +kernel)) rfl
theorem mlX5_47 : Cond.methodLink RX5 47 arraycopyName ∈ px_tbl := px_in (List.mem_of_getElem? (i := 1119) (by decide +kernel)) rfl
theorem mlL_178 : Cond.methodLink RL 178 yX11_taken ∈ px_tbl := px_in (List.mem_of_getElem? (i := 1120) (by decide +kernel)) rfl
theorem mlX11_358 : Cond.methodLink RX11 358 yX5_isEmpty ∈ px_tbl := px_in (List.mem_of_getElem? (i := 1124) (by decide +kernel)) rfl
theorem mlX11_361 : Cond.methodLink RX11 361 yX5_bodyOn ∈ px_tbl := px_in (List.mem_of_getElem? (i := 1125) (by decide +kernel)) rfl
theorem mlX11_367 : Cond.methodLink RX11 367 yX0_isUnder ∈ px_tbl := px_in (List.mem_of_getElem? (i := 1129) (by decide +kernel)) rfl
theorem mlL_182 : Cond.methodLink RL 182 yX11_count ∈ px_tbl := px_in (List.mem_of_getElem? (i := 1132) (by decide +kernel)) rfl
theorem mlL_12 : Cond.methodLink RL 12 yX12_init ∈ px_tbl := px_in (List.mem_of_getElem? (i := 1138) (by decide +kernel)) rfl
theorem mlX12_1 : Cond.methodLink RX12 1 objectInit ∈ px_tbl := px_in (List.mem_of_getElem? (i := 1141) (by decide +kernel)) rfl
theorem mlL_17 : Cond.methodLink RL 17 yX12_person ∈ px_tbl := px_in (List.mem_of_getElem? (i := 1321) (by decide +kernel)) rfl
theorem mlX12_138 : Cond.methodLink RX12 138 yX12_isHouse ∈ px_tbl := px_in (List.mem_of_getElem? (i := 1325) (by decide +kernel)) rfl
theorem mlX12_131 : Cond.methodLink RX12 131 yX12_in ∈ px_tbl := px_in (List.mem_of_getElem? (i := 1328) (by decide +kernel)) rfl
theorem mlL_22 : Cond.methodLink RL 22 yX12_joy ∈ px_tbl := px_in (List.mem_of_getElem? (i := 1331) (by decide +kernel)) rfl
theorem mlX12_142 : Cond.methodLink RX12 142 yX12_isOne ∈ px_tbl := px_in (List.mem_of_getElem? (i := 1335) (by decide +kernel)) rfl
theorem mlX12_145 : Cond.methodLink RX12 145 yX12_addJoy ∈ px_tbl := px_in (List.mem_of_getElem? (i := 1339) (by decide +kernel)) rfl
theorem mlL_27 : Cond.methodLink RL 27 yX12_joys ∈ px_tbl := px_in (List.mem_of_getElem? (i := 1343) (by decide +kernel)) rfl
theorem mlX12_149 : Cond.methodLink RX12 149 yX12_isShelf ∈ px_tbl := px_in (List.mem_of_getElem? (i := 1347) (by decide +kernel)) rfl
theorem mlL_136 : Cond.methodLink RL 136 yX12_undo ∈ px_tbl := px_in (List.mem_of_getElem? (i := 1351) (by decide +kernel)) rfl
theorem mlX12_164 : Cond.methodLink RX12 164 yX12_lays ∈ px_tbl := px_in (List.mem_of_getElem? (i := 1355) (by decide +kernel)) rfl
theorem mlL_140 : Cond.methodLink RL 140 yX12_redo ∈ px_tbl := px_in (List.mem_of_getElem? (i := 1359) (by decide +kernel)) rfl
theorem mlL_31 : Cond.methodLink RL 31 yX12_mend ∈ px_tbl := px_in (List.mem_of_getElem? (i := 1363) (by decide +kernel)) rfl
theorem mlX12_174 : Cond.methodLink RX12 174 yX12_isPlace ∈ px_tbl := px_in (List.mem_of_getElem? (i := 1367) (by decide +kernel)) rfl
theorem mlX12_168 : Cond.methodLink RX12 168 yX12_isJoy ∈ px_tbl := px_in (List.mem_of_getElem? (i := 1371) (by decide +kernel)) rfl
theorem mlX12_178 : Cond.methodLink RX12 178 yX12_mayHave ∈ px_tbl := px_in (List.mem_of_getElem? (i := 1375) (by decide +kernel)) rfl
theorem mlX12_171 : Cond.methodLink RX12 171 yX12_isSide ∈ px_tbl := px_in (List.mem_of_getElem? (i := 1378) (by decide +kernel)) rfl
theorem mlX12_181 : Cond.methodLink RX12 181 yX12_changes ∈ px_tbl := px_in (List.mem_of_getElem? (i := 1381) (by decide +kernel)) rfl
theorem mlX12_154 : Cond.methodLink RX12 154 yX12_valueAt ∈ px_tbl := px_in (List.mem_of_getElem? (i := 1385) (by decide +kernel)) rfl
theorem mlL_35 : Cond.methodLink RL 35 yX12_of ∈ px_tbl := px_in (List.mem_of_getElem? (i := 1389) (by decide +kernel)) rfl
theorem mlL_39 : Cond.methodLink RL 39 yX12_feed ∈ px_tbl := px_in (List.mem_of_getElem? (i := 1393) (by decide +kernel)) rfl
theorem mlL_44 : Cond.methodLink RL 44 yX12_law ∈ px_tbl := px_in (List.mem_of_getElem? (i := 1397) (by decide +kernel)) rfl
theorem mlX12_248 : Cond.methodLink RX12 248 yX12_readText ∈ px_tbl := px_in (List.mem_of_getElem? (i := 1401) (by decide +kernel)) rfl
theorem mlX12_239 : Cond.methodLink RX12 239 yX12_line ∈ px_tbl := px_in (List.mem_of_getElem? (i := 1405) (by decide +kernel)) rfl
theorem mlX12_221 : Cond.methodLink RX12 221 yX12_either ∈ px_tbl := px_in (List.mem_of_getElem? (i := 1409) (by decide +kernel)) rfl
theorem mlX12_236 : Cond.methodLink RX12 236 yX12_both ∈ px_tbl := px_in (List.mem_of_getElem? (i := 1413) (by decide +kernel)) rfl
theorem mlX12_233 : Cond.methodLink RX12 233 yX12_compared ∈ px_tbl := px_in (List.mem_of_getElem? (i := 1417) (by decide +kernel)) rfl
theorem mlX12_230 : Cond.methodLink RX12 230 yX12_sum ∈ px_tbl := px_in (List.mem_of_getElem? (i := 1421) (by decide +kernel)) rfl
theorem mlX12_227 : Cond.methodLink RX12 227 yX12_product ∈ px_tbl := px_in (List.mem_of_getElem? (i := 1425) (by decide +kernel)) rfl
theorem mlX12_218 : Cond.methodLink RX12 218 yX12_operand ∈ px_tbl := px_in (List.mem_of_getElem? (i := 1429) (by decide +kernel)) rfl
theorem mlX12_202 : Cond.methodLink RX12 202 yX12_look ∈ px_tbl := px_in (List.mem_of_getElem? (i := 1433) (by decide +kernel)) rfl
theorem mlX12_210 : Cond.methodLink RX12 210 yX12_nameOf ∈ px_tbl := px_in (List.mem_of_getElem? (i := 1437) (by decide +kernel)) rfl
theorem mlX12_206 : Cond.methodLink RX12 206 yX12_addStep ∈ px_tbl := px_in (List.mem_of_getElem? (i := 1440) (by decide +kernel)) rfl
theorem mlX12_214 : Cond.methodLink RX12 214 yX12_opens ∈ px_tbl := px_in (List.mem_of_getElem? (i := 1444) (by decide +kernel)) rfl
theorem mlX12_199 : Cond.methodLink RX12 199 yX12_wrong ∈ px_tbl := px_in (List.mem_of_getElem? (i := 1448) (by decide +kernel)) rfl
theorem mlX12_224 : Cond.methodLink RX12 224 yX12_figure ∈ px_tbl := px_in (List.mem_of_getElem? (i := 1452) (by decide +kernel)) rfl
theorem mlL_48 : Cond.methodLink RL 48 yX12_smell ∈ px_tbl := px_in (List.mem_of_getElem? (i := 1456) (by decide +kernel)) rfl
theorem mlX12_304 : Cond.methodLink RX12 304 yX12_layNow ∈ px_tbl := px_in (List.mem_of_getElem? (i := 1460) (by decide +kernel)) rfl
theorem mlX12_267 : Cond.methodLink RX12 267 yX12_houseOfJoy ∈ px_tbl := px_in (List.mem_of_getElem? (i := 1464) (by decide +kernel)) rfl
theorem mlX12_307 : Cond.methodLink RX12 307 yX12_overBy ∈ px_tbl := px_in (List.mem_of_getElem? (i := 1468) (by decide +kernel)) rfl
theorem mlX12_295 : Cond.methodLink RX12 295 yX12_apartBy ∈ px_tbl := px_in (List.mem_of_getElem? (i := 1472) (by decide +kernel)) rfl
theorem mlX12_298 : Cond.methodLink RX12 298 yX12_othersRun ∈ px_tbl := px_in (List.mem_of_getElem? (i := 1475) (by decide +kernel)) rfl
theorem mlX12_276 : Cond.methodLink RX12 276 yX12_runs ∈ px_tbl := px_in (List.mem_of_getElem? (i := 1479) (by decide +kernel)) rfl
theorem mlX12_301 : Cond.methodLink RX12 301 yX12_gives ∈ px_tbl := px_in (List.mem_of_getElem? (i := 1483) (by decide +kernel)) rfl
theorem mlX12_245 : Cond.methodLink RX12 245 yX12_worked ∈ px_tbl := px_in (List.mem_of_getElem? (i := 1487) (by decide +kernel)) rfl
theorem mlX12_242 : Cond.methodLink RX12 242 yX12_twoOf ∈ px_tbl := px_in (List.mem_of_getElem? (i := 1491) (by decide +kernel)) rfl
theorem mlL_52 : Cond.methodLink RL 52 yX12_smelt ∈ px_tbl := px_in (List.mem_of_getElem? (i := 1494) (by decide +kernel)) rfl
theorem mlX12_310 : Cond.methodLink RX12 310 yX12_smeltBy ∈ px_tbl := px_in (List.mem_of_getElem? (i := 1498) (by decide +kernel)) rfl
theorem mlL_56 : Cond.methodLink RL 56 yX12_shut ∈ px_tbl := px_in (List.mem_of_getElem? (i := 1502) (by decide +kernel)) rfl
theorem mlX12_313 : Cond.methodLink RX12 313 yX12_bitsOf ∈ px_tbl := px_in (List.mem_of_getElem? (i := 1506) (by decide +kernel)) rfl
theorem mlX12_316 : Cond.methodLink RX12 316 yX12_noneSmelt ∈ px_tbl := px_in (List.mem_of_getElem? (i := 1509) (by decide +kernel)) rfl
theorem mlX12_292 : Cond.methodLink RX12 292 yX12_has ∈ px_tbl := px_in (List.mem_of_getElem? (i := 1513) (by decide +kernel)) rfl
theorem mlL_60 : Cond.methodLink RL 60 yX12_lane ∈ px_tbl := px_in (List.mem_of_getElem? (i := 1516) (by decide +kernel)) rfl
theorem mlX12_322 : Cond.methodLink RX12 322 yX12_goDays ∈ px_tbl := px_in (List.mem_of_getElem? (i := 1520) (by decide +kernel)) rfl
theorem mlX12_319 : Cond.methodLink RX12 319 yX12_goDay ∈ px_tbl := px_in (List.mem_of_getElem? (i := 1524) (by decide +kernel)) rfl
theorem mlX12_282 : Cond.methodLink RX12 282 yX12_vote ∈ px_tbl := px_in (List.mem_of_getElem? (i := 1528) (by decide +kernel)) rfl
theorem mlX12_270 : Cond.methodLink RX12 270 yX12_moreLeft ∈ px_tbl := px_in (List.mem_of_getElem? (i := 1532) (by decide +kernel)) rfl
theorem mlX12_285 : Cond.methodLink RX12 285 yX12_goJoy ∈ px_tbl := px_in (List.mem_of_getElem? (i := 1536) (by decide +kernel)) rfl
theorem mlX12_273 : Cond.methodLink RX12 273 yX12_onGladSide ∈ px_tbl := px_in (List.mem_of_getElem? (i := 1540) (by decide +kernel)) rfl
theorem mlX12_279 : Cond.methodLink RX12 279 yX12_waits ∈ px_tbl := px_in (List.mem_of_getElem? (i := 1544) (by decide +kernel)) rfl
theorem mlX12_325 : Cond.methodLink RX12 325 yX12_gladPeople ∈ px_tbl := px_in (List.mem_of_getElem? (i := 1548) (by decide +kernel)) rfl
theorem mlX12_328 : Cond.methodLink RX12 328 yX12_joysBy ∈ px_tbl := px_in (List.mem_of_getElem? (i := 1552) (by decide +kernel)) rfl
theorem mlX12_289 : Cond.methodLink RX12 289 yX12_isHad ∈ px_tbl := px_in (List.mem_of_getElem? (i := 1556) (by decide +kernel)) rfl
theorem mlX12_331 : Cond.methodLink RX12 331 yX12_worthsOf ∈ px_tbl := px_in (List.mem_of_getElem? (i := 1560) (by decide +kernel)) rfl
theorem mlL_64 : Cond.methodLink RL 64 yX12_when ∈ px_tbl := px_in (List.mem_of_getElem? (i := 1564) (by decide +kernel)) rfl
theorem mlL_68 : Cond.methodLink RL 68 yX12_move ∈ px_tbl := px_in (List.mem_of_getElem? (i := 1568) (by decide +kernel)) rfl
theorem mlX12_334 : Cond.methodLink RX12 334 yX12_hadBehind ∈ px_tbl := px_in (List.mem_of_getElem? (i := 1572) (by decide +kernel)) rfl
theorem mlL_72 : Cond.methodLink RL 72 yX12_over ∈ px_tbl := px_in (List.mem_of_getElem? (i := 1576) (by decide +kernel)) rfl
theorem mlL_76 : Cond.methodLink RL 76 yX12_date ∈ px_tbl := px_in (List.mem_of_getElem? (i := 1580) (by decide +kernel)) rfl
theorem mlL_80 : Cond.methodLink RL 80 yX12_judge ∈ px_tbl := px_in (List.mem_of_getElem? (i := 1584) (by decide +kernel)) rfl
theorem mlX12_340 : Cond.methodLink RX12 340 yX12_rowFault ∈ px_tbl := px_in (List.mem_of_getElem? (i := 1588) (by decide +kernel)) rfl
theorem mlX12_343 : Cond.methodLink RX12 343 yX12_wrongDay ∈ px_tbl := px_in (List.mem_of_getElem? (i := 1592) (by decide +kernel)) rfl
theorem mlX12_337 : Cond.methodLink RX12 337 yX12_at ∈ px_tbl := px_in (List.mem_of_getElem? (i := 1596) (by decide +kernel)) rfl
theorem mlL_84 : Cond.methodLink RL 84 yX12_fits ∈ px_tbl := px_in (List.mem_of_getElem? (i := 1600) (by decide +kernel)) rfl
theorem mlX12_346 : Cond.methodLink RX12 346 yX12_dues ∈ px_tbl := px_in (List.mem_of_getElem? (i := 1604) (by decide +kernel)) rfl
theorem mlX12_350 : Cond.methodLink RX12 350 yX12_lates ∈ px_tbl := px_in (List.mem_of_getElem? (i := 1608) (by decide +kernel)) rfl
theorem mlL_88 : Cond.methodLink RL 88 yX12_who ∈ px_tbl := px_in (List.mem_of_getElem? (i := 1612) (by decide +kernel)) rfl
theorem mlL_92 : Cond.methodLink RL 92 yX12_share ∈ px_tbl := px_in (List.mem_of_getElem? (i := 1616) (by decide +kernel)) rfl
theorem mlL_96 : Cond.methodLink RL 96 yX12_near ∈ px_tbl := px_in (List.mem_of_getElem? (i := 1620) (by decide +kernel)) rfl
theorem mlL_100 : Cond.methodLink RL 100 yX12_mates ∈ px_tbl := px_in (List.mem_of_getElem? (i := 1624) (by decide +kernel)) rfl
theorem mlX12_353 : Cond.methodLink RX12 353 yX12_mostMates ∈ px_tbl := px_in (List.mem_of_getElem? (i := 1628) (by decide +kernel)) rfl
theorem mlL_104 : Cond.methodLink RL 104 yX12_byTurns ∈ px_tbl := px_in (List.mem_of_getElem? (i := 1632) (by decide +kernel)) rfl
theorem mlX12_359 : Cond.methodLink RX12 359 yX12_bestOf ∈ px_tbl := px_in (List.mem_of_getElem? (i := 1637) (by decide +kernel)) rfl
theorem mlX12_356 : Cond.methodLink RX12 356 yX12_endsBy ∈ px_tbl := px_in (List.mem_of_getElem? (i := 1641) (by decide +kernel)) rfl
theorem mlL_108 : Cond.methodLink RL 108 yX12_drawn ∈ px_tbl := px_in (List.mem_of_getElem? (i := 1645) (by decide +kernel)) rfl
theorem mlL_112 : Cond.methodLink RL 112 yX12_moves ∈ px_tbl := px_in (List.mem_of_getElem? (i := 1650) (by decide +kernel)) rfl
theorem mlL_116 : Cond.methodLink RL 116 yX12_day ∈ px_tbl := px_in (List.mem_of_getElem? (i := 1654) (by decide +kernel)) rfl
theorem mlL_120 : Cond.methodLink RL 120 yX12_inspect ∈ px_tbl := px_in (List.mem_of_getElem? (i := 1658) (by decide +kernel)) rfl
theorem mlX12_365 : Cond.methodLink RX12 365 yX12_livedIn ∈ px_tbl := px_in (List.mem_of_getElem? (i := 1662) (by decide +kernel)) rfl
theorem mlL_124 : Cond.methodLink RL 124 yX12_led ∈ px_tbl := px_in (List.mem_of_getElem? (i := 1666) (by decide +kernel)) rfl
theorem mlL_128 : Cond.methodLink RL 128 yX12_image ∈ px_tbl := px_in (List.mem_of_getElem? (i := 1670) (by decide +kernel)) rfl
theorem mlL_132 : Cond.methodLink RL 132 yX12_back ∈ px_tbl := px_in (List.mem_of_getElem? (i := 1674) (by decide +kernel)) rfl
theorem mlL_152 : Cond.methodLink RL 152 yX12_trace ∈ px_tbl := px_in (List.mem_of_getElem? (i := 1678) (by decide +kernel)) rfl
theorem mlL_144 : Cond.methodLink RL 144 yX12_body ∈ px_tbl := px_in (List.mem_of_getElem? (i := 1682) (by decide +kernel)) rfl
theorem mlL_148 : Cond.methodLink RL 148 yX12_act ∈ px_tbl := px_in (List.mem_of_getElem? (i := 1686) (by decide +kernel)) rfl
theorem mlX12_425 : Cond.methodLink RX12 425 yX12_isBody ∈ px_tbl := px_in (List.mem_of_getElem? (i := 1690) (by decide +kernel)) rfl
theorem mlX12_401 : Cond.methodLink RX12 401 yX12_opening ∈ px_tbl := px_in (List.mem_of_getElem? (i := 1694) (by decide +kernel)) rfl
theorem mlX12_395 : Cond.methodLink RX12 395 yX12_isUnder ∈ px_tbl := px_in (List.mem_of_getElem? (i := 1698) (by decide +kernel)) rfl
theorem mlX12_389 : Cond.methodLink RX12 389 yX12_ran ∈ px_tbl := px_in (List.mem_of_getElem? (i := 1701) (by decide +kernel)) rfl
theorem mlX12_392 : Cond.methodLink RX12 392 yX12_plainOpens ∈ px_tbl := px_in (List.mem_of_getElem? (i := 1705) (by decide +kernel)) rfl
theorem mlX12_398 : Cond.methodLink RX12 398 yX12_springOpens ∈ px_tbl := px_in (List.mem_of_getElem? (i := 1709) (by decide +kernel)) rfl
theorem mlX12_419 : Cond.methodLink RX12 419 yX12_smelling ∈ px_tbl := px_in (List.mem_of_getElem? (i := 1713) (by decide +kernel)) rfl
theorem mlX12_407 : Cond.methodLink RX12 407 yX12_weddingSmells ∈ px_tbl := px_in (List.mem_of_getElem? (i := 1717) (by decide +kernel)) rfl
theorem mlX12_404 : Cond.methodLink RX12 404 yX12_plainSmells ∈ px_tbl := px_in (List.mem_of_getElem? (i := 1721) (by decide +kernel)) rfl
theorem mlX12_410 : Cond.methodLink RX12 410 yX12_voting ∈ px_tbl := px_in (List.mem_of_getElem? (i := 1725) (by decide +kernel)) rfl
theorem mlX12_416 : Cond.methodLink RX12 416 yX12_widowVotes ∈ px_tbl := px_in (List.mem_of_getElem? (i := 1729) (by decide +kernel)) rfl
theorem mlX12_413 : Cond.methodLink RX12 413 yX12_plainVotes ∈ px_tbl := px_in (List.mem_of_getElem? (i := 1733) (by decide +kernel)) rfl
theorem mlX12_428 : Cond.methodLink RX12 428 yX12_telling ∈ px_tbl := px_in (List.mem_of_getElem? (i := 1737) (by decide +kernel)) rfl
theorem mlX12_422 : Cond.methodLink RX12 422 yX12_plainTells ∈ px_tbl := px_in (List.mem_of_getElem? (i := 1741) (by decide +kernel)) rfl
theorem mlL_185 : Cond.methodLink RL 185 yX12_count ∈ px_tbl := px_in (List.mem_of_getElem? (i := 1745) (by decide +kernel)) rfl
theorem mlL_156 : Cond.methodLink RL 156 yX12_keep ∈ px_tbl := px_in (List.mem_of_getElem? (i := 1749) (by decide +kernel)) rfl
theorem mlL_160 : Cond.methodLink RL 160 yX12_row ∈ px_tbl := px_in (List.mem_of_getElem? (i := 1753) (by decide +kernel)) rfl
theorem mlL_167 : Cond.methodLink RL 167 yX12_put ∈ px_tbl := px_in (List.mem_of_getElem? (i := 1757) (by decide +kernel)) rfl
theorem mlX12_431 : Cond.methodLink RX12 431 yX12_whyNoPlace ∈ px_tbl := px_in (List.mem_of_getElem? (i := 1761) (by decide +kernel)) rfl
theorem mlL_172 : Cond.methodLink RL 172 yX12_element ∈ px_tbl := px_in (List.mem_of_getElem? (i := 1765) (by decide +kernel)) rfl
theorem mlL_177 : Cond.methodLink RL 177 yX12_shift ∈ px_tbl := px_in (List.mem_of_getElem? (i := 1770) (by decide +kernel)) rfl
theorem mlL_181 : Cond.methodLink RL 181 yX12_taken ∈ px_tbl := px_in (List.mem_of_getElem? (i := 1774) (by decide +kernel)) rfl
theorem csJ6_265 : Cond.constant RJ6 265 (1431655765) ∈ px_tbl := px_in (List.mem_of_getElem? (i := 755) (by decide +kernel)) rfl
theorem csJ6_266 : Cond.constant RJ6 266 (858993459) ∈ px_tbl := px_in (List.mem_of_getElem? (i := 756) (by decide +kernel)) rfl
theorem csJ6_267 : Cond.constant RJ6 267 (252645135) ∈ px_tbl := px_in (List.mem_of_getElem? (i := 757) (by decide +kernel)) rfl
theorem csX9_95 : Cond.constantLong RX9 95 (9) ∈ px_tbl := px_in (List.mem_of_getElem? (i := 887) (by decide +kernel)) rfl
theorem csX11_264 : Cond.constant RX11 264 (-2000000000) ∈ px_tbl := px_in (List.mem_of_getElem? (i := 942) (by decide +kernel)) rfl
theorem csX9_103 : Cond.constant RX9 103 (1103515245) ∈ px_tbl := px_in (List.mem_of_getElem? (i := 963) (by decide +kernel)) rfl
theorem csX11_346 : Cond.constantLong RX11 346 (-9223372036854775808) ∈ px_tbl := px_in (List.mem_of_getElem? (i := 1105) (by decide +kernel)) rfl
theorem csX12_152 : Cond.constantLong RX12 152 (2) ∈ px_tbl := px_in (List.mem_of_getElem? (i := 1350) (by decide +kernel)) rfl
theorem csX12_363 : Cond.constant RX12 363 (-2000000000) ∈ px_tbl := px_in (List.mem_of_getElem? (i := 1636) (by decide +kernel)) rfl
theorem csX12_364 : Cond.constant RX12 364 (1103515245) ∈ px_tbl := px_in (List.mem_of_getElem? (i := 1649) (by decide +kernel)) rfl
theorem csX12_436 : Cond.constantLong RX12 436 (-9223372036854775808) ∈ px_tbl := px_in (List.mem_of_getElem? (i := 1769) (by decide +kernel)) rfl
theorem csL_161 : Cond.constantLong RL 161 (4294967295) ∈ px_tbl := px_in (List.mem_of_getElem? (i := 1778) (by decide +kernel)) rfl
theorem js_max : Cond.static Lib.Math.max.name ∈ px_tbl := px_in (List.mem_of_getElem? (i := 724) (by decide +kernel)) rfl
theorem jc_max : Cond.code Lib.Math.max.name Lib.Math.max.code 2 (some .int) ∈ px_tbl := px_in (List.mem_of_getElem? (i := 725) (by decide +kernel)) rfl
theorem js_min : Cond.static Lib.Math.min.name ∈ px_tbl := px_in (List.mem_of_getElem? (i := 730) (by decide +kernel)) rfl
theorem jc_min : Cond.code Lib.Math.min.name Lib.Math.min.code 2 (some .int) ∈ px_tbl := px_in (List.mem_of_getElem? (i := 731) (by decide +kernel)) rfl
theorem js_abs : Cond.static Lib.Math.abs.name ∈ px_tbl := px_in (List.mem_of_getElem? (i := 697) (by decide +kernel)) rfl
theorem jc_abs : Cond.code Lib.Math.abs.name Lib.Math.abs.code 1 (some .int) ∈ px_tbl := px_in (List.mem_of_getElem? (i := 698) (by decide +kernel)) rfl
theorem ji_Math : Cond.initialized "java/lang/Math" ∈ px_tbl := px_in (List.mem_of_getElem? (i := 111) (by decide +kernel)) rfl
theorem jn_copy : Cond.native arraycopyName ∈ px_tbl := px_in (List.mem_of_getElem? (i := 588) (by decide +kernel)) rfl
theorem js_copy : Cond.static arraycopyName ∈ px_tbl := px_in (List.mem_of_getElem? (i := 587) (by decide +kernel)) rfl
theorem ji_System : Cond.initialized "java/lang/System" ∈ px_tbl := px_in (List.mem_of_getElem? (i := 110) (by decide +kernel)) rfl
theorem jm_obj : Cond.instanceMethod objectInit ∈ px_tbl := px_in (List.mem_of_getElem? (i := 119) (by decide +kernel)) rfl
theorem jc_obj : Cond.code objectInit ⟨#[0xb1]⟩ 1 none ∈ px_tbl := px_in (List.mem_of_getElem? (i := 120) (by decide +kernel)) rfl
theorem iiX11 : Cond.initialized RX11 ∈ px_tbl := px_in (List.mem_of_getElem? (i := 97) (by decide +kernel)) rfl
theorem iiX7 : Cond.initialized RX7 ∈ px_tbl := px_in (List.mem_of_getElem? (i := 98) (by decide +kernel)) rfl
theorem iiX2 : Cond.initialized RX2 ∈ px_tbl := px_in (List.mem_of_getElem? (i := 99) (by decide +kernel)) rfl
theorem iiX4 : Cond.initialized RX4 ∈ px_tbl := px_in (List.mem_of_getElem? (i := 100) (by decide +kernel)) rfl
theorem iiX3 : Cond.initialized RX3 ∈ px_tbl := px_in (List.mem_of_getElem? (i := 101) (by decide +kernel)) rfl
theorem iiX5 : Cond.initialized RX5 ∈ px_tbl := px_in (List.mem_of_getElem? (i := 102) (by decide +kernel)) rfl
theorem iiX1 : Cond.initialized RX1 ∈ px_tbl := px_in (List.mem_of_getElem? (i := 103) (by decide +kernel)) rfl
theorem iiX8 : Cond.initialized RX8 ∈ px_tbl := px_in (List.mem_of_getElem? (i := 104) (by decide +kernel)) rfl
theorem iiX6 : Cond.initialized RX6 ∈ px_tbl := px_in (List.mem_of_getElem? (i := 105) (by decide +kernel)) rfl
theorem iiX9 : Cond.initialized RX9 ∈ px_tbl := px_in (List.mem_of_getElem? (i := 106) (by decide +kernel)) rfl
theorem iiX10 : Cond.initialized RX10 ∈ px_tbl := px_in (List.mem_of_getElem? (i := 107) (by decide +kernel)) rfl
theorem iiX0 : Cond.initialized RX0 ∈ px_tbl := px_in (List.mem_of_getElem? (i := 108) (by decide +kernel)) rfl
theorem iiX12 : Cond.initialized RX12 ∈ px_tbl := px_in (List.mem_of_getElem? (i := 109) (by decide +kernel)) rfl
theorem clL_7 : Cond.classLink RL 7 RX11 ∈ px_tbl := px_in (List.mem_of_getElem? (i := 113) (by decide +kernel)) rfl
theorem iaX11 : Cond.instantiable RX11 15 ∈ px_tbl := px_in (List.mem_of_getElem? (i := 114) (by decide +kernel)) rfl
theorem clX11_7 : Cond.classLink RX11 7 RX7 ∈ px_tbl := px_in (List.mem_of_getElem? (i := 121) (by decide +kernel)) rfl
theorem iaX7 : Cond.instantiable RX7 10 ∈ px_tbl := px_in (List.mem_of_getElem? (i := 122) (by decide +kernel)) rfl
theorem ac_int : Cond.arrayClass .int ∈ px_tbl := px_in (List.mem_of_getElem? (i := 189) (by decide +kernel)) rfl
theorem clX11_10 : Cond.classLink RX11 10 RX2 ∈ px_tbl := px_in (List.mem_of_getElem? (i := 190) (by decide +kernel)) rfl
theorem iaX2 : Cond.instantiable RX2 7 ∈ px_tbl := px_in (List.mem_of_getElem? (i := 191) (by decide +kernel)) rfl
theorem clX11_15 : Cond.classLink RX11 15 RX4 ∈ px_tbl := px_in (List.mem_of_getElem? (i := 231) (by decide +kernel)) rfl
theorem iaX4 : Cond.instantiable RX4 2 ∈ px_tbl := px_in (List.mem_of_getElem? (i := 232) (by decide +kernel)) rfl
theorem clX11_20 : Cond.classLink RX11 20 RX3 ∈ px_tbl := px_in (List.mem_of_getElem? (i := 244) (by decide +kernel)) rfl
theorem iaX3 : Cond.instantiable RX3 5 ∈ px_tbl := px_in (List.mem_of_getElem? (i := 245) (by decide +kernel)) rfl
theorem clX11_23 : Cond.classLink RX11 23 RX5 ∈ px_tbl := px_in (List.mem_of_getElem? (i := 267) (by decide +kernel)) rfl
theorem iaX5 : Cond.instantiable RX5 3 ∈ px_tbl := px_in (List.mem_of_getElem? (i := 268) (by decide +kernel)) rfl
theorem ac_long : Cond.arrayClass .long ∈ px_tbl := px_in (List.mem_of_getElem? (i := 283) (by decide +kernel)) rfl
theorem clX11_43 : Cond.classLink RX11 43 RX1 ∈ px_tbl := px_in (List.mem_of_getElem? (i := 284) (by decide +kernel)) rfl
theorem iaX1 : Cond.instantiable RX1 7 ∈ px_tbl := px_in (List.mem_of_getElem? (i := 285) (by decide +kernel)) rfl
theorem clX11_52 : Cond.classLink RX11 52 RX8 ∈ px_tbl := px_in (List.mem_of_getElem? (i := 314) (by decide +kernel)) rfl
theorem iaX8 : Cond.instantiable RX8 5 ∈ px_tbl := px_in (List.mem_of_getElem? (i := 315) (by decide +kernel)) rfl
theorem clX8_7 : Cond.classLink RX8 7 RX3 ∈ px_tbl := px_in (List.mem_of_getElem? (i := 320) (by decide +kernel)) rfl
theorem clX11_63 : Cond.classLink RX11 63 RX6 ∈ px_tbl := px_in (List.mem_of_getElem? (i := 340) (by decide +kernel)) rfl
theorem iaX6 : Cond.instantiable RX6 4 ∈ px_tbl := px_in (List.mem_of_getElem? (i := 341) (by decide +kernel)) rfl
theorem clX11_72 : Cond.classLink RX11 72 RX9 ∈ px_tbl := px_in (List.mem_of_getElem? (i := 359) (by decide +kernel)) rfl
theorem iaX9 : Cond.instantiable RX9 6 ∈ px_tbl := px_in (List.mem_of_getElem? (i := 360) (by decide +kernel)) rfl
theorem clX9_23 : Cond.classLink RX9 23 RX2 ∈ px_tbl := px_in (List.mem_of_getElem? (i := 365) (by decide +kernel)) rfl
theorem clX11_81 : Cond.classLink RX11 81 RX10 ∈ px_tbl := px_in (List.mem_of_getElem? (i := 388) (by decide +kernel)) rfl
theorem iaX10 : Cond.instantiable RX10 6 ∈ px_tbl := px_in (List.mem_of_getElem? (i := 389) (by decide +kernel)) rfl
theorem ac_boolean : Cond.arrayClass .boolean ∈ px_tbl := px_in (List.mem_of_getElem? (i := 415) (by decide +kernel)) rfl
theorem clX11_88 : Cond.classLink RX11 88 RX0 ∈ px_tbl := px_in (List.mem_of_getElem? (i := 416) (by decide +kernel)) rfl
theorem iaX0 : Cond.instantiable RX0 5 ∈ px_tbl := px_in (List.mem_of_getElem? (i := 417) (by decide +kernel)) rfl
theorem clL_10 : Cond.classLink RL 10 RX12 ∈ px_tbl := px_in (List.mem_of_getElem? (i := 1136) (by decide +kernel)) rfl
theorem iaX12 : Cond.instantiable RX12 59 ∈ px_tbl := px_in (List.mem_of_getElem? (i := 1137) (by decide +kernel)) rfl
theorem ac_byte : Cond.arrayClass .byte ∈ px_tbl := px_in (List.mem_of_getElem? (i := 1319) (by decide +kernel)) rfl
theorem ac_short : Cond.arrayClass .short ∈ px_tbl := px_in (List.mem_of_getElem? (i := 1320) (by decide +kernel)) rfl
end
section
/-! THE SHAPE of the heap behind both constructors, and states over it: I the ints (fields, arrays), J the longs -/
abbrev px_C : Type := (Nat × Nat) ⊕ (Nat × List (Option Value))
def px_sh : List px_C := [.inr (11, [some (.ref 1), some (.ref 8), some (.ref 23), some (.ref 13), some (.ref 28), some (.ref 33), some (.ref 14), some (.ref 40), some (.ref 42), some (.ref 48), some (.ref 51), some (.ref 19), none, none, none]),
  .inr (7, [some (.ref 2), some (.ref 3), some (.ref 4), some (.ref 5), some (.ref 6), some (.ref 7), none, none, none, none]),
  .inl (0, 10),
  .inl (0, 10),
  .inl (0, 10),
  .inl (0, 10),
  .inl (0, 10),
  .inl (0, 10),
  .inr (2, [some (.ref 9), some (.ref 10), some (.ref 11), some (.ref 12), none, none, some (.ref 1)]),
  .inl (0, 7),
  .inl (0, 10),
  .inl (0, 10),
  .inl (0, 6),
  .inr (4, [some (.ref 1), some (.ref 8)]),
  .inr (3, [some (.ref 15), some (.ref 16), some (.ref 17), some (.ref 18), none]),
  .inl (0, 6),
  .inl (0, 128),
  .inl (0, 128),
  .inl (0, 128),
  .inr (5, [some (.ref 20), some (.ref 21), some (.ref 22)]),
  .inl (0, 6),
  .inl (0, 6),
  .inl (4, 360),
  .inr (2, [some (.ref 24), some (.ref 25), some (.ref 26), some (.ref 27), none, none, some (.ref 1)]),
  .inl (0, 7),
  .inl (0, 10),
  .inl (0, 10),
  .inl (0, 6),
  .inr (1, [some (.ref 29), some (.ref 30), some (.ref 31), some (.ref 32), some (.ref 13), none, none]),
  .inl (0, 40),
  .inl (0, 40),
  .inl (0, 40),
  .inl (0, 40),
  .inr (8, [some (.ref 34), some (.ref 39), none, none, none]),
  .inr (3, [some (.ref 35), some (.ref 36), some (.ref 37), some (.ref 38), none]),
  .inl (0, 6),
  .inl (0, 128),
  .inl (0, 128),
  .inl (0, 128),
  .inl (0, 120),
  .inr (6, [some (.ref 1), some (.ref 8), some (.ref 14), some (.ref 41)]),
  .inl (0, 10),
  .inr (9, [some (.ref 1), some (.ref 8), some (.ref 43), some (.ref 19), none, none]),
  .inr (2, [some (.ref 44), some (.ref 45), some (.ref 46), some (.ref 47), none, none, some (.ref 1)]),
  .inl (0, 7),
  .inl (0, 10),
  .inl (0, 10),
  .inl (0, 6),
  .inr (10, [some (.ref 1), some (.ref 8), some (.ref 49), some (.ref 50), none, none]),
  .inl (0, 7),
  .inl (2, 128),
  .inr (0, [some (.ref 52), some (.ref 53), none, none, none]),
  .inl (0, 50),
  .inl (0, 24),
  .inr (12, [none, none, some (.ref 55), none, some (.ref 56), some (.ref 57), some (.ref 58), some (.ref 59), some (.ref 60), some (.ref 61), some (.ref 62), some (.ref 63), some (.ref 64), none, none, some (.ref 65), some (.ref 66), some (.ref 67), some (.ref 68), some (.ref 69), none, none, none, none, none, some (.ref 70), some (.ref 71), some (.ref 72), some (.ref 73), some (.ref 74), some (.ref 75), some (.ref 76), none, some (.ref 77), some (.ref 78), some (.ref 79), none, none, none, none, some (.ref 80), some (.ref 81), none, none, none, none, none, some (.ref 82), some (.ref 83), some (.ref 84), some (.ref 85), none, some (.ref 86), none, some (.ref 87), some (.ref 88), some (.ref 89), some (.ref 90), some (.ref 91)]),
  .inl (0, 7),
  .inl (0, 10),
  .inl (0, 10),
  .inl (0, 10),
  .inl (0, 10),
  .inl (0, 10),
  .inl (0, 10),
  .inl (0, 10),
  .inl (0, 10),
  .inl (0, 4),
  .inl (0, 40),
  .inl (0, 40),
  .inl (0, 40),
  .inl (0, 40),
  .inl (1, 120),
  .inl (1, 260),
  .inl (0, 260),
  .inl (0, 2),
  .inl (3, 122),
  .inl (3, 122),
  .inl (0, 6),
  .inl (0, 130),
  .inl (0, 7),
  .inl (0, 10),
  .inl (0, 10),
  .inl (0, 10),
  .inl (0, 6),
  .inl (0, 7),
  .inl (0, 10),
  .inl (0, 10),
  .inl (0, 6),
  .inl (0, 50),
  .inl (0, 24),
  .inl (0, 6),
  .inl (0, 6),
  .inl (4, 360),
  .inl (4, 60)]
abbrev px_I : Type := Nat → Nat → Int32
abbrev px_J : Type := Nat → Nat → Int64
def px_kv (I : px_I) (p k : Nat) : Option Value → Value
  | some v => v
  | none => .int (I p k)
def px_mc (I : px_I) (J : px_J) (p : Nat) : px_C → px_E
  | .inl a => .inl (a.1, a.2, if a.1 = 4 then .inr (.inl (J p)) else .inl (I p))
  | .inr o => .inr (o.1, o.2.mapIdx fun k x => px_kv I p k x)
def px_mk (I : px_I) (J : px_J) : px_H := px_sh.mapIdx fun p c => px_mc I J p c
theorem px_mk_get {I : px_I} {J : px_J} {p : Nat} {c : px_C} (h : px_sh[p]? = some c) : (px_mk I J)[p]? = some (px_mc I J p c) := by
  simp [px_mk, List.getElem?_mapIdx, h]
def px_up (I : px_I) (p k : Nat) (x : Int32) : px_I := fun p' k' => if p' = p ∧ k' = k then x else I p' k'
def px_upL (J : px_J) (p k : Nat) (x : Int64) : px_J := fun p' k' => if p' = p ∧ k' = k then x else J p' k'
theorem px_up_same {I : px_I} {p k : Nat} {x : Int32} : px_up I p k x p k = x := by simp [px_up]
theorem px_up_row {I : px_I} {p p' k : Nat} {x : Int32} (h : p' ≠ p) : px_up I p k x p' = I p' := by
  funext k'; simp [px_up, h]
theorem px_mk_set {I I' : px_I} {J J' : px_J} {p : Nat} {c : px_C} (h : px_sh[p]? = some c) (hI : ∀ q, q ≠ p → I' q = I q) (hJ : ∀ q, q ≠ p → J' q = J q) : (px_mk I J).set p (px_mc I' J' p c) = px_mk I' J' := by
  apply List.ext_getElem?
  intro i
  have hl : p < px_sh.length := (List.getElem?_eq_some_iff.mp h).1
  rw [List.getElem?_set]
  by_cases hi : p = i
  · subst hi
    rw [if_pos rfl, px_mk_get h]
    rw [if_pos (by simpa [px_mk] using hl)]
  · rw [if_neg hi]
    have hi' : i ≠ p := fun e => hi e.symm
    simp only [px_mk, List.getElem?_mapIdx]
    cases hc : px_sh[i]? with
    | none => rfl
    | some d =>
      simp only [Option.map_some]
      congr 1
      unfold px_mc
      cases d with
      | inl a => simp only [hI i hi', hJ i hi']
      | inr o => simp only [px_kv, hI i hi']
/-- arrays are short -/
theorem px_short {p t n : Nat} (h : px_sh[p]? = some (.inl (t, n))) : n < 2 ^ 31 := by
  have hall : px_sh.all (fun c => match c with | .inl a => decide (a.2 < 2 ^ 31) | _ => true) = true := by decide +kernel
  have := List.all_eq_true.mp hall _ (List.mem_of_getElem? h)
  simpa using this
theorem px_ix {n j : Nat} {i : Int32} (hi : i = nI j) (hj : j < n) (hn : n < 2 ^ 31) : vp_in i n ∧ i.toNatClampNeg = j := by
  subst hi
  exact ⟨vp_in_nI hj hn, Int32.toNatClampNeg_ofNat_of_lt (Nat.lt_trans hj hn)⟩
abbrev px_Q : Type := Option Value → px_I → px_J → Prop
def px_q (Q : px_Q) : Option Value → px_H → Prop := fun r h' => ∃ (I' : px_I) (J' : px_J), h' = px_mk I' J' ∧ Q r I' J'
section PV
variable {l : Launch} {R : Room} {M : px_M} {XT : px_X} {kc ks pc : Nat} {ls st : List Value} {I : px_I} {J : px_J} {Q : px_Q}
theorem V_geti {idx ci k p0 : Nat} {fin : Bool} {ty : FieldType} {kk0 : List (Option Value)} (hd : decode M.2.1 pc = .ok (.getfield idx, 3)) (hf : px_fl M.1.cls idx ci k fin ty) (hs : px_sh[p0]? = some (.inr (ci, kk0))) (hk : kk0[k]? = some none) (kk : V0 l R M XT kc ks (pc + 3) ls (.int (I p0 k) :: st) (px_mk I J) (px_q Q)) : V0 l R M XT kc ks pc ls (.ref p0 :: st) (px_mk I J) (px_q Q) :=
  V0_get hd hf (fs := kk0.mapIdx fun k x => px_kv I p0 k x) (px_mk_get hs) (by rw [List.getElem?_mapIdx, hk]; rfl) kk
theorem V_getr {idx ci k p0 : Nat} {fin : Bool} {ty : FieldType} {v : Value} {kk0 : List (Option Value)} (hd : decode M.2.1 pc = .ok (.getfield idx, 3)) (hf : px_fl M.1.cls idx ci k fin ty) (hs : px_sh[p0]? = some (.inr (ci, kk0))) (hk : kk0[k]? = some (some v)) (kk : V0 l R M XT kc ks (pc + 3) ls (v :: st) (px_mk I J) (px_q Q)) : V0 l R M XT kc ks pc ls (.ref p0 :: st) (px_mk I J) (px_q Q) :=
  V0_get hd hf (fs := kk0.mapIdx fun k x => px_kv I p0 k x) (px_mk_get hs) (by rw [List.getElem?_mapIdx, hk]; rfl) kk
theorem px_put_eq {ci k p0 : Nat} {kk0 : List (Option Value)} {x : Int32} (hs : px_sh[p0]? = some (.inr (ci, kk0))) (hk : kk0[k]? = some none) : (px_mk I J).set p0 (.inr (ci, (kk0.mapIdx fun k x => px_kv I p0 k x).set k (.int x))) = px_mk (px_up I p0 k x) J := by
  rw [← px_mk_set hs (I := I) (J := J) (I' := px_up I p0 k x) (J' := J) (fun q hq => px_up_row hq) (fun _ _ => rfl)]
  congr 1
  show _ = Sum.inr (ci, kk0.mapIdx fun k' x' => px_kv (px_up I p0 k x) p0 k' x')
  congr 2
  apply List.ext_getElem?
  intro i
  have hl : k < kk0.length := (List.getElem?_eq_some_iff.mp hk).1
  rw [List.getElem?_set]
  by_cases hi : k = i
  · subst hi
    rw [if_pos rfl, if_pos (by simpa using hl), List.getElem?_mapIdx, hk]
    simp [px_kv, px_up]
  · rw [if_neg hi, List.getElem?_mapIdx, List.getElem?_mapIdx]
    cases hc : kk0[i]? with
    | none => rfl
    | some d =>
      cases d with
      | none => simp [px_kv, px_up, Ne.symm hi]
      | some v => rfl
theorem V_puti {idx ci k p0 : Nat} {x : Int32} {kk0 : List (Option Value)} (hd : decode M.2.1 pc = .ok (.putfield idx, 3)) (hf : px_fl M.1.cls idx ci k false .int) (hs : px_sh[p0]? = some (.inr (ci, kk0))) (hk : kk0[k]? = some none) (kk : V0 l R M XT kc ks (pc + 3) ls st (px_mk (px_up I p0 k x) J) (px_q Q)) : V0 l R M XT kc ks pc ls (.int x :: .ref p0 :: st) (px_mk I J) (px_q Q) := by
  refine V0_put hd hf (fs := kk0.mapIdx fun k x => px_kv I p0 k x) (px_mk_get hs) (by have := (List.getElem?_eq_some_iff.mp hk).1; simpa using this) (fun _ => rfl) (fun _ => rfl) ?_
  rw [px_put_eq hs hk]
  exact kk
theorem V_putz {idx ci k p0 : Nat} {x : Int32} {kk0 : List (Option Value)} (hd : decode M.2.1 pc = .ok (.putfield idx, 3)) (hf : px_fl M.1.cls idx ci k false .boolean) (hs : px_sh[p0]? = some (.inr (ci, kk0))) (hk : kk0[k]? = some none) (hx : x = 0 ∨ x = 1) (kk : V0 l R M XT kc ks (pc + 3) ls st (px_mk (px_up I p0 k x) J) (px_q Q)) : V0 l R M XT kc ks pc ls (.int x :: .ref p0 :: st) (px_mk I J) (px_q Q) := by
  refine V0_put hd hf (fs := kk0.mapIdx fun k x => px_kv I p0 k x) (px_mk_get hs) (by have := (List.getElem?_eq_some_iff.mp hk).1; simpa using this) (fun E => by show narrow FieldType.boolean (Value.int x) = Value.int x; rcases hx with rfl | rfl <;> decide +kernel) (fun E => by show fits FieldType.boolean (Value.int x) = true; rcases hx with rfl | rfl <;> decide +kernel) ?_
  rw [px_put_eq hs hk]
  exact kk

theorem V_iald {p0 n : Nat} {i : Int32} (j : Nat) (hd : decode M.2.1 pc = .ok (.iaload, 1)) (hs : px_sh[p0]? = some (.inl (0, n))) (hi : i = nI j) (hj : j < n) (kk : V0 l R M XT kc ks (pc + 1) ls (.int (I p0 j) :: st) (px_mk I J) (px_q Q)) : V0 l R M XT kc ks pc ls (.int i :: .ref p0 :: st) (px_mk I J) (px_q Q) := by
  obtain ⟨h1, h2⟩ := px_ix hi hj (px_short hs)
  refine V0_iald hd (f := I p0) (px_mk_get hs) h1 ?_
  rw [h2]
  exact kk
theorem V_bald {p0 n : Nat} {i : Int32} (j : Nat) (hd : decode M.2.1 pc = .ok (.baload, 1)) (hs : px_sh[p0]? = some (.inl (1, n))) (hi : i = nI j) (hj : j < n) (kk : V0 l R M XT kc ks (pc + 1) ls (.int (I p0 j) :: st) (px_mk I J) (px_q Q)) : V0 l R M XT kc ks pc ls (.int i :: .ref p0 :: st) (px_mk I J) (px_q Q) := by
  obtain ⟨h1, h2⟩ := px_ix hi hj (px_short hs)
  refine V0_bald hd (f := I p0) (px_mk_get hs) h1 ?_
  rw [h2]
  exact kk
theorem V_zald {p0 n : Nat} {i : Int32} (j : Nat) (hd : decode M.2.1 pc = .ok (.baload, 1)) (hs : px_sh[p0]? = some (.inl (2, n))) (hi : i = nI j) (hj : j < n) (kk : V0 l R M XT kc ks (pc + 1) ls (.int (I p0 j) :: st) (px_mk I J) (px_q Q)) : V0 l R M XT kc ks pc ls (.int i :: .ref p0 :: st) (px_mk I J) (px_q Q) := by
  obtain ⟨h1, h2⟩ := px_ix hi hj (px_short hs)
  refine V0_zald hd (f := I p0) (px_mk_get hs) h1 ?_
  rw [h2]
  exact kk
theorem V_sald {p0 n : Nat} {i : Int32} (j : Nat) (hd : decode M.2.1 pc = .ok (.saload, 1)) (hs : px_sh[p0]? = some (.inl (3, n))) (hi : i = nI j) (hj : j < n) (kk : V0 l R M XT kc ks (pc + 1) ls (.int (I p0 j) :: st) (px_mk I J) (px_q Q)) : V0 l R M XT kc ks pc ls (.int i :: .ref p0 :: st) (px_mk I J) (px_q Q) := by
  obtain ⟨h1, h2⟩ := px_ix hi hj (px_short hs)
  refine V0_sald hd (f := I p0) (px_mk_get hs) h1 ?_
  rw [h2]
  exact kk
theorem V_lald {p0 n : Nat} {i : Int32} (j : Nat) (hd : decode M.2.1 pc = .ok (.laload, 1)) (hs : px_sh[p0]? = some (.inl (4, n))) (hi : i = nI j) (hj : j < n) (kk : V0 l R M XT kc ks (pc + 1) ls (.long (J p0 j) :: st) (px_mk I J) (px_q Q)) : V0 l R M XT kc ks pc ls (.int i :: .ref p0 :: st) (px_mk I J) (px_q Q) := by
  obtain ⟨h1, h2⟩ := px_ix hi hj (px_short hs)
  refine V0_lald hd (f := J p0) (px_mk_get hs) h1 ?_
  rw [h2]
  exact kk
theorem V_iast {p0 n : Nat} {i x : Int32} (j : Nat) (hd : decode M.2.1 pc = .ok (.iastore, 1)) (hs : px_sh[p0]? = some (.inl (0, n))) (hi : i = nI j) (hj : j < n) (kk : V0 l R M XT kc ks (pc + 1) ls st (px_mk (px_up I p0 j x) J) (px_q Q)) : V0 l R M XT kc ks pc ls (.int x :: .int i :: .ref p0 :: st) (px_mk I J) (px_q Q) := by
  obtain ⟨h1, h2⟩ := px_ix hi hj (px_short hs)
  refine V0_iast hd (f := I p0) (px_mk_get hs) h1 ?_
  rw [h2]
  have e : (Sum.inl (0, n, Sum.inl (upd (I p0) j x)) : px_E) = px_mc (px_up I p0 j x) J p0 (.inl (0, n)) := by
    show _ = Sum.inl (0, n, Sum.inl (px_up I p0 j x p0))
    congr 3
    congr 1
    funext k
    simp [upd, px_up]
  rw [e, px_mk_set hs (fun q hq => px_up_row hq) (fun _ _ => rfl)]
  exact kk
theorem V_bast {p0 n : Nat} {i x : Int32} (j : Nat) (hd : decode M.2.1 pc = .ok (.bastore, 1)) (hs : px_sh[p0]? = some (.inl (1, n))) (hi : i = nI j) (hj : j < n) (kk : V0 l R M XT kc ks (pc + 1) ls st (px_mk (px_up I p0 j (vp_nar .byte x)) J) (px_q Q)) : V0 l R M XT kc ks pc ls (.int x :: .int i :: .ref p0 :: st) (px_mk I J) (px_q Q) := by
  obtain ⟨h1, h2⟩ := px_ix hi hj (px_short hs)
  refine V0_bast hd (f := I p0) (px_mk_get hs) h1 ?_
  rw [h2]
  have e : (Sum.inl (1, n, Sum.inl (upd (I p0) j (vp_nar .byte x))) : px_E) = px_mc (px_up I p0 j (vp_nar .byte x)) J p0 (.inl (1, n)) := by
    show _ = Sum.inl (1, n, Sum.inl (px_up I p0 j (vp_nar .byte x) p0))
    congr 3
    congr 1
    funext k
    simp [upd, px_up]
  rw [e, px_mk_set hs (fun q hq => px_up_row hq) (fun _ _ => rfl)]
  exact kk
theorem V_zast {p0 n : Nat} {i x : Int32} (j : Nat) (hd : decode M.2.1 pc = .ok (.bastore, 1)) (hs : px_sh[p0]? = some (.inl (2, n))) (hi : i = nI j) (hj : j < n) (kk : V0 l R M XT kc ks (pc + 1) ls st (px_mk (px_up I p0 j (vp_nar .boolean x)) J) (px_q Q)) : V0 l R M XT kc ks pc ls (.int x :: .int i :: .ref p0 :: st) (px_mk I J) (px_q Q) := by
  obtain ⟨h1, h2⟩ := px_ix hi hj (px_short hs)
  refine V0_zast hd (f := I p0) (px_mk_get hs) h1 ?_
  rw [h2]
  have e : (Sum.inl (2, n, Sum.inl (upd (I p0) j (vp_nar .boolean x))) : px_E) = px_mc (px_up I p0 j (vp_nar .boolean x)) J p0 (.inl (2, n)) := by
    show _ = Sum.inl (2, n, Sum.inl (px_up I p0 j (vp_nar .boolean x) p0))
    congr 3
    congr 1
    funext k
    simp [upd, px_up]
  rw [e, px_mk_set hs (fun q hq => px_up_row hq) (fun _ _ => rfl)]
  exact kk
theorem V_sast {p0 n : Nat} {i x : Int32} (j : Nat) (hd : decode M.2.1 pc = .ok (.sastore, 1)) (hs : px_sh[p0]? = some (.inl (3, n))) (hi : i = nI j) (hj : j < n) (kk : V0 l R M XT kc ks (pc + 1) ls st (px_mk (px_up I p0 j (vp_nar .short x)) J) (px_q Q)) : V0 l R M XT kc ks pc ls (.int x :: .int i :: .ref p0 :: st) (px_mk I J) (px_q Q) := by
  obtain ⟨h1, h2⟩ := px_ix hi hj (px_short hs)
  refine V0_sast hd (f := I p0) (px_mk_get hs) h1 ?_
  rw [h2]
  have e : (Sum.inl (3, n, Sum.inl (upd (I p0) j (vp_nar .short x))) : px_E) = px_mc (px_up I p0 j (vp_nar .short x)) J p0 (.inl (3, n)) := by
    show _ = Sum.inl (3, n, Sum.inl (px_up I p0 j (vp_nar .short x) p0))
    congr 3
    congr 1
    funext k
    simp [upd, px_up]
  rw [e, px_mk_set hs (fun q hq => px_up_row hq) (fun _ _ => rfl)]
  exact kk
theorem V_last {p0 n : Nat} {i : Int32} {x : Int64} (j : Nat) (hd : decode M.2.1 pc = .ok (.lastore, 1)) (hs : px_sh[p0]? = some (.inl (4, n))) (hi : i = nI j) (hj : j < n) (kk : V0 l R M XT kc ks (pc + 1) ls st (px_mk I (px_upL J p0 j x)) (px_q Q)) : V0 l R M XT kc ks pc ls (.long x :: .int i :: .ref p0 :: st) (px_mk I J) (px_q Q) := by
  obtain ⟨h1, h2⟩ := px_ix hi hj (px_short hs)
  refine V0_last hd (f := J p0) (px_mk_get hs) h1 ?_
  rw [h2]
  have e : (Sum.inl (4, n, Sum.inr (Sum.inl (vp_updL (J p0) j x))) : px_E) = px_mc I (px_upL J p0 j x) p0 (.inl (4, n)) := by
    show _ = Sum.inl (4, n, Sum.inr (Sum.inl (px_upL J p0 j x p0)))
    congr 4
    congr 1
    funext k
    simp [vp_updL, px_upL]
  rw [e, px_mk_set hs (fun _ _ => rfl) (fun q hq => by funext k; simp [px_upL, hq])]
  exact kk
theorem V_alen {p0 t n : Nat} (v : Int32) (hd : decode M.2.1 pc = .ok (.arraylength, 1)) (hs : px_sh[p0]? = some (.inl (t, n))) (ht : t < 5) (hv : Int32.ofNat n = v) (kk : V0 l R M XT kc ks (pc + 1) ls (.int v :: st) (px_mk I J) (px_q Q)) : V0 l R M XT kc ks pc ls (.ref p0 :: st) (px_mk I J) (px_q Q) := V0_alen v hd (px_mk_get hs) ht hv kk
theorem V_tald {u : UInt32} {n : Nat} {f : Nat → Int32} {i : Int32} (j : Nat) (hd : decode M.2.1 pc = .ok (.iaload, 1)) (ht : (px_tab XT.2)[u.toNat]? = some (n, f)) (hn : n < 2 ^ 31) (hi : i = nI j) (hj : j < n) (kk : V0 l R M XT kc ks (pc + 1) ls (.int (f j) :: st) (px_mk I J) (px_q Q)) : V0 l R M XT kc ks pc ls (.int i :: .float u :: st) (px_mk I J) (px_q Q) := by
  obtain ⟨h1, h2⟩ := px_ix hi hj hn
  refine V0_tald hd ht h1 ?_
  rw [h2]
  exact kk
/-- a part of an array copied -/
def px_cp (I : px_I) (q0 sp q1 dp n : Nat) : px_I := fun p k => if p = q1 ∧ dp ≤ k ∧ k < dp + n then I q0 (sp + (k - dp)) else I p k
def px_cpL (J : px_J) (q0 sp q1 dp n : Nat) : px_J := fun p k => if p = q1 ∧ dp ≤ k ∧ k < dp + n then J q0 (sp + (k - dp)) else J p k
theorem px_nn {i : Int32} {j : Nat} (hi : i = nI j) (hj : j < 2 ^ 31) : ¬ i < 0 ∧ i.toNatClampNeg = j := by
  subst hi
  refine ⟨?_, Int32.toNatClampNeg_ofNat_of_lt hj⟩
  rw [Int32.lt_iff_toInt_lt, nI_toInt hj]
  simp
theorem V_copyi {idx q0 q1 n0 n1 : Nat} {sp dp n : Int32} (s0 d0 k0 : Nat) (hz : XT.1 = false) (hd : decode M.2.1 pc = .ok (.invokestatic idx, 3)) (hl : Cond.methodLink M.1.cls idx arraycopyName ∈ px_tbl) (h0 : px_sh[q0]? = some (.inl (0, n0))) (h1 : px_sh[q1]? = some (.inl (0, n1))) (e1 : sp = nI s0) (e2 : dp = nI d0) (e3 : n = nI k0) (z4 : s0 + k0 ≤ n0) (z5 : d0 + k0 ≤ n1) (hR : 1 ≤ R.frames) (hst : (st.map fun v => v.category).sum + (nativeFrameWords "java/lang/System" "arraycopy" 5 + 11) ≤ R.locals)
    (kk : V0 l R M XT kc ks (pc + 3) ls st (px_mk (px_cp I q0 s0 q1 d0 k0) J) (px_q Q)) : V0 l R M XT kc ks pc ls (.int n :: .int dp :: .ref q1 :: .int sp :: .ref q0 :: st) (px_mk I J) (px_q Q) := by
  have b0 := px_short h0
  have b1 := px_short h1
  obtain ⟨a1, a2⟩ := px_nn e1 (by omega)
  obtain ⟨a3, a4⟩ := px_nn e2 (by omega)
  obtain ⟨a5, a6⟩ := px_nn e3 (by omega)
  refine V0_copyi (f := I q0) (g := I q1) hz hd hl jn_copy js_copy ji_System (px_mk_get h0) (px_mk_get h1) a1 a3 a5 (by rw [a2, a6]; exact z4) (by rw [a4, a6]; exact z5) hR hst ?_
  rw [a2, a4, a6]
  have e : (Sum.inl (0, n1, Sum.inl (va_cpy (I q0) (I q1) s0 d0 k0)) : px_E) = px_mc (px_cp I q0 s0 q1 d0 k0) J q1 (.inl (0, n1)) := by
    show _ = Sum.inl (0, n1, Sum.inl (px_cp I q0 s0 q1 d0 k0 q1))
    congr 3
    congr 1
    funext k
    simp [va_cpy, px_cp]
  rw [e, px_mk_set h1 (fun q hq => by funext k; simp [px_cp, hq]) (fun _ _ => rfl)]
  exact kk
theorem V_copyl {idx q0 q1 n0 n1 : Nat} {sp dp n : Int32} (s0 d0 k0 : Nat) (hz : XT.1 = false) (hd : decode M.2.1 pc = .ok (.invokestatic idx, 3)) (hl : Cond.methodLink M.1.cls idx arraycopyName ∈ px_tbl) (h0 : px_sh[q0]? = some (.inl (4, n0))) (h1 : px_sh[q1]? = some (.inl (4, n1))) (e1 : sp = nI s0) (e2 : dp = nI d0) (e3 : n = nI k0) (z4 : s0 + k0 ≤ n0) (z5 : d0 + k0 ≤ n1) (hR : 1 ≤ R.frames) (hst : (st.map fun v => v.category).sum + (nativeFrameWords "java/lang/System" "arraycopy" 5 + 11) ≤ R.locals)
    (kk : V0 l R M XT kc ks (pc + 3) ls st (px_mk I (px_cpL J q0 s0 q1 d0 k0)) (px_q Q)) : V0 l R M XT kc ks pc ls (.int n :: .int dp :: .ref q1 :: .int sp :: .ref q0 :: st) (px_mk I J) (px_q Q) := by
  have b0 := px_short h0
  have b1 := px_short h1
  obtain ⟨a1, a2⟩ := px_nn e1 (by omega)
  obtain ⟨a3, a4⟩ := px_nn e2 (by omega)
  obtain ⟨a5, a6⟩ := px_nn e3 (by omega)
  refine V0_copyl (f := J q0) (g := J q1) hz hd hl jn_copy js_copy ji_System (px_mk_get h0) (px_mk_get h1) a1 a3 a5 (by rw [a2, a6]; exact z4) (by rw [a4, a6]; exact z5) hR hst ?_
  rw [a2, a4, a6]
  have e : (Sum.inl (4, n1, Sum.inr (Sum.inl (va_cpy (J q0) (J q1) s0 d0 k0))) : px_E) = px_mc I (px_cpL J q0 s0 q1 d0 k0) q1 (.inl (4, n1)) := by
    show _ = Sum.inl (4, n1, Sum.inr (Sum.inl (px_cpL J q0 s0 q1 d0 k0 q1)))
    congr 4
    congr 1
    funext k
    simp [va_cpy, px_cpL]
  rw [e, px_mk_set h1 (fun _ _ => rfl) (fun q hq => by funext k; simp [px_cpL, hq])]
  exact kk
/-- ends -/
theorem V_reti (x : Int32) (hd : decode M.2.1 pc = .ok (.ireturn, 1)) (ht : M.2.2.2 = some .int) (hq : Q (some (.int x)) I J) : V0 l R M XT kc ks pc ls [.int x] (px_mk I J) (px_q Q) := V0_end (some (.int x)) ⟨hd, .int, ht, rfl⟩ rfl ⟨I, J, rfl, hq⟩
theorem V_retz (x : Int32) (hd : decode M.2.1 pc = .ok (.ireturn, 1)) (ht : M.2.2.2 = some .boolean) (hx : x = 0 ∨ x = 1) (hq : Q (some (.int x)) I J) : V0 l R M XT kc ks pc ls [.int x] (px_mk I J) (px_q Q) := V0_end (some (.int x)) ⟨hd, .boolean, ht, by rcases hx with rfl | rfl <;> decide +kernel⟩ rfl ⟨I, J, rfl, hq⟩
theorem V_retl (x : Int64) (hd : decode M.2.1 pc = .ok (.lreturn, 1)) (ht : M.2.2.2 = some .long) (hq : Q (some (.long x)) I J) : V0 l R M XT kc ks pc ls [.long x] (px_mk I J) (px_q Q) := V0_end (some (.long x)) ⟨hd, ht⟩ rfl ⟨I, J, rfl, hq⟩
theorem V_retr (x : Nat) {rt : FieldType} (hd : decode M.2.1 pc = .ok (.areturn, 1)) (ht : M.2.2.2 = some rt) (hr : (∃ n, rt = .object n) ∨ ∃ t, rt = .array t) (hq : Q (some (.ref x)) I J) : V0 l R M XT kc ks pc ls [.ref x] (px_mk I J) (px_q Q) := V0_end (some (.ref x)) ⟨hd, rt, ht, hr⟩ rfl ⟨I, J, rfl, hq⟩
theorem V_retv (hd : decode M.2.1 pc = .ok (.return_, 1)) (ht : M.2.2.2 = none) (hq : Q none I J) : V0 l R M XT kc ks pc ls [] (px_mk I J) (px_q Q) := V0_end none ⟨hd, ht⟩ rfl ⟨I, J, rfl, hq⟩
end PV
/-- CONTRACTS over states: of depth d, nothing is made -/
def Ct (l : Launch) (M : px_M) (d : Nat) (args : List Value) (I : px_I) (J : px_J) (Q : px_Q) : Prop := Ct0 l false M d 0 0 args (px_mk I J) (px_q Q)
/-- an int comes back, nothing is changed -/
def CtI (l : Launch) (M : px_M) (d : Nat) (args : List Value) (I : px_I) (J : px_J) (x : Int32) : Prop := Ct l M d args I J (fun r I' J' => r = some (.int x) ∧ I' = I ∧ J' = J)
theorem Ct.of {l : Launch} {M : px_M} {d : Nat} {args : List Value} {I : px_I} {J : px_J} {Q : px_Q} (hy : plainFor M.1 = true) (hn : (px_ent args).length ≤ M.2.2.1) (ls : List Value) (hls : px_pad M.2.2.1 (px_ent args) = ls)
    (k : V0 l (px_rm d 0 0) M (false, []) 0 0 0 ls [] (px_mk I J) (px_q Q)) : Ct l M d args I J Q := Ct0.of hy hn ls hls k
theorem Ct.mono {l : Launch} {M : px_M} {d : Nat} {args : List Value} {I : px_I} {J : px_J} {Q Q' : px_Q} (c : Ct l M d args I J Q) (h : ∀ r I' J', Q r I' J' → Q' r I' J') : Ct l M d args I J Q' :=
  Ct0.mono c (fun r h' ⟨I', J', e, hq⟩ => ⟨I', J', e, h r I' J' hq⟩)
section PC
variable {l : Launch} {R : Room} {M : px_M} {XT : px_X} {kc ks pc : Nat} {ls st : List Value} {I : px_I} {J : px_J} {Q : px_Q}

theorem V_callV {M' : px_M} {n d idx : Nat} {b ci : Nat} {kk0 : List (Option Value)} {As : List Value} {st0 : List Value} {Qc : px_Q} (hd : decode M.2.1 pc = .ok (.invokevirtual idx, 3)) (hl : Cond.methodLink M.1.cls idx M'.1 ∈ px_tbl) (ho : px_okV M' n) (hz : XT.1 = false) (hC : Ct l M' d (.ref b :: As) I J Qc) (hn : As.length = n) (hst : st0 = As.reverse ++ .ref b :: st) (hs : px_sh[b]? = some (.inr (ci, kk0))) (hci : vwCl[ci]?.map (fun q => q.1) = some M'.1.cls) (hR : d + 1 ≤ R.frames ∧ 8 + (M'.2.2.1 + 11) + 41 * d ≤ R.locals) (hc : kc ≤ R.cells ∧ ks ≤ R.slots) (hw : (st.map fun v => v.category).sum ≤ 8)
    (kk : ∀ (r : Option Value) (I1 : px_I) (J1 : px_J), Qc r I1 J1 → V0 l R M XT kc ks (pc + 3) ls (r.toList ++ st) (px_mk I1 J1) (px_q Q)) : V0 l R M XT kc ks pc ls st0 (px_mk I J) (px_q Q) := by
  refine V0_callV (kc' := 0) (ks' := 0) (Qk := px_q Qc) (ci := ci) (fs := kk0.mapIdx fun k x => px_kv I b k x) hd hl ho (by rw [hz]; exact hC) hn hst (px_mk_get hs) hci hR hc.1 hc.2 hw ?_
  intro r h1 hh
  obtain ⟨I1, J1, e, hq⟩ := hh
  rw [e]
  exact kk r I1 J1 hq
theorem V_callVi {M' : px_M} {n d idx : Nat} {b ci : Nat} {kk0 : List (Option Value)} {As : List Value} {st0 : List Value} {x : Int32} (hd : decode M.2.1 pc = .ok (.invokevirtual idx, 3)) (hl : Cond.methodLink M.1.cls idx M'.1 ∈ px_tbl) (ho : px_okV M' n) (hz : XT.1 = false) (hC : CtI l M' d (.ref b :: As) I J x) (hn : As.length = n) (hst : st0 = As.reverse ++ .ref b :: st) (hs : px_sh[b]? = some (.inr (ci, kk0))) (hci : vwCl[ci]?.map (fun q => q.1) = some M'.1.cls) (hR : d + 1 ≤ R.frames ∧ 8 + (M'.2.2.1 + 11) + 41 * d ≤ R.locals) (hc : kc ≤ R.cells ∧ ks ≤ R.slots) (hw : (st.map fun v => v.category).sum ≤ 8)
    (kk : V0 l R M XT kc ks (pc + 3) ls (.int x :: st) (px_mk I J) (px_q Q)) : V0 l R M XT kc ks pc ls st0 (px_mk I J) (px_q Q) := by
  refine V_callV hd hl ho hz hC hn hst hs hci hR hc hw ?_
  intro r I1 J1 hh
  obtain ⟨e1, e2, e3⟩ := hh
  rw [e1, e2, e3]
  exact kk
theorem V_callS {M' : px_M} {n d idx : Nat} {As : List Value} {st0 : List Value} {Qc : px_Q} (hd : decode M.2.1 pc = .ok (.invokestatic idx, 3)) (hl : Cond.methodLink M.1.cls idx M'.1 ∈ px_tbl) (ho : px_okS M' n) (hz : XT.1 = false) (hC : Ct l M' d As I J Qc) (hn : As.length = n) (hst : st0 = As.reverse ++ st) (hR : d + 1 ≤ R.frames ∧ 8 + (M'.2.2.1 + 11) + 41 * d ≤ R.locals) (hc : kc ≤ R.cells ∧ ks ≤ R.slots) (hw : (st.map fun v => v.category).sum ≤ 8)
    (kk : ∀ (r : Option Value) (I1 : px_I) (J1 : px_J), Qc r I1 J1 → V0 l R M XT kc ks (pc + 3) ls (r.toList ++ st) (px_mk I1 J1) (px_q Q)) : V0 l R M XT kc ks pc ls st0 (px_mk I J) (px_q Q) := by
  refine V0_callS (kc' := 0) (ks' := 0) (Qk := px_q Qc) hd hl ho (by rw [hz]; exact hC) hn hst hR hc.1 hc.2 hw ?_
  intro r h1 hh
  obtain ⟨I1, J1, e, hq⟩ := hh
  rw [e]
  exact kk r I1 J1 hq
theorem V_callSi {M' : px_M} {n d idx : Nat} {As : List Value} {st0 : List Value} {x : Int32} (hd : decode M.2.1 pc = .ok (.invokestatic idx, 3)) (hl : Cond.methodLink M.1.cls idx M'.1 ∈ px_tbl) (ho : px_okS M' n) (hz : XT.1 = false) (hC : CtI l M' d As I J x) (hn : As.length = n) (hst : st0 = As.reverse ++ st) (hR : d + 1 ≤ R.frames ∧ 8 + (M'.2.2.1 + 11) + 41 * d ≤ R.locals) (hc : kc ≤ R.cells ∧ ks ≤ R.slots) (hw : (st.map fun v => v.category).sum ≤ 8)
    (kk : V0 l R M XT kc ks (pc + 3) ls (.int x :: st) (px_mk I J) (px_q Q)) : V0 l R M XT kc ks pc ls st0 (px_mk I J) (px_q Q) := by
  refine V_callS hd hl ho hz hC hn hst hR hc hw ?_
  intro r I1 J1 hh
  obtain ⟨e1, e2, e3⟩ := hh
  rw [e1, e2, e3]
  exact kk
theorem V_callN {M' : px_M} {n d idx : Nat} {host : String} {As : List Value} {st0 : List Value} {Qc : px_Q} (hd : decode M.2.1 pc = .ok (.invokestatic idx, 3)) (hl : (M.1.cls, idx, M'.1, host) ∈ px_nest) (ho : px_okS M' n) (hz : XT.1 = false) (hC : Ct l M' d As I J Qc) (hn : As.length = n) (hst : st0 = As.reverse ++ st) (hR : d + 1 ≤ R.frames ∧ 8 + (M'.2.2.1 + 11) + 41 * d ≤ R.locals) (hc : kc ≤ R.cells ∧ ks ≤ R.slots) (hw : (st.map fun v => v.category).sum ≤ 8)
    (kk : ∀ (r : Option Value) (I1 : px_I) (J1 : px_J), Qc r I1 J1 → V0 l R M XT kc ks (pc + 3) ls (r.toList ++ st) (px_mk I1 J1) (px_q Q)) : V0 l R M XT kc ks pc ls st0 (px_mk I J) (px_q Q) := by
  refine V0_callSN (kc' := 0) (ks' := 0) (Qk := px_q Qc) hd hl ho (by rw [hz]; exact hC) hn hst hR hc.1 hc.2 hw ?_
  intro r h1 hh
  obtain ⟨I1, J1, e, hq⟩ := hh
  rw [e]
  exact kk r I1 J1 hq
theorem V_callNi {M' : px_M} {n d idx : Nat} {host : String} {As : List Value} {st0 : List Value} {x : Int32} (hd : decode M.2.1 pc = .ok (.invokestatic idx, 3)) (hl : (M.1.cls, idx, M'.1, host) ∈ px_nest) (ho : px_okS M' n) (hz : XT.1 = false) (hC : CtI l M' d As I J x) (hn : As.length = n) (hst : st0 = As.reverse ++ st) (hR : d + 1 ≤ R.frames ∧ 8 + (M'.2.2.1 + 11) + 41 * d ≤ R.locals) (hc : kc ≤ R.cells ∧ ks ≤ R.slots) (hw : (st.map fun v => v.category).sum ≤ 8)
    (kk : V0 l R M XT kc ks (pc + 3) ls (.int x :: st) (px_mk I J) (px_q Q)) : V0 l R M XT kc ks pc ls st0 (px_mk I J) (px_q Q) := by
  refine V_callN hd hl ho hz hC hn hst hR hc hw ?_
  intro r I1 J1 hh
  obtain ⟨e1, e2, e3⟩ := hh
  rw [e1, e2, e3]
  exact kk
/-- booleans -/
def b2 (b : Bool) : Int32 := if b = true then 1 else 0
theorem b2_t : b2 true = 1 := rfl
theorem b2_f : b2 false = 0 := rfl
theorem b2_01 (b : Bool) : b2 b = 0 ∨ b2 b = 1 := by cases b <;> simp [b2]
theorem V_ifeqb {b : Bool} {off : Int} (tgt : Nat) (hd : decode M.2.1 pc = .ok (.ifCond .eq off, 3)) (ht : (pc : Int) + off = (tgt : Int)) (kt : b = false → V0 l R M XT kc ks tgt ls st (px_mk I J) (px_q Q)) (kf : b = true → V0 l R M XT kc ks (pc + 3) ls st (px_mk I J) (px_q Q)) : V0 l R M XT kc ks pc ls (.int (b2 b) :: st) (px_mk I J) (px_q Q) :=
  V0_if_eq tgt hd ht (fun h => kt (by cases b <;> simp_all [b2])) (fun h => kf (by cases b <;> simp_all [b2]))
theorem V_ifneb {b : Bool} {off : Int} (tgt : Nat) (hd : decode M.2.1 pc = .ok (.ifCond .ne off, 3)) (ht : (pc : Int) + off = (tgt : Int)) (kt : b = true → V0 l R M XT kc ks tgt ls st (px_mk I J) (px_q Q)) (kf : b = false → V0 l R M XT kc ks (pc + 3) ls st (px_mk I J) (px_q Q)) : V0 l R M XT kc ks pc ls (.int (b2 b) :: st) (px_mk I J) (px_q Q) :=
  V0_if_ne tgt hd ht (fun h => kt (by cases b <;> simp_all [b2])) (fun h => kf (by cases b <;> simp_all [b2]))
end PC
section PS
variable {l : Launch} {R : Room} {M : px_M} {XT : px_X} {kc ks pc : Nat} {st : List Value} {h : px_H} {Q : Option Value → px_H → Prop}
theorem V0_istore_0 {c : Value} {t : List Value} {x : Int32} (hd : decode M.2.1 pc = .ok (.istore_n 0, 1)) (hn : 0 < M.2.2.1) (k : V0 l R M XT kc ks (pc + 1) (.int x :: t) st h Q) : V0 l R M XT kc ks pc (c :: t) (.int x :: st) h Q := V0_istore_nG hd hn (fun j v hj _ => by omega) k
theorem V0_astore_0 {c : Value} {t : List Value} {x : Nat} (hd : decode M.2.1 pc = .ok (.astore_n 0, 1)) (hn : 0 < M.2.2.1) (k : V0 l R M XT kc ks (pc + 1) (.ref x :: t) st h Q) : V0 l R M XT kc ks pc (c :: t) (.ref x :: st) h Q := V0_astore_nG hd hn (fun j v hj _ => by omega) k
theorem V0_iinc_0 {t : List Value} {x : Int32} {n : Int} (y : Int32) (hd : decode M.2.1 pc = .ok (.iinc 0 n, 3)) (hn : 0 < M.2.2.1) (hy : x + Int32.ofInt n = y) (k : V0 l R M XT kc ks (pc + 3) (.int y :: t) st h Q) : V0 l R M XT kc ks pc (.int x :: t) st h Q := by
  subst hy
  exact V0_iincG hd rfl hn (fun j v hj _ => by omega) k
theorem V0_lstore_0 {c c2 : Value} {t : List Value} {x : Int64} (hd : decode M.2.1 pc = .ok (.lstore_n 0, 1)) (hn : 0 + 1 < M.2.2.1) (k : V0 l R M XT kc ks (pc + 1) (.long x :: .null :: t) st h Q) : V0 l R M XT kc ks pc (c :: c2 :: t) (.long x :: st) h Q := V0_lstore_nG hd hn (fun j v hj _ => by omega) k
theorem V0_istore_1 {v0 c : Value} {t : List Value} {x : Int32} (hd : decode M.2.1 pc = .ok (.istore_n 1, 1)) (hn : 1 < M.2.2.1) (hp : v0.category = 1) (k : V0 l R M XT kc ks (pc + 1) (v0 :: .int x :: t) st h Q) : V0 l R M XT kc ks pc (v0 :: c :: t) (.int x :: st) h Q := V0_istore_nG hd hn (fun j v hj hv => by have hj : j = 0 := (by omega); subst hj; cases hv; exact hp) k
theorem V0_astore_1 {v0 c : Value} {t : List Value} {x : Nat} (hd : decode M.2.1 pc = .ok (.astore_n 1, 1)) (hn : 1 < M.2.2.1) (hp : v0.category = 1) (k : V0 l R M XT kc ks (pc + 1) (v0 :: .ref x :: t) st h Q) : V0 l R M XT kc ks pc (v0 :: c :: t) (.ref x :: st) h Q := V0_astore_nG hd hn (fun j v hj hv => by have hj : j = 0 := (by omega); subst hj; cases hv; exact hp) k
theorem V0_iinc_1 {v0 : Value} {t : List Value} {x : Int32} {n : Int} (y : Int32) (hd : decode M.2.1 pc = .ok (.iinc 1 n, 3)) (hn : 1 < M.2.2.1) (hp : v0.category = 1) (hy : x + Int32.ofInt n = y) (k : V0 l R M XT kc ks (pc + 3) (v0 :: .int y :: t) st h Q) : V0 l R M XT kc ks pc (v0 :: .int x :: t) st h Q := by
  subst hy
  exact V0_iincG hd rfl hn (fun j v hj hv => by have hj : j = 0 := (by omega); subst hj; cases hv; exact hp) k
theorem V0_lstore_1 {v0 c c2 : Value} {t : List Value} {x : Int64} (hd : decode M.2.1 pc = .ok (.lstore_n 1, 1)) (hn : 1 + 1 < M.2.2.1) (hp : v0.category = 1) (k : V0 l R M XT kc ks (pc + 1) (v0 :: .long x :: .null :: t) st h Q) : V0 l R M XT kc ks pc (v0 :: c :: c2 :: t) (.long x :: st) h Q := V0_lstore_nG hd hn (fun j v hj hv => by have hj : j = 0 := (by omega); subst hj; cases hv; exact hp) k
theorem V0_istore_2 {v0 v1 c : Value} {t : List Value} {x : Int32} (hd : decode M.2.1 pc = .ok (.istore_n 2, 1)) (hn : 2 < M.2.2.1) (hp : v1.category = 1) (k : V0 l R M XT kc ks (pc + 1) (v0 :: v1 :: .int x :: t) st h Q) : V0 l R M XT kc ks pc (v0 :: v1 :: c :: t) (.int x :: st) h Q := V0_istore_nG hd hn (fun j v hj hv => by have hj : j = 1 := (by omega); subst hj; cases hv; exact hp) k
theorem V0_astore_2 {v0 v1 c : Value} {t : List Value} {x : Nat} (hd : decode M.2.1 pc = .ok (.astore_n 2, 1)) (hn : 2 < M.2.2.1) (hp : v1.category = 1) (k : V0 l R M XT kc ks (pc + 1) (v0 :: v1 :: .ref x :: t) st h Q) : V0 l R M XT kc ks pc (v0 :: v1 :: c :: t) (.ref x :: st) h Q := V0_astore_nG hd hn (fun j v hj hv => by have hj : j = 1 := (by omega); subst hj; cases hv; exact hp) k
theorem V0_iinc_2 {v0 v1 : Value} {t : List Value} {x : Int32} {n : Int} (y : Int32) (hd : decode M.2.1 pc = .ok (.iinc 2 n, 3)) (hn : 2 < M.2.2.1) (hp : v1.category = 1) (hy : x + Int32.ofInt n = y) (k : V0 l R M XT kc ks (pc + 3) (v0 :: v1 :: .int y :: t) st h Q) : V0 l R M XT kc ks pc (v0 :: v1 :: .int x :: t) st h Q := by
  subst hy
  exact V0_iincG hd rfl hn (fun j v hj hv => by have hj : j = 1 := (by omega); subst hj; cases hv; exact hp) k
theorem V0_lstore_2 {v0 v1 c c2 : Value} {t : List Value} {x : Int64} (hd : decode M.2.1 pc = .ok (.lstore_n 2, 1)) (hn : 2 + 1 < M.2.2.1) (hp : v1.category = 1) (k : V0 l R M XT kc ks (pc + 1) (v0 :: v1 :: .long x :: .null :: t) st h Q) : V0 l R M XT kc ks pc (v0 :: v1 :: c :: c2 :: t) (.long x :: st) h Q := V0_lstore_nG hd hn (fun j v hj hv => by have hj : j = 1 := (by omega); subst hj; cases hv; exact hp) k
theorem V0_istore_3 {v0 v1 v2 c : Value} {t : List Value} {x : Int32} (hd : decode M.2.1 pc = .ok (.istore_n 3, 1)) (hn : 3 < M.2.2.1) (hp : v2.category = 1) (k : V0 l R M XT kc ks (pc + 1) (v0 :: v1 :: v2 :: .int x :: t) st h Q) : V0 l R M XT kc ks pc (v0 :: v1 :: v2 :: c :: t) (.int x :: st) h Q := V0_istore_nG hd hn (fun j v hj hv => by have hj : j = 2 := (by omega); subst hj; cases hv; exact hp) k
theorem V0_astore_3 {v0 v1 v2 c : Value} {t : List Value} {x : Nat} (hd : decode M.2.1 pc = .ok (.astore_n 3, 1)) (hn : 3 < M.2.2.1) (hp : v2.category = 1) (k : V0 l R M XT kc ks (pc + 1) (v0 :: v1 :: v2 :: .ref x :: t) st h Q) : V0 l R M XT kc ks pc (v0 :: v1 :: v2 :: c :: t) (.ref x :: st) h Q := V0_astore_nG hd hn (fun j v hj hv => by have hj : j = 2 := (by omega); subst hj; cases hv; exact hp) k
theorem V0_iinc_3 {v0 v1 v2 : Value} {t : List Value} {x : Int32} {n : Int} (y : Int32) (hd : decode M.2.1 pc = .ok (.iinc 3 n, 3)) (hn : 3 < M.2.2.1) (hp : v2.category = 1) (hy : x + Int32.ofInt n = y) (k : V0 l R M XT kc ks (pc + 3) (v0 :: v1 :: v2 :: .int y :: t) st h Q) : V0 l R M XT kc ks pc (v0 :: v1 :: v2 :: .int x :: t) st h Q := by
  subst hy
  exact V0_iincG hd rfl hn (fun j v hj hv => by have hj : j = 2 := (by omega); subst hj; cases hv; exact hp) k
theorem V0_lstore_3 {v0 v1 v2 c c2 : Value} {t : List Value} {x : Int64} (hd : decode M.2.1 pc = .ok (.lstore_n 3, 1)) (hn : 3 + 1 < M.2.2.1) (hp : v2.category = 1) (k : V0 l R M XT kc ks (pc + 1) (v0 :: v1 :: v2 :: .long x :: .null :: t) st h Q) : V0 l R M XT kc ks pc (v0 :: v1 :: v2 :: c :: c2 :: t) (.long x :: st) h Q := V0_lstore_nG hd hn (fun j v hj hv => by have hj : j = 2 := (by omega); subst hj; cases hv; exact hp) k
theorem V0_istore_4 {v0 v1 v2 v3 c : Value} {t : List Value} {x : Int32} (hd : decode M.2.1 pc = .ok (.istore 4, 2)) (hn : 4 < M.2.2.1) (hp : v3.category = 1) (k : V0 l R M XT kc ks (pc + 2) (v0 :: v1 :: v2 :: v3 :: .int x :: t) st h Q) : V0 l R M XT kc ks pc (v0 :: v1 :: v2 :: v3 :: c :: t) (.int x :: st) h Q := V0_istoreG hd hn (fun j v hj hv => by have hj : j = 3 := (by omega); subst hj; cases hv; exact hp) k
theorem V0_astore_4 {v0 v1 v2 v3 c : Value} {t : List Value} {x : Nat} (hd : decode M.2.1 pc = .ok (.astore 4, 2)) (hn : 4 < M.2.2.1) (hp : v3.category = 1) (k : V0 l R M XT kc ks (pc + 2) (v0 :: v1 :: v2 :: v3 :: .ref x :: t) st h Q) : V0 l R M XT kc ks pc (v0 :: v1 :: v2 :: v3 :: c :: t) (.ref x :: st) h Q := V0_astoreG hd hn (fun j v hj hv => by have hj : j = 3 := (by omega); subst hj; cases hv; exact hp) k
theorem V0_iinc_4 {v0 v1 v2 v3 : Value} {t : List Value} {x : Int32} {n : Int} (y : Int32) (hd : decode M.2.1 pc = .ok (.iinc 4 n, 3)) (hn : 4 < M.2.2.1) (hp : v3.category = 1) (hy : x + Int32.ofInt n = y) (k : V0 l R M XT kc ks (pc + 3) (v0 :: v1 :: v2 :: v3 :: .int y :: t) st h Q) : V0 l R M XT kc ks pc (v0 :: v1 :: v2 :: v3 :: .int x :: t) st h Q := by
  subst hy
  exact V0_iincG hd rfl hn (fun j v hj hv => by have hj : j = 3 := (by omega); subst hj; cases hv; exact hp) k
theorem V0_lstore_4 {v0 v1 v2 v3 c c2 : Value} {t : List Value} {x : Int64} (hd : decode M.2.1 pc = .ok (.lstore 4, 2)) (hn : 4 + 1 < M.2.2.1) (hp : v3.category = 1) (k : V0 l R M XT kc ks (pc + 2) (v0 :: v1 :: v2 :: v3 :: .long x :: .null :: t) st h Q) : V0 l R M XT kc ks pc (v0 :: v1 :: v2 :: v3 :: c :: c2 :: t) (.long x :: st) h Q := V0_lstoreG hd hn (fun j v hj hv => by have hj : j = 3 := (by omega); subst hj; cases hv; exact hp) k
theorem V0_istore_5 {v0 v1 v2 v3 v4 c : Value} {t : List Value} {x : Int32} (hd : decode M.2.1 pc = .ok (.istore 5, 2)) (hn : 5 < M.2.2.1) (hp : v4.category = 1) (k : V0 l R M XT kc ks (pc + 2) (v0 :: v1 :: v2 :: v3 :: v4 :: .int x :: t) st h Q) : V0 l R M XT kc ks pc (v0 :: v1 :: v2 :: v3 :: v4 :: c :: t) (.int x :: st) h Q := V0_istoreG hd hn (fun j v hj hv => by have hj : j = 4 := (by omega); subst hj; cases hv; exact hp) k
theorem V0_astore_5 {v0 v1 v2 v3 v4 c : Value} {t : List Value} {x : Nat} (hd : decode M.2.1 pc = .ok (.astore 5, 2)) (hn : 5 < M.2.2.1) (hp : v4.category = 1) (k : V0 l R M XT kc ks (pc + 2) (v0 :: v1 :: v2 :: v3 :: v4 :: .ref x :: t) st h Q) : V0 l R M XT kc ks pc (v0 :: v1 :: v2 :: v3 :: v4 :: c :: t) (.ref x :: st) h Q := V0_astoreG hd hn (fun j v hj hv => by have hj : j = 4 := (by omega); subst hj; cases hv; exact hp) k
theorem V0_iinc_5 {v0 v1 v2 v3 v4 : Value} {t : List Value} {x : Int32} {n : Int} (y : Int32) (hd : decode M.2.1 pc = .ok (.iinc 5 n, 3)) (hn : 5 < M.2.2.1) (hp : v4.category = 1) (hy : x + Int32.ofInt n = y) (k : V0 l R M XT kc ks (pc + 3) (v0 :: v1 :: v2 :: v3 :: v4 :: .int y :: t) st h Q) : V0 l R M XT kc ks pc (v0 :: v1 :: v2 :: v3 :: v4 :: .int x :: t) st h Q := by
  subst hy
  exact V0_iincG hd rfl hn (fun j v hj hv => by have hj : j = 4 := (by omega); subst hj; cases hv; exact hp) k
theorem V0_lstore_5 {v0 v1 v2 v3 v4 c c2 : Value} {t : List Value} {x : Int64} (hd : decode M.2.1 pc = .ok (.lstore 5, 2)) (hn : 5 + 1 < M.2.2.1) (hp : v4.category = 1) (k : V0 l R M XT kc ks (pc + 2) (v0 :: v1 :: v2 :: v3 :: v4 :: .long x :: .null :: t) st h Q) : V0 l R M XT kc ks pc (v0 :: v1 :: v2 :: v3 :: v4 :: c :: c2 :: t) (.long x :: st) h Q := V0_lstoreG hd hn (fun j v hj hv => by have hj : j = 4 := (by omega); subst hj; cases hv; exact hp) k
theorem V0_istore_6 {v0 v1 v2 v3 v4 v5 c : Value} {t : List Value} {x : Int32} (hd : decode M.2.1 pc = .ok (.istore 6, 2)) (hn : 6 < M.2.2.1) (hp : v5.category = 1) (k : V0 l R M XT kc ks (pc + 2) (v0 :: v1 :: v2 :: v3 :: v4 :: v5 :: .int x :: t) st h Q) : V0 l R M XT kc ks pc (v0 :: v1 :: v2 :: v3 :: v4 :: v5 :: c :: t) (.int x :: st) h Q := V0_istoreG hd hn (fun j v hj hv => by have hj : j = 5 := (by omega); subst hj; cases hv; exact hp) k
theorem V0_astore_6 {v0 v1 v2 v3 v4 v5 c : Value} {t : List Value} {x : Nat} (hd : decode M.2.1 pc = .ok (.astore 6, 2)) (hn : 6 < M.2.2.1) (hp : v5.category = 1) (k : V0 l R M XT kc ks (pc + 2) (v0 :: v1 :: v2 :: v3 :: v4 :: v5 :: .ref x :: t) st h Q) : V0 l R M XT kc ks pc (v0 :: v1 :: v2 :: v3 :: v4 :: v5 :: c :: t) (.ref x :: st) h Q := V0_astoreG hd hn (fun j v hj hv => by have hj : j = 5 := (by omega); subst hj; cases hv; exact hp) k
theorem V0_iinc_6 {v0 v1 v2 v3 v4 v5 : Value} {t : List Value} {x : Int32} {n : Int} (y : Int32) (hd : decode M.2.1 pc = .ok (.iinc 6 n, 3)) (hn : 6 < M.2.2.1) (hp : v5.category = 1) (hy : x + Int32.ofInt n = y) (k : V0 l R M XT kc ks (pc + 3) (v0 :: v1 :: v2 :: v3 :: v4 :: v5 :: .int y :: t) st h Q) : V0 l R M XT kc ks pc (v0 :: v1 :: v2 :: v3 :: v4 :: v5 :: .int x :: t) st h Q := by
  subst hy
  exact V0_iincG hd rfl hn (fun j v hj hv => by have hj : j = 5 := (by omega); subst hj; cases hv; exact hp) k
theorem V0_lstore_6 {v0 v1 v2 v3 v4 v5 c c2 : Value} {t : List Value} {x : Int64} (hd : decode M.2.1 pc = .ok (.lstore 6, 2)) (hn : 6 + 1 < M.2.2.1) (hp : v5.category = 1) (k : V0 l R M XT kc ks (pc + 2) (v0 :: v1 :: v2 :: v3 :: v4 :: v5 :: .long x :: .null :: t) st h Q) : V0 l R M XT kc ks pc (v0 :: v1 :: v2 :: v3 :: v4 :: v5 :: c :: c2 :: t) (.long x :: st) h Q := V0_lstoreG hd hn (fun j v hj hv => by have hj : j = 5 := (by omega); subst hj; cases hv; exact hp) k
theorem V0_istore_7 {v0 v1 v2 v3 v4 v5 v6 c : Value} {t : List Value} {x : Int32} (hd : decode M.2.1 pc = .ok (.istore 7, 2)) (hn : 7 < M.2.2.1) (hp : v6.category = 1) (k : V0 l R M XT kc ks (pc + 2) (v0 :: v1 :: v2 :: v3 :: v4 :: v5 :: v6 :: .int x :: t) st h Q) : V0 l R M XT kc ks pc (v0 :: v1 :: v2 :: v3 :: v4 :: v5 :: v6 :: c :: t) (.int x :: st) h Q := V0_istoreG hd hn (fun j v hj hv => by have hj : j = 6 := (by omega); subst hj; cases hv; exact hp) k
theorem V0_astore_7 {v0 v1 v2 v3 v4 v5 v6 c : Value} {t : List Value} {x : Nat} (hd : decode M.2.1 pc = .ok (.astore 7, 2)) (hn : 7 < M.2.2.1) (hp : v6.category = 1) (k : V0 l R M XT kc ks (pc + 2) (v0 :: v1 :: v2 :: v3 :: v4 :: v5 :: v6 :: .ref x :: t) st h Q) : V0 l R M XT kc ks pc (v0 :: v1 :: v2 :: v3 :: v4 :: v5 :: v6 :: c :: t) (.ref x :: st) h Q := V0_astoreG hd hn (fun j v hj hv => by have hj : j = 6 := (by omega); subst hj; cases hv; exact hp) k
theorem V0_iinc_7 {v0 v1 v2 v3 v4 v5 v6 : Value} {t : List Value} {x : Int32} {n : Int} (y : Int32) (hd : decode M.2.1 pc = .ok (.iinc 7 n, 3)) (hn : 7 < M.2.2.1) (hp : v6.category = 1) (hy : x + Int32.ofInt n = y) (k : V0 l R M XT kc ks (pc + 3) (v0 :: v1 :: v2 :: v3 :: v4 :: v5 :: v6 :: .int y :: t) st h Q) : V0 l R M XT kc ks pc (v0 :: v1 :: v2 :: v3 :: v4 :: v5 :: v6 :: .int x :: t) st h Q := by
  subst hy
  exact V0_iincG hd rfl hn (fun j v hj hv => by have hj : j = 6 := (by omega); subst hj; cases hv; exact hp) k
theorem V0_lstore_7 {v0 v1 v2 v3 v4 v5 v6 c c2 : Value} {t : List Value} {x : Int64} (hd : decode M.2.1 pc = .ok (.lstore 7, 2)) (hn : 7 + 1 < M.2.2.1) (hp : v6.category = 1) (k : V0 l R M XT kc ks (pc + 2) (v0 :: v1 :: v2 :: v3 :: v4 :: v5 :: v6 :: .long x :: .null :: t) st h Q) : V0 l R M XT kc ks pc (v0 :: v1 :: v2 :: v3 :: v4 :: v5 :: v6 :: c :: c2 :: t) (.long x :: st) h Q := V0_lstoreG hd hn (fun j v hj hv => by have hj : j = 6 := (by omega); subst hj; cases hv; exact hp) k
theorem V0_istore_8 {v0 v1 v2 v3 v4 v5 v6 v7 c : Value} {t : List Value} {x : Int32} (hd : decode M.2.1 pc = .ok (.istore 8, 2)) (hn : 8 < M.2.2.1) (hp : v7.category = 1) (k : V0 l R M XT kc ks (pc + 2) (v0 :: v1 :: v2 :: v3 :: v4 :: v5 :: v6 :: v7 :: .int x :: t) st h Q) : V0 l R M XT kc ks pc (v0 :: v1 :: v2 :: v3 :: v4 :: v5 :: v6 :: v7 :: c :: t) (.int x :: st) h Q := V0_istoreG hd hn (fun j v hj hv => by have hj : j = 7 := (by omega); subst hj; cases hv; exact hp) k
theorem V0_astore_8 {v0 v1 v2 v3 v4 v5 v6 v7 c : Value} {t : List Value} {x : Nat} (hd : decode M.2.1 pc = .ok (.astore 8, 2)) (hn : 8 < M.2.2.1) (hp : v7.category = 1) (k : V0 l R M XT kc ks (pc + 2) (v0 :: v1 :: v2 :: v3 :: v4 :: v5 :: v6 :: v7 :: .ref x :: t) st h Q) : V0 l R M XT kc ks pc (v0 :: v1 :: v2 :: v3 :: v4 :: v5 :: v6 :: v7 :: c :: t) (.ref x :: st) h Q := V0_astoreG hd hn (fun j v hj hv => by have hj : j = 7 := (by omega); subst hj; cases hv; exact hp) k
theorem V0_iinc_8 {v0 v1 v2 v3 v4 v5 v6 v7 : Value} {t : List Value} {x : Int32} {n : Int} (y : Int32) (hd : decode M.2.1 pc = .ok (.iinc 8 n, 3)) (hn : 8 < M.2.2.1) (hp : v7.category = 1) (hy : x + Int32.ofInt n = y) (k : V0 l R M XT kc ks (pc + 3) (v0 :: v1 :: v2 :: v3 :: v4 :: v5 :: v6 :: v7 :: .int y :: t) st h Q) : V0 l R M XT kc ks pc (v0 :: v1 :: v2 :: v3 :: v4 :: v5 :: v6 :: v7 :: .int x :: t) st h Q := by
  subst hy
  exact V0_iincG hd rfl hn (fun j v hj hv => by have hj : j = 7 := (by omega); subst hj; cases hv; exact hp) k
theorem V0_lstore_8 {v0 v1 v2 v3 v4 v5 v6 v7 c c2 : Value} {t : List Value} {x : Int64} (hd : decode M.2.1 pc = .ok (.lstore 8, 2)) (hn : 8 + 1 < M.2.2.1) (hp : v7.category = 1) (k : V0 l R M XT kc ks (pc + 2) (v0 :: v1 :: v2 :: v3 :: v4 :: v5 :: v6 :: v7 :: .long x :: .null :: t) st h Q) : V0 l R M XT kc ks pc (v0 :: v1 :: v2 :: v3 :: v4 :: v5 :: v6 :: v7 :: c :: c2 :: t) (.long x :: st) h Q := V0_lstoreG hd hn (fun j v hj hv => by have hj : j = 7 := (by omega); subst hj; cases hv; exact hp) k
theorem V0_istore_9 {v0 v1 v2 v3 v4 v5 v6 v7 v8 c : Value} {t : List Value} {x : Int32} (hd : decode M.2.1 pc = .ok (.istore 9, 2)) (hn : 9 < M.2.2.1) (hp : v8.category = 1) (k : V0 l R M XT kc ks (pc + 2) (v0 :: v1 :: v2 :: v3 :: v4 :: v5 :: v6 :: v7 :: v8 :: .int x :: t) st h Q) : V0 l R M XT kc ks pc (v0 :: v1 :: v2 :: v3 :: v4 :: v5 :: v6 :: v7 :: v8 :: c :: t) (.int x :: st) h Q := V0_istoreG hd hn (fun j v hj hv => by have hj : j = 8 := (by omega); subst hj; cases hv; exact hp) k
theorem V0_astore_9 {v0 v1 v2 v3 v4 v5 v6 v7 v8 c : Value} {t : List Value} {x : Nat} (hd : decode M.2.1 pc = .ok (.astore 9, 2)) (hn : 9 < M.2.2.1) (hp : v8.category = 1) (k : V0 l R M XT kc ks (pc + 2) (v0 :: v1 :: v2 :: v3 :: v4 :: v5 :: v6 :: v7 :: v8 :: .ref x :: t) st h Q) : V0 l R M XT kc ks pc (v0 :: v1 :: v2 :: v3 :: v4 :: v5 :: v6 :: v7 :: v8 :: c :: t) (.ref x :: st) h Q := V0_astoreG hd hn (fun j v hj hv => by have hj : j = 8 := (by omega); subst hj; cases hv; exact hp) k
theorem V0_iinc_9 {v0 v1 v2 v3 v4 v5 v6 v7 v8 : Value} {t : List Value} {x : Int32} {n : Int} (y : Int32) (hd : decode M.2.1 pc = .ok (.iinc 9 n, 3)) (hn : 9 < M.2.2.1) (hp : v8.category = 1) (hy : x + Int32.ofInt n = y) (k : V0 l R M XT kc ks (pc + 3) (v0 :: v1 :: v2 :: v3 :: v4 :: v5 :: v6 :: v7 :: v8 :: .int y :: t) st h Q) : V0 l R M XT kc ks pc (v0 :: v1 :: v2 :: v3 :: v4 :: v5 :: v6 :: v7 :: v8 :: .int x :: t) st h Q := by
  subst hy
  exact V0_iincG hd rfl hn (fun j v hj hv => by have hj : j = 8 := (by omega); subst hj; cases hv; exact hp) k
theorem V0_lstore_9 {v0 v1 v2 v3 v4 v5 v6 v7 v8 c c2 : Value} {t : List Value} {x : Int64} (hd : decode M.2.1 pc = .ok (.lstore 9, 2)) (hn : 9 + 1 < M.2.2.1) (hp : v8.category = 1) (k : V0 l R M XT kc ks (pc + 2) (v0 :: v1 :: v2 :: v3 :: v4 :: v5 :: v6 :: v7 :: v8 :: .long x :: .null :: t) st h Q) : V0 l R M XT kc ks pc (v0 :: v1 :: v2 :: v3 :: v4 :: v5 :: v6 :: v7 :: v8 :: c :: c2 :: t) (.long x :: st) h Q := V0_lstoreG hd hn (fun j v hj hv => by have hj : j = 8 := (by omega); subst hj; cases hv; exact hp) k
theorem V0_istore_10 {v0 v1 v2 v3 v4 v5 v6 v7 v8 v9 c : Value} {t : List Value} {x : Int32} (hd : decode M.2.1 pc = .ok (.istore 10, 2)) (hn : 10 < M.2.2.1) (hp : v9.category = 1) (k : V0 l R M XT kc ks (pc + 2) (v0 :: v1 :: v2 :: v3 :: v4 :: v5 :: v6 :: v7 :: v8 :: v9 :: .int x :: t) st h Q) : V0 l R M XT kc ks pc (v0 :: v1 :: v2 :: v3 :: v4 :: v5 :: v6 :: v7 :: v8 :: v9 :: c :: t) (.int x :: st) h Q := V0_istoreG hd hn (fun j v hj hv => by have hj : j = 9 := (by omega); subst hj; cases hv; exact hp) k
theorem V0_astore_10 {v0 v1 v2 v3 v4 v5 v6 v7 v8 v9 c : Value} {t : List Value} {x : Nat} (hd : decode M.2.1 pc = .ok (.astore 10, 2)) (hn : 10 < M.2.2.1) (hp : v9.category = 1) (k : V0 l R M XT kc ks (pc + 2) (v0 :: v1 :: v2 :: v3 :: v4 :: v5 :: v6 :: v7 :: v8 :: v9 :: .ref x :: t) st h Q) : V0 l R M XT kc ks pc (v0 :: v1 :: v2 :: v3 :: v4 :: v5 :: v6 :: v7 :: v8 :: v9 :: c :: t) (.ref x :: st) h Q := V0_astoreG hd hn (fun j v hj hv => by have hj : j = 9 := (by omega); subst hj; cases hv; exact hp) k
theorem V0_iinc_10 {v0 v1 v2 v3 v4 v5 v6 v7 v8 v9 : Value} {t : List Value} {x : Int32} {n : Int} (y : Int32) (hd : decode M.2.1 pc = .ok (.iinc 10 n, 3)) (hn : 10 < M.2.2.1) (hp : v9.category = 1) (hy : x + Int32.ofInt n = y) (k : V0 l R M XT kc ks (pc + 3) (v0 :: v1 :: v2 :: v3 :: v4 :: v5 :: v6 :: v7 :: v8 :: v9 :: .int y :: t) st h Q) : V0 l R M XT kc ks pc (v0 :: v1 :: v2 :: v3 :: v4 :: v5 :: v6 :: v7 :: v8 :: v9 :: .int x :: t) st h Q := by
  subst hy
  exact V0_iincG hd rfl hn (fun j v hj hv => by have hj : j = 9 := (by omega); subst hj; cases hv; exact hp) k
theorem V0_lstore_10 {v0 v1 v2 v3 v4 v5 v6 v7 v8 v9 c c2 : Value} {t : List Value} {x : Int64} (hd : decode M.2.1 pc = .ok (.lstore 10, 2)) (hn : 10 + 1 < M.2.2.1) (hp : v9.category = 1) (k : V0 l R M XT kc ks (pc + 2) (v0 :: v1 :: v2 :: v3 :: v4 :: v5 :: v6 :: v7 :: v8 :: v9 :: .long x :: .null :: t) st h Q) : V0 l R M XT kc ks pc (v0 :: v1 :: v2 :: v3 :: v4 :: v5 :: v6 :: v7 :: v8 :: v9 :: c :: c2 :: t) (.long x :: st) h Q := V0_lstoreG hd hn (fun j v hj hv => by have hj : j = 9 := (by omega); subst hj; cases hv; exact hp) k
theorem V0_istore_11 {v0 v1 v2 v3 v4 v5 v6 v7 v8 v9 v10 c : Value} {t : List Value} {x : Int32} (hd : decode M.2.1 pc = .ok (.istore 11, 2)) (hn : 11 < M.2.2.1) (hp : v10.category = 1) (k : V0 l R M XT kc ks (pc + 2) (v0 :: v1 :: v2 :: v3 :: v4 :: v5 :: v6 :: v7 :: v8 :: v9 :: v10 :: .int x :: t) st h Q) : V0 l R M XT kc ks pc (v0 :: v1 :: v2 :: v3 :: v4 :: v5 :: v6 :: v7 :: v8 :: v9 :: v10 :: c :: t) (.int x :: st) h Q := V0_istoreG hd hn (fun j v hj hv => by have hj : j = 10 := (by omega); subst hj; cases hv; exact hp) k
theorem V0_astore_11 {v0 v1 v2 v3 v4 v5 v6 v7 v8 v9 v10 c : Value} {t : List Value} {x : Nat} (hd : decode M.2.1 pc = .ok (.astore 11, 2)) (hn : 11 < M.2.2.1) (hp : v10.category = 1) (k : V0 l R M XT kc ks (pc + 2) (v0 :: v1 :: v2 :: v3 :: v4 :: v5 :: v6 :: v7 :: v8 :: v9 :: v10 :: .ref x :: t) st h Q) : V0 l R M XT kc ks pc (v0 :: v1 :: v2 :: v3 :: v4 :: v5 :: v6 :: v7 :: v8 :: v9 :: v10 :: c :: t) (.ref x :: st) h Q := V0_astoreG hd hn (fun j v hj hv => by have hj : j = 10 := (by omega); subst hj; cases hv; exact hp) k
theorem V0_iinc_11 {v0 v1 v2 v3 v4 v5 v6 v7 v8 v9 v10 : Value} {t : List Value} {x : Int32} {n : Int} (y : Int32) (hd : decode M.2.1 pc = .ok (.iinc 11 n, 3)) (hn : 11 < M.2.2.1) (hp : v10.category = 1) (hy : x + Int32.ofInt n = y) (k : V0 l R M XT kc ks (pc + 3) (v0 :: v1 :: v2 :: v3 :: v4 :: v5 :: v6 :: v7 :: v8 :: v9 :: v10 :: .int y :: t) st h Q) : V0 l R M XT kc ks pc (v0 :: v1 :: v2 :: v3 :: v4 :: v5 :: v6 :: v7 :: v8 :: v9 :: v10 :: .int x :: t) st h Q := by
  subst hy
  exact V0_iincG hd rfl hn (fun j v hj hv => by have hj : j = 10 := (by omega); subst hj; cases hv; exact hp) k
theorem V0_lstore_11 {v0 v1 v2 v3 v4 v5 v6 v7 v8 v9 v10 c c2 : Value} {t : List Value} {x : Int64} (hd : decode M.2.1 pc = .ok (.lstore 11, 2)) (hn : 11 + 1 < M.2.2.1) (hp : v10.category = 1) (k : V0 l R M XT kc ks (pc + 2) (v0 :: v1 :: v2 :: v3 :: v4 :: v5 :: v6 :: v7 :: v8 :: v9 :: v10 :: .long x :: .null :: t) st h Q) : V0 l R M XT kc ks pc (v0 :: v1 :: v2 :: v3 :: v4 :: v5 :: v6 :: v7 :: v8 :: v9 :: v10 :: c :: c2 :: t) (.long x :: st) h Q := V0_lstoreG hd hn (fun j v hj hv => by have hj : j = 10 := (by omega); subst hj; cases hv; exact hp) k
theorem V0_istore_12 {v0 v1 v2 v3 v4 v5 v6 v7 v8 v9 v10 v11 c : Value} {t : List Value} {x : Int32} (hd : decode M.2.1 pc = .ok (.istore 12, 2)) (hn : 12 < M.2.2.1) (hp : v11.category = 1) (k : V0 l R M XT kc ks (pc + 2) (v0 :: v1 :: v2 :: v3 :: v4 :: v5 :: v6 :: v7 :: v8 :: v9 :: v10 :: v11 :: .int x :: t) st h Q) : V0 l R M XT kc ks pc (v0 :: v1 :: v2 :: v3 :: v4 :: v5 :: v6 :: v7 :: v8 :: v9 :: v10 :: v11 :: c :: t) (.int x :: st) h Q := V0_istoreG hd hn (fun j v hj hv => by have hj : j = 11 := (by omega); subst hj; cases hv; exact hp) k
theorem V0_astore_12 {v0 v1 v2 v3 v4 v5 v6 v7 v8 v9 v10 v11 c : Value} {t : List Value} {x : Nat} (hd : decode M.2.1 pc = .ok (.astore 12, 2)) (hn : 12 < M.2.2.1) (hp : v11.category = 1) (k : V0 l R M XT kc ks (pc + 2) (v0 :: v1 :: v2 :: v3 :: v4 :: v5 :: v6 :: v7 :: v8 :: v9 :: v10 :: v11 :: .ref x :: t) st h Q) : V0 l R M XT kc ks pc (v0 :: v1 :: v2 :: v3 :: v4 :: v5 :: v6 :: v7 :: v8 :: v9 :: v10 :: v11 :: c :: t) (.ref x :: st) h Q := V0_astoreG hd hn (fun j v hj hv => by have hj : j = 11 := (by omega); subst hj; cases hv; exact hp) k
theorem V0_iinc_12 {v0 v1 v2 v3 v4 v5 v6 v7 v8 v9 v10 v11 : Value} {t : List Value} {x : Int32} {n : Int} (y : Int32) (hd : decode M.2.1 pc = .ok (.iinc 12 n, 3)) (hn : 12 < M.2.2.1) (hp : v11.category = 1) (hy : x + Int32.ofInt n = y) (k : V0 l R M XT kc ks (pc + 3) (v0 :: v1 :: v2 :: v3 :: v4 :: v5 :: v6 :: v7 :: v8 :: v9 :: v10 :: v11 :: .int y :: t) st h Q) : V0 l R M XT kc ks pc (v0 :: v1 :: v2 :: v3 :: v4 :: v5 :: v6 :: v7 :: v8 :: v9 :: v10 :: v11 :: .int x :: t) st h Q := by
  subst hy
  exact V0_iincG hd rfl hn (fun j v hj hv => by have hj : j = 11 := (by omega); subst hj; cases hv; exact hp) k
theorem V0_istore_13 {v0 v1 v2 v3 v4 v5 v6 v7 v8 v9 v10 v11 v12 c : Value} {t : List Value} {x : Int32} (hd : decode M.2.1 pc = .ok (.istore 13, 2)) (hn : 13 < M.2.2.1) (hp : v12.category = 1) (k : V0 l R M XT kc ks (pc + 2) (v0 :: v1 :: v2 :: v3 :: v4 :: v5 :: v6 :: v7 :: v8 :: v9 :: v10 :: v11 :: v12 :: .int x :: t) st h Q) : V0 l R M XT kc ks pc (v0 :: v1 :: v2 :: v3 :: v4 :: v5 :: v6 :: v7 :: v8 :: v9 :: v10 :: v11 :: v12 :: c :: t) (.int x :: st) h Q := V0_istoreG hd hn (fun j v hj hv => by have hj : j = 12 := (by omega); subst hj; cases hv; exact hp) k
theorem V0_astore_13 {v0 v1 v2 v3 v4 v5 v6 v7 v8 v9 v10 v11 v12 c : Value} {t : List Value} {x : Nat} (hd : decode M.2.1 pc = .ok (.astore 13, 2)) (hn : 13 < M.2.2.1) (hp : v12.category = 1) (k : V0 l R M XT kc ks (pc + 2) (v0 :: v1 :: v2 :: v3 :: v4 :: v5 :: v6 :: v7 :: v8 :: v9 :: v10 :: v11 :: v12 :: .ref x :: t) st h Q) : V0 l R M XT kc ks pc (v0 :: v1 :: v2 :: v3 :: v4 :: v5 :: v6 :: v7 :: v8 :: v9 :: v10 :: v11 :: v12 :: c :: t) (.ref x :: st) h Q := V0_astoreG hd hn (fun j v hj hv => by have hj : j = 12 := (by omega); subst hj; cases hv; exact hp) k
theorem V0_iinc_13 {v0 v1 v2 v3 v4 v5 v6 v7 v8 v9 v10 v11 v12 : Value} {t : List Value} {x : Int32} {n : Int} (y : Int32) (hd : decode M.2.1 pc = .ok (.iinc 13 n, 3)) (hn : 13 < M.2.2.1) (hp : v12.category = 1) (hy : x + Int32.ofInt n = y) (k : V0 l R M XT kc ks (pc + 3) (v0 :: v1 :: v2 :: v3 :: v4 :: v5 :: v6 :: v7 :: v8 :: v9 :: v10 :: v11 :: v12 :: .int y :: t) st h Q) : V0 l R M XT kc ks pc (v0 :: v1 :: v2 :: v3 :: v4 :: v5 :: v6 :: v7 :: v8 :: v9 :: v10 :: v11 :: v12 :: .int x :: t) st h Q := by
  subst hy
  exact V0_iincG hd rfl hn (fun j v hj hv => by have hj : j = 12 := (by omega); subst hj; cases hv; exact hp) k
theorem V0_istore_14 {v0 v1 v2 v3 v4 v5 v6 v7 v8 v9 v10 v11 v12 v13 c : Value} {t : List Value} {x : Int32} (hd : decode M.2.1 pc = .ok (.istore 14, 2)) (hn : 14 < M.2.2.1) (hp : v13.category = 1) (k : V0 l R M XT kc ks (pc + 2) (v0 :: v1 :: v2 :: v3 :: v4 :: v5 :: v6 :: v7 :: v8 :: v9 :: v10 :: v11 :: v12 :: v13 :: .int x :: t) st h Q) : V0 l R M XT kc ks pc (v0 :: v1 :: v2 :: v3 :: v4 :: v5 :: v6 :: v7 :: v8 :: v9 :: v10 :: v11 :: v12 :: v13 :: c :: t) (.int x :: st) h Q := V0_istoreG hd hn (fun j v hj hv => by have hj : j = 13 := (by omega); subst hj; cases hv; exact hp) k
theorem V0_astore_14 {v0 v1 v2 v3 v4 v5 v6 v7 v8 v9 v10 v11 v12 v13 c : Value} {t : List Value} {x : Nat} (hd : decode M.2.1 pc = .ok (.astore 14, 2)) (hn : 14 < M.2.2.1) (hp : v13.category = 1) (k : V0 l R M XT kc ks (pc + 2) (v0 :: v1 :: v2 :: v3 :: v4 :: v5 :: v6 :: v7 :: v8 :: v9 :: v10 :: v11 :: v12 :: v13 :: .ref x :: t) st h Q) : V0 l R M XT kc ks pc (v0 :: v1 :: v2 :: v3 :: v4 :: v5 :: v6 :: v7 :: v8 :: v9 :: v10 :: v11 :: v12 :: v13 :: c :: t) (.ref x :: st) h Q := V0_astoreG hd hn (fun j v hj hv => by have hj : j = 13 := (by omega); subst hj; cases hv; exact hp) k
theorem V0_iinc_14 {v0 v1 v2 v3 v4 v5 v6 v7 v8 v9 v10 v11 v12 v13 : Value} {t : List Value} {x : Int32} {n : Int} (y : Int32) (hd : decode M.2.1 pc = .ok (.iinc 14 n, 3)) (hn : 14 < M.2.2.1) (hp : v13.category = 1) (hy : x + Int32.ofInt n = y) (k : V0 l R M XT kc ks (pc + 3) (v0 :: v1 :: v2 :: v3 :: v4 :: v5 :: v6 :: v7 :: v8 :: v9 :: v10 :: v11 :: v12 :: v13 :: .int y :: t) st h Q) : V0 l R M XT kc ks pc (v0 :: v1 :: v2 :: v3 :: v4 :: v5 :: v6 :: v7 :: v8 :: v9 :: v10 :: v11 :: v12 :: v13 :: .int x :: t) st h Q := by
  subst hy
  exact V0_iincG hd rfl hn (fun j v hj hv => by have hj : j = 13 := (by omega); subst hj; cases hv; exact hp) k
theorem V0_istore_15 {v0 v1 v2 v3 v4 v5 v6 v7 v8 v9 v10 v11 v12 v13 v14 c : Value} {t : List Value} {x : Int32} (hd : decode M.2.1 pc = .ok (.istore 15, 2)) (hn : 15 < M.2.2.1) (hp : v14.category = 1) (k : V0 l R M XT kc ks (pc + 2) (v0 :: v1 :: v2 :: v3 :: v4 :: v5 :: v6 :: v7 :: v8 :: v9 :: v10 :: v11 :: v12 :: v13 :: v14 :: .int x :: t) st h Q) : V0 l R M XT kc ks pc (v0 :: v1 :: v2 :: v3 :: v4 :: v5 :: v6 :: v7 :: v8 :: v9 :: v10 :: v11 :: v12 :: v13 :: v14 :: c :: t) (.int x :: st) h Q := V0_istoreG hd hn (fun j v hj hv => by have hj : j = 14 := (by omega); subst hj; cases hv; exact hp) k
theorem V0_astore_15 {v0 v1 v2 v3 v4 v5 v6 v7 v8 v9 v10 v11 v12 v13 v14 c : Value} {t : List Value} {x : Nat} (hd : decode M.2.1 pc = .ok (.astore 15, 2)) (hn : 15 < M.2.2.1) (hp : v14.category = 1) (k : V0 l R M XT kc ks (pc + 2) (v0 :: v1 :: v2 :: v3 :: v4 :: v5 :: v6 :: v7 :: v8 :: v9 :: v10 :: v11 :: v12 :: v13 :: v14 :: .ref x :: t) st h Q) : V0 l R M XT kc ks pc (v0 :: v1 :: v2 :: v3 :: v4 :: v5 :: v6 :: v7 :: v8 :: v9 :: v10 :: v11 :: v12 :: v13 :: v14 :: c :: t) (.ref x :: st) h Q := V0_astoreG hd hn (fun j v hj hv => by have hj : j = 14 := (by omega); subst hj; cases hv; exact hp) k
theorem V0_iinc_15 {v0 v1 v2 v3 v4 v5 v6 v7 v8 v9 v10 v11 v12 v13 v14 : Value} {t : List Value} {x : Int32} {n : Int} (y : Int32) (hd : decode M.2.1 pc = .ok (.iinc 15 n, 3)) (hn : 15 < M.2.2.1) (hp : v14.category = 1) (hy : x + Int32.ofInt n = y) (k : V0 l R M XT kc ks (pc + 3) (v0 :: v1 :: v2 :: v3 :: v4 :: v5 :: v6 :: v7 :: v8 :: v9 :: v10 :: v11 :: v12 :: v13 :: v14 :: .int y :: t) st h Q) : V0 l R M XT kc ks pc (v0 :: v1 :: v2 :: v3 :: v4 :: v5 :: v6 :: v7 :: v8 :: v9 :: v10 :: v11 :: v12 :: v13 :: v14 :: .int x :: t) st h Q := by
  subst hy
  exact V0_iincG hd rfl hn (fun j v hj hv => by have hj : j = 14 := (by omega); subst hj; cases hv; exact hp) k
theorem V0_istore_16 {v0 v1 v2 v3 v4 v5 v6 v7 v8 v9 v10 v11 v12 v13 v14 v15 c : Value} {t : List Value} {x : Int32} (hd : decode M.2.1 pc = .ok (.istore 16, 2)) (hn : 16 < M.2.2.1) (hp : v15.category = 1) (k : V0 l R M XT kc ks (pc + 2) (v0 :: v1 :: v2 :: v3 :: v4 :: v5 :: v6 :: v7 :: v8 :: v9 :: v10 :: v11 :: v12 :: v13 :: v14 :: v15 :: .int x :: t) st h Q) : V0 l R M XT kc ks pc (v0 :: v1 :: v2 :: v3 :: v4 :: v5 :: v6 :: v7 :: v8 :: v9 :: v10 :: v11 :: v12 :: v13 :: v14 :: v15 :: c :: t) (.int x :: st) h Q := V0_istoreG hd hn (fun j v hj hv => by have hj : j = 15 := (by omega); subst hj; cases hv; exact hp) k
theorem V0_astore_16 {v0 v1 v2 v3 v4 v5 v6 v7 v8 v9 v10 v11 v12 v13 v14 v15 c : Value} {t : List Value} {x : Nat} (hd : decode M.2.1 pc = .ok (.astore 16, 2)) (hn : 16 < M.2.2.1) (hp : v15.category = 1) (k : V0 l R M XT kc ks (pc + 2) (v0 :: v1 :: v2 :: v3 :: v4 :: v5 :: v6 :: v7 :: v8 :: v9 :: v10 :: v11 :: v12 :: v13 :: v14 :: v15 :: .ref x :: t) st h Q) : V0 l R M XT kc ks pc (v0 :: v1 :: v2 :: v3 :: v4 :: v5 :: v6 :: v7 :: v8 :: v9 :: v10 :: v11 :: v12 :: v13 :: v14 :: v15 :: c :: t) (.ref x :: st) h Q := V0_astoreG hd hn (fun j v hj hv => by have hj : j = 15 := (by omega); subst hj; cases hv; exact hp) k
theorem V0_iinc_16 {v0 v1 v2 v3 v4 v5 v6 v7 v8 v9 v10 v11 v12 v13 v14 v15 : Value} {t : List Value} {x : Int32} {n : Int} (y : Int32) (hd : decode M.2.1 pc = .ok (.iinc 16 n, 3)) (hn : 16 < M.2.2.1) (hp : v15.category = 1) (hy : x + Int32.ofInt n = y) (k : V0 l R M XT kc ks (pc + 3) (v0 :: v1 :: v2 :: v3 :: v4 :: v5 :: v6 :: v7 :: v8 :: v9 :: v10 :: v11 :: v12 :: v13 :: v14 :: v15 :: .int y :: t) st h Q) : V0 l R M XT kc ks pc (v0 :: v1 :: v2 :: v3 :: v4 :: v5 :: v6 :: v7 :: v8 :: v9 :: v10 :: v11 :: v12 :: v13 :: v14 :: v15 :: .int x :: t) st h Q := by
  subst hy
  exact V0_iincG hd rfl hn (fun j v hj hv => by have hj : j = 15 := (by omega); subst hj; cases hv; exact hp) k
end PS
end
section
/-! rows with conditions told by = and < alone; switches; the course and the law as places -/
section PB
variable {l : Launch} {R : Room} {M : px_M} {XT : px_X} {kc ks pc : Nat} {ls st : List Value} {h : px_H} {Q : Option Value → px_H → Prop}
theorem px_nlt {x y : Int32} : ¬ x < y ↔ y ≤ x := by
  rw [Int32.lt_iff_toInt_lt, Int32.le_iff_toInt_le]; omega
theorem px_nle {x y : Int32} : ¬ x ≤ y ↔ y < x := by
  rw [Int32.lt_iff_toInt_lt, Int32.le_iff_toInt_le]; omega
theorem V1_if_ge {x : Int32} {off : Int} (tgt : Nat) (hd : decode M.2.1 pc = .ok (.ifCond .ge off, 3)) (ht : (pc : Int) + off = (tgt : Int)) (kt : ¬ x < 0 → V0 l R M XT kc ks tgt ls st h Q) (kf : x < 0 → V0 l R M XT kc ks (pc + 3) ls st h Q) : V0 l R M XT kc ks pc ls (.int x :: st) h Q :=
  V0_if_ge tgt hd ht (fun q => kt (px_nlt.mpr q)) (fun q => kf (px_nle.mp q))
theorem V1_if_le {x : Int32} {off : Int} (tgt : Nat) (hd : decode M.2.1 pc = .ok (.ifCond .le off, 3)) (ht : (pc : Int) + off = (tgt : Int)) (kt : ¬ 0 < x → V0 l R M XT kc ks tgt ls st h Q) (kf : 0 < x → V0 l R M XT kc ks (pc + 3) ls st h Q) : V0 l R M XT kc ks pc ls (.int x :: st) h Q :=
  V0_if_le tgt hd ht (fun q => kt (px_nlt.mpr q)) (fun q => kf (px_nle.mp q))
theorem V1_icmp_ge {x y : Int32} {off : Int} (tgt : Nat) (hd : decode M.2.1 pc = .ok (.if_icmp .ge off, 3)) (ht : (pc : Int) + off = (tgt : Int)) (kt : ¬ x < y → V0 l R M XT kc ks tgt ls st h Q) (kf : x < y → V0 l R M XT kc ks (pc + 3) ls st h Q) : V0 l R M XT kc ks pc ls (.int y :: .int x :: st) h Q :=
  V0_icmp_ge tgt hd ht (fun q => kt (px_nlt.mpr q)) (fun q => kf (px_nle.mp q))
theorem V1_icmp_le {x y : Int32} {off : Int} (tgt : Nat) (hd : decode M.2.1 pc = .ok (.if_icmp .le off, 3)) (ht : (pc : Int) + off = (tgt : Int)) (kt : ¬ y < x → V0 l R M XT kc ks tgt ls st h Q) (kf : y < x → V0 l R M XT kc ks (pc + 3) ls st h Q) : V0 l R M XT kc ks pc ls (.int y :: .int x :: st) h Q :=
  V0_icmp_le tgt hd ht (fun q => kt (px_nlt.mpr q)) (fun q => kf (px_nle.mp q))
theorem px_ne {x c : Int32} {k : Int} (h : ¬ x = c) (hc : c.toInt = k) : x.toInt ≠ k := fun q => h (Int32.toInt_inj.mp (by rw [hc]; exact q))
theorem V_tabIn {dflt lo hi : Int} {offs : Array Int} {len : Nat} {x : Int32} {off : Int} (c : Int32) (tgt : Nat) (hd : decode M.2.1 pc = .ok (.tableswitch dflt lo hi offs, len)) (hx : x = c) (h1 : ¬ c.toInt < lo) (h2 : ¬ hi < c.toInt) (ho : offs[(c.toInt - lo).toNat]? = some off) (ht : (pc : Int) + off = (tgt : Int)) (k : V0 l R M XT kc ks tgt ls st h Q) : V0 l R M XT kc ks pc ls (.int x :: st) h Q := by
  subst hx
  exact V0_tableIn tgt hd h1 h2 ho ht k
theorem V_tabOut {dflt lo hi : Int} {offs : Array Int} {len : Nat} {x : Int32} (tgt : Nat) (hd : decode M.2.1 pc = .ok (.tableswitch dflt lo hi offs, len)) (h1 : x.toInt < lo ∨ hi < x.toInt) (ht : (pc : Int) + dflt = (tgt : Int)) (k : V0 l R M XT kc ks tgt ls st h Q) : V0 l R M XT kc ks pc ls (.int x :: st) h Q := V0_tableOut tgt hd h1 ht k
theorem V_lookIn {dflt : Int} {ps : Array (Int × Int)} {len : Nat} {x : Int32} {off : Int} (c : Int32) (tgt : Nat) (hd : decode M.2.1 pc = .ok (.lookupswitch dflt ps, len)) (hx : x = c) (hp : (ps.toList.zip (ps.toList.drop 1)).all (fun (a, next) => a.1 < next.1) = true) (ho : Op.lookupswitch.offset ps.toList dflt c.toInt = off) (ht : (pc : Int) + off = (tgt : Int)) (k : V0 l R M XT kc ks tgt ls st h Q) : V0 l R M XT kc ks pc ls (.int x :: st) h Q := by
  subst hx
  exact V0_lookup tgt hd hp ho ht k
end PB
/-- p is the place of a course: its arrays follow -/
def px_cs (p : Nat) : Prop := px_sh[p]? = some (.inr (2, [some (.ref (p + 1)), some (.ref (p + 2)), some (.ref (p + 3)), some (.ref (p + 4)), none, none, some (.ref 1)])) ∧ px_sh[p + 1]? = some (.inl (0, 7)) ∧ px_sh[p + 2]? = some (.inl (0, 10)) ∧ px_sh[p + 3]? = some (.inl (0, 10)) ∧ px_sh[p + 4]? = some (.inl (0, 6)) ∧ 8 ≤ p
theorem cs8 : px_cs 8 := ⟨rfl, rfl, rfl, rfl, rfl, by decide⟩
theorem cs23 : px_cs 23 := ⟨rfl, rfl, rfl, rfl, rfl, by decide⟩
theorem cs43 : px_cs 43 := ⟨rfl, rfl, rfl, rfl, rfl, by decide⟩
/-- p is the place of a law -/
def px_lw (p : Nat) : Prop := px_sh[p]? = some (.inr (3, [some (.ref (p + 1)), some (.ref (p + 2)), some (.ref (p + 3)), some (.ref (p + 4)), none])) ∧ px_sh[p + 1]? = some (.inl (0, 6)) ∧ px_sh[p + 2]? = some (.inl (0, 128)) ∧ px_sh[p + 3]? = some (.inl (0, 128)) ∧ px_sh[p + 4]? = some (.inl (0, 128)) ∧ 8 ≤ p
theorem lw14 : px_lw 14 := ⟨rfl, rfl, rfl, rfl, rfl, by decide⟩
theorem lw34 : px_lw 34 := ⟨rfl, rfl, rfl, rfl, rfl, by decide⟩
/-- an index held as an int -/
def ix (x : Int32) : Nat := x.toNatClampNeg
theorem ix_nI {n : Nat} (h : n < 2 ^ 31) : ix (nI n) = n := Int32.toNatClampNeg_ofNat_of_lt h
theorem nI_ix {x : Int32} (h : ¬ x < 0) : x = nI (ix x) := by
  apply Int32.toInt_inj.mp
  have h0 : 0 ≤ x.toInt := by
    have := px_nlt.mp h
    rw [Int32.le_iff_toInt_le] at this
    simpa using this
  have hx : x.toInt < 2 ^ 31 := Int32.toInt_lt x
  unfold nI ix
  rw [Int32.toInt_ofNat_of_lt (by show x.toInt.toNat < _; omega)]
  show x.toInt = (x.toInt.toNat : Int)
  omega
theorem qI_lt {a b : Nat} (ha : a < 2 ^ 31) (hb : b < 2 ^ 31) : nI a < nI b ↔ a < b := by
  rw [Int32.lt_iff_toInt_lt, nI_toInt ha, nI_toInt hb]; omega
theorem qI_inj {a b : Nat} (ha : a < 2 ^ 31) (hb : b < 2 ^ 31) : nI a = nI b ↔ a = b := by
  rw [← Int32.toInt_inj, nI_toInt ha, nI_toInt hb]; omega
theorem nI_nn {a : Nat} (ha : a < 2 ^ 31) : ¬ nI a < 0 := by
  rw [Int32.lt_iff_toInt_lt, nI_toInt ha]; simp
theorem ix_lt {x : Int32} {n : Nat} (h0 : ¬ x < 0) (hn : n < 2 ^ 31) (h : x < nI n) : ix x < n := by
  rw [nI_ix h0] at h
  have hx : x.toInt < 2 ^ 31 := Int32.toInt_lt x
  refine (qI_lt ?_ hn).mp h
  show x.toInt.toNat < 2 ^ 31
  omega
theorem px_li {x y : Int32} {I : px_I} {J : px_J} (h : x = y) : (fun (r : Option Value) (I' : px_I) (J' : px_J) => r = some (.int y) ∧ I' = I ∧ J' = J) (some (.int x)) I J := ⟨by rw [h], rfl, rfl⟩
end
section
/-! the course: what its methods answer -/
theorem px_up_at {I : px_I} {p k p' k' : Nat} {x : Int32} : px_up I p k x p' k' = if p' = p ∧ k' = k then x else I p' k' := rfl
def px_ofs (of : Nat → Int32) : Prop := ∀ j, j < 10 → of j = nI (ix (of j)) ∧ ix (of j) < 7
def s_runs (lasts ran lost : Nat → Int32) (j : Nat) : Bool := decide (lost j = 0) && decide (0 < ran j) && decide (ran j < lasts j)
def s_waits (due ran lost : Nat → Int32) (today : Int32) (j : Nat) : Bool := decide (lost j = 0) && decide (ran j = 0) && !decide (today < due j)
def s_had (lasts ran lost : Nat → Int32) (j : Nat) : Bool := decide (lost j = 0) && !decide (ran j < lasts j)
def s_in (due lasts ran lost : Nat → Int32) (today : Int32) (s : Int32) (j : Nat) : Bool := if s = 0 then s_waits due ran lost today j else if s = 1 then s_runs lasts ran lost j else if s = 2 then s_had lasts ran lost j else !decide (lost j = 0)
def s_bits (f : Nat → Bool) : Nat → Int32
  | 0 => 0
  | n + 1 => if f n = true then s_bits f n ||| ((1 : Int32) <<< (nI n &&& 31)) else s_bits f n
def s_any (f : Nat → Bool) : Nat → Bool
  | 0 => false
  | n + 1 => s_any f n || f n
def s_sum (c : Nat → Bool) (w : Nat → Int32) : Nat → Int32
  | 0 => 0
  | n + 1 => if c n = true then s_sum c w n + w n else s_sum c w n
def s_lead (house : Nat → Int32) : Nat → Int32
  | 0 => 0
  | n + 1 => s_lead house n + (if px_rem (house n) 2 = 0 then 1 else -1)
theorem s_any_of {f : Nat → Bool} {j n : Nat} (h : j < n) (hf : f j = true) : s_any f n = true := by
  induction n with
  | zero => omega
  | succ n ih =>
    unfold s_any
    by_cases hj : j = n
    · subst hj; simp [hf]
    · simp [ih (by omega)]
theorem V_ls {l : Launch} {R : Room} {M : px_M} {XT : px_X} {kc ks pc : Nat} {ls ls' st : List Value} {h : px_H} {Q : Option Value → px_H → Prop} (e : ls = ls') (k : V0 l R M XT kc ks pc ls' st h Q) : V0 l R M XT kc ks pc ls st h Q := by rw [e]; exact k
theorem V_st {l : Launch} {R : Room} {M : px_M} {XT : px_X} {kc ks pc : Nat} {ls ls' st : List Value} {I I' : px_I} {J : px_J} {Q : px_Q} (e : ls = ls') (e2 : I = I') (k : V0 l R M XT kc ks pc ls' st (px_mk I' J) (px_q Q)) : V0 l R M XT kc ks pc ls st (px_mk I J) (px_q Q) := by rw [e, e2]; exact k
theorem px_lt {a b : Nat} (h : nI a < nI b) (ha : a < 2 ^ 31) (hb : b < 2 ^ 31) : a < b := (qI_lt ha hb).mp h
theorem px_ge {a b : Nat} (h : ¬ nI a < nI b) (ha : a < 2 ^ 31) (hb : b < 2 ^ 31) : b ≤ a := Nat.le_of_not_lt (fun q => h ((qI_lt ha hb).mpr q))
abbrev g_runs (I : px_I) (p j : Nat) : Bool := s_runs (I 4) (I (p + 2)) (I (p + 3)) j
abbrev g_waits (I : px_I) (p j : Nat) : Bool := s_waits (I 3) (I (p + 2)) (I (p + 3)) (I p 5) j
abbrev g_had (I : px_I) (p j : Nat) : Bool := s_had (I 4) (I (p + 2)) (I (p + 3)) j
abbrev g_in (I : px_I) (p : Nat) (s : Int32) (j : Nat) : Bool := s_in (I 3) (I 4) (I (p + 2)) (I (p + 3)) (I p 5) s j
abbrev g_hoj (I : px_I) (p j : Nat) : Int32 := I (p + 1) (ix (I 2 j))
abbrev g_glad (I : px_I) (p n one : Nat) : Bool := decide (px_rem (I (p + 1) one) 2 = I p 4) && s_any (fun j => decide (I 2 j = nI one) && g_runs I p j) n
theorem c_X2_houseOfJoy {l : Launch} {I : px_I} {J : px_J} {p j : Nat} (hp : px_cs p) (hj : j < 10) (ho : px_ofs (I 2)) : CtI l mX2_houseOfJoy 0 [.ref p, .int (nI j)] I J (g_hoj I p j) := by
  obtain ⟨h1, h2⟩ := ho j hj
  refine Ct.of plX2_houseOfJoy (Nat.le_of_ble_eq_true rfl) [.ref p, .int (nI j), .null] rfl ?_
  refine V0_aload_n (pc := 0) dX2_houseOfJoy_0 rfl ?_
  refine V_getr (pc := 1) dX2_houseOfJoy_1 flX2_24 hp.1 rfl ?_
  refine V_getr (pc := 4) dX2_houseOfJoy_4 flX2_50 rfl rfl ?_
  refine V0_iload_n (pc := 7) dX2_houseOfJoy_7 rfl ?_
  refine V_iald (pc := 8) (j) dX2_houseOfJoy_8 rfl rfl (by omega) ?_
  refine V0_istore_2 (pc := 9) dX2_houseOfJoy_9 (by decide) rfl ?_
  refine V0_iload_n (pc := 10) dX2_houseOfJoy_10 rfl ?_
  refine V0_if_lt (pc := 11) 29 dX2_houseOfJoy_11 (by decide) (fun h11 => ?_) (fun h11 => ?_)
  · skip
    rw [h1] at h11; exact absurd h11 (nI_nn (by omega))
  · skip
    refine V0_iload_n (pc := 14) dX2_houseOfJoy_14 rfl ?_
    refine V0_bipush (pc := 15) (7) dX2_houseOfJoy_15 (by decide) ?_
    refine V1_icmp_ge (pc := 17) 29 dX2_houseOfJoy_17 (by decide) (fun h17 => ?_) (fun h17 => ?_)
    · skip
      rw [h1] at h17; exact absurd ((qI_lt (by omega) (by omega)).mpr h2) h17
    · skip
      refine V0_aload_n (pc := 20) dX2_houseOfJoy_20 rfl ?_
      refine V_getr (pc := 21) dX2_houseOfJoy_21 flX2_9 hp.1 rfl ?_
      refine V0_iload_n (pc := 24) dX2_houseOfJoy_24 rfl ?_
      refine V_iald (pc := 25) (ix (I 2 j)) dX2_houseOfJoy_25 hp.2.1 h1 h2 ?_
      refine V0_goto (pc := 26) 30 dX2_houseOfJoy_26 (by decide) ?_
      refine V_reti (pc := 30) _ dX2_houseOfJoy_30 rfl ?_
      refine px_li ?_
      rfl
theorem c_X2_sideOfJoy {l : Launch} {I : px_I} {J : px_J} {p j : Nat} (hp : px_cs p) (hj : j < 10) (ho : px_ofs (I 2)) : CtI l mX2_sideOfJoy 1 [.ref p, .int (nI j)] I J (px_rem (g_hoj I p j) 2) := by
  refine Ct.of plX2_sideOfJoy (Nat.le_of_ble_eq_true rfl) [.ref p, .int (nI j)] rfl ?_
  refine V0_aload_n (pc := 0) dX2_sideOfJoy_0 rfl ?_
  refine V0_iload_n (pc := 1) dX2_sideOfJoy_1 rfl ?_
  refine V_callVi (pc := 2) (M' := mX2_houseOfJoy) dX2_sideOfJoy_2 mlX2_55 okX2_houseOfJoy rfl (c_X2_houseOfJoy hp (by omega) ho) rfl rfl hp.1 rfl ⟨Nat.le_of_ble_eq_true rfl, Nat.le_of_ble_eq_true rfl⟩ ⟨Nat.le_refl 0, Nat.le_refl 0⟩ (Nat.le_of_ble_eq_true rfl) ?_
  refine V0_iconst (pc := 5) (2) dX2_sideOfJoy_5 (by decide) ?_
  refine V0_irem (pc := 6) dX2_sideOfJoy_6 (by decide) ?_
  refine V_reti (pc := 7) _ dX2_sideOfJoy_7 rfl ?_
  refine px_li ?_
  rfl
theorem c_X2_runs {l : Launch} {I : px_I} {J : px_J} {p j : Nat} (hp : px_cs p) (hj : j < 10) : CtI l mX2_runs 0 [.ref p, .int (nI j)] I J (b2 (g_runs I p j)) := by
  refine Ct.of plX2_runs (Nat.le_of_ble_eq_true rfl) [.ref p, .int (nI j)] rfl ?_
  refine V0_aload_n (pc := 0) dX2_runs_0 rfl ?_
  refine V_getr (pc := 1) dX2_runs_1 flX2_18 hp.1 rfl ?_
  refine V0_iload_n (pc := 4) dX2_runs_4 rfl ?_
  refine V_iald (pc := 5) (j) dX2_runs_5 hp.2.2.2.1 rfl (by omega) ?_
  refine V0_if_ne (pc := 6) 40 dX2_runs_6 (by decide) (fun h6 => ?_) (fun h6 => ?_)
  · skip
    refine V0_iconst (pc := 40) (0) dX2_runs_40 (by decide) ?_
    refine V_retz (pc := 41) _ dX2_runs_41 rfl (Or.inl rfl) ?_
    refine px_li ?_
    simp [s_runs, b2, *]
  · skip
    refine V0_aload_n (pc := 9) dX2_runs_9 rfl ?_
    refine V_getr (pc := 10) dX2_runs_10 flX2_15 hp.1 rfl ?_
    refine V0_iload_n (pc := 13) dX2_runs_13 rfl ?_
    refine V_iald (pc := 14) (j) dX2_runs_14 hp.2.2.1 rfl (by omega) ?_
    refine V1_if_le (pc := 15) 40 dX2_runs_15 (by decide) (fun h15 => ?_) (fun h15 => ?_)
    · skip
      refine V0_iconst (pc := 40) (0) dX2_runs_40 (by decide) ?_
      refine V_retz (pc := 41) _ dX2_runs_41 rfl (Or.inl rfl) ?_
      refine px_li ?_
      simp [s_runs, b2, *]
    · skip
      refine V0_aload_n (pc := 18) dX2_runs_18 rfl ?_
      refine V_getr (pc := 19) dX2_runs_19 flX2_15 hp.1 rfl ?_
      refine V0_iload_n (pc := 22) dX2_runs_22 rfl ?_
      refine V_iald (pc := 23) (j) dX2_runs_23 hp.2.2.1 rfl (by omega) ?_
      refine V0_aload_n (pc := 24) dX2_runs_24 rfl ?_
      refine V_getr (pc := 25) dX2_runs_25 flX2_24 hp.1 rfl ?_
      refine V_getr (pc := 28) dX2_runs_28 flX2_59 rfl rfl ?_
      refine V0_iload_n (pc := 31) dX2_runs_31 rfl ?_
      refine V_iald (pc := 32) (j) dX2_runs_32 rfl rfl (by omega) ?_
      refine V1_icmp_ge (pc := 33) 40 dX2_runs_33 (by decide) (fun h33 => ?_) (fun h33 => ?_)
      · skip
        refine V0_iconst (pc := 40) (0) dX2_runs_40 (by decide) ?_
        refine V_retz (pc := 41) _ dX2_runs_41 rfl (Or.inl rfl) ?_
        refine px_li ?_
        simp [s_runs, b2, *]
      · skip
        refine V0_iconst (pc := 36) (1) dX2_runs_36 (by decide) ?_
        refine V0_goto (pc := 37) 41 dX2_runs_37 (by decide) ?_
        refine V_retz (pc := 41) _ dX2_runs_41 rfl (Or.inr rfl) ?_
        refine px_li ?_
        simp [s_runs, b2, *]
theorem c_X2_waits {l : Launch} {I : px_I} {J : px_J} {p j : Nat} (hp : px_cs p) (hj : j < 10) : CtI l mX2_waits 0 [.ref p, .int (nI j)] I J (b2 (g_waits I p j)) := by
  refine Ct.of plX2_waits (Nat.le_of_ble_eq_true rfl) [.ref p, .int (nI j)] rfl ?_
  refine V0_aload_n (pc := 0) dX2_waits_0 rfl ?_
  refine V_getr (pc := 1) dX2_waits_1 flX2_18 hp.1 rfl ?_
  refine V0_iload_n (pc := 4) dX2_waits_4 rfl ?_
  refine V_iald (pc := 5) (j) dX2_waits_5 hp.2.2.2.1 rfl (by omega) ?_
  refine V0_if_ne (pc := 6) 38 dX2_waits_6 (by decide) (fun h6 => ?_) (fun h6 => ?_)
  · skip
    refine V0_iconst (pc := 38) (0) dX2_waits_38 (by decide) ?_
    refine V_retz (pc := 39) _ dX2_waits_39 rfl (Or.inl rfl) ?_
    refine px_li ?_
    simp [s_waits, b2, *]
  · skip
    refine V0_aload_n (pc := 9) dX2_waits_9 rfl ?_
    refine V_getr (pc := 10) dX2_waits_10 flX2_15 hp.1 rfl ?_
    refine V0_iload_n (pc := 13) dX2_waits_13 rfl ?_
    refine V_iald (pc := 14) (j) dX2_waits_14 hp.2.2.1 rfl (by omega) ?_
    refine V0_if_ne (pc := 15) 38 dX2_waits_15 (by decide) (fun h15 => ?_) (fun h15 => ?_)
    · skip
      refine V0_iconst (pc := 38) (0) dX2_waits_38 (by decide) ?_
      refine V_retz (pc := 39) _ dX2_waits_39 rfl (Or.inl rfl) ?_
      refine px_li ?_
      simp [s_waits, b2, *]
    · skip
      refine V0_aload_n (pc := 18) dX2_waits_18 rfl ?_
      refine V_geti (pc := 19) dX2_waits_19 flX2_47 hp.1 rfl ?_
      refine V0_aload_n (pc := 22) dX2_waits_22 rfl ?_
      refine V_getr (pc := 23) dX2_waits_23 flX2_24 hp.1 rfl ?_
      refine V_getr (pc := 26) dX2_waits_26 flX2_62 rfl rfl ?_
      refine V0_iload_n (pc := 29) dX2_waits_29 rfl ?_
      refine V_iald (pc := 30) (j) dX2_waits_30 rfl rfl (by omega) ?_
      refine V0_icmp_lt (pc := 31) 38 dX2_waits_31 (by decide) (fun h31 => ?_) (fun h31 => ?_)
      · skip
        refine V0_iconst (pc := 38) (0) dX2_waits_38 (by decide) ?_
        refine V_retz (pc := 39) _ dX2_waits_39 rfl (Or.inl rfl) ?_
        refine px_li ?_
        simp [s_waits, b2, *]
      · skip
        refine V0_iconst (pc := 34) (1) dX2_waits_34 (by decide) ?_
        refine V0_goto (pc := 35) 39 dX2_waits_35 (by decide) ?_
        refine V_retz (pc := 39) _ dX2_waits_39 rfl (Or.inr rfl) ?_
        refine px_li ?_
        simp [s_waits, b2, *]
theorem c_X2_had {l : Launch} {I : px_I} {J : px_J} {p j : Nat} (hp : px_cs p) (hj : j < 10) : CtI l mX2_had 0 [.ref p, .int (nI j)] I J (b2 (g_had I p j)) := by
  refine Ct.of plX2_had (Nat.le_of_ble_eq_true rfl) [.ref p, .int (nI j)] rfl ?_
  refine V0_aload_n (pc := 0) dX2_had_0 rfl ?_
  refine V_getr (pc := 1) dX2_had_1 flX2_18 hp.1 rfl ?_
  refine V0_iload_n (pc := 4) dX2_had_4 rfl ?_
  refine V_iald (pc := 5) (j) dX2_had_5 hp.2.2.2.1 rfl (by omega) ?_
  refine V0_if_ne (pc := 6) 31 dX2_had_6 (by decide) (fun h6 => ?_) (fun h6 => ?_)
  · skip
    refine V0_iconst (pc := 31) (0) dX2_had_31 (by decide) ?_
    refine V_retz (pc := 32) _ dX2_had_32 rfl (Or.inl rfl) ?_
    refine px_li ?_
    simp [s_had, b2, *]
  · skip
    refine V0_aload_n (pc := 9) dX2_had_9 rfl ?_
    refine V_getr (pc := 10) dX2_had_10 flX2_15 hp.1 rfl ?_
    refine V0_iload_n (pc := 13) dX2_had_13 rfl ?_
    refine V_iald (pc := 14) (j) dX2_had_14 hp.2.2.1 rfl (by omega) ?_
    refine V0_aload_n (pc := 15) dX2_had_15 rfl ?_
    refine V_getr (pc := 16) dX2_had_16 flX2_24 hp.1 rfl ?_
    refine V_getr (pc := 19) dX2_had_19 flX2_59 rfl rfl ?_
    refine V0_iload_n (pc := 22) dX2_had_22 rfl ?_
    refine V_iald (pc := 23) (j) dX2_had_23 rfl rfl (by omega) ?_
    refine V0_icmp_lt (pc := 24) 31 dX2_had_24 (by decide) (fun h24 => ?_) (fun h24 => ?_)
    · skip
      refine V0_iconst (pc := 31) (0) dX2_had_31 (by decide) ?_
      refine V_retz (pc := 32) _ dX2_had_32 rfl (Or.inl rfl) ?_
      refine px_li ?_
      simp [s_had, b2, *]
    · skip
      refine V0_iconst (pc := 27) (1) dX2_had_27 (by decide) ?_
      refine V0_goto (pc := 28) 32 dX2_had_28 (by decide) ?_
      refine V_retz (pc := 32) _ dX2_had_32 rfl (Or.inr rfl) ?_
      refine px_li ?_
      simp [s_had, b2, *]
theorem c_X2_isIn {l : Launch} {I : px_I} {J : px_J} {p j : Nat} {s : Int32} (hp : px_cs p) (hj : j < 10) : CtI l mX2_isIn 1 [.ref p, .int (nI j), .int s] I J (b2 (g_in I p s j)) := by
  refine Ct.of plX2_isIn (Nat.le_of_ble_eq_true rfl) [.ref p, .int (nI j), .int s] rfl ?_
  refine V0_iload_n (pc := 0) dX2_isIn_0 rfl ?_
  by_cases s1_0 : s = (0)
  · refine V_tabIn (pc := 1) (off := 27) (0) 28 dX2_isIn_1 s1_0 (by decide) (by decide) (by decide) (by decide) ?_
    refine V0_aload_n (pc := 28) dX2_isIn_28 rfl ?_
    refine V0_iload_n (pc := 29) dX2_isIn_29 rfl ?_
    refine V_callVi (pc := 30) (M' := mX2_waits) dX2_isIn_30 mlX2_65 okX2_waits rfl (c_X2_waits hp (by omega)) rfl rfl hp.1 rfl ⟨Nat.le_of_ble_eq_true rfl, Nat.le_of_ble_eq_true rfl⟩ ⟨Nat.le_refl 0, Nat.le_refl 0⟩ (Nat.le_of_ble_eq_true rfl) ?_
    refine V_retz (pc := 33) _ dX2_isIn_33 rfl (b2_01 _) ?_
    refine px_li ?_
    simp [s_in, b2, *]
  by_cases s1_1 : s = (1)
  · refine V_tabIn (pc := 1) (off := 33) (1) 34 dX2_isIn_1 s1_1 (by decide) (by decide) (by decide) (by decide) ?_
    refine V0_aload_n (pc := 34) dX2_isIn_34 rfl ?_
    refine V0_iload_n (pc := 35) dX2_isIn_35 rfl ?_
    refine V_callVi (pc := 36) (M' := mX2_runs) dX2_isIn_36 mlX2_69 okX2_runs rfl (c_X2_runs hp (by omega)) rfl rfl hp.1 rfl ⟨Nat.le_of_ble_eq_true rfl, Nat.le_of_ble_eq_true rfl⟩ ⟨Nat.le_refl 0, Nat.le_refl 0⟩ (Nat.le_of_ble_eq_true rfl) ?_
    refine V_retz (pc := 39) _ dX2_isIn_39 rfl (b2_01 _) ?_
    refine px_li ?_
    simp [s_in, b2, *]
  by_cases s1_2 : s = (2)
  · refine V_tabIn (pc := 1) (off := 39) (2) 40 dX2_isIn_1 s1_2 (by decide) (by decide) (by decide) (by decide) ?_
    refine V0_aload_n (pc := 40) dX2_isIn_40 rfl ?_
    refine V0_iload_n (pc := 41) dX2_isIn_41 rfl ?_
    refine V_callVi (pc := 42) (M' := mX2_had) dX2_isIn_42 mlX2_72 okX2_had rfl (c_X2_had hp (by omega)) rfl rfl hp.1 rfl ⟨Nat.le_of_ble_eq_true rfl, Nat.le_of_ble_eq_true rfl⟩ ⟨Nat.le_refl 0, Nat.le_refl 0⟩ (Nat.le_of_ble_eq_true rfl) ?_
    refine V_retz (pc := 45) _ dX2_isIn_45 rfl (b2_01 _) ?_
    refine px_li ?_
    simp [s_in, b2, *]
  refine V_tabOut (pc := 1) 46 dX2_isIn_1 (by have g0 := px_ne s1_0 (k := 0) (by decide); have g1 := px_ne s1_1 (k := 1) (by decide); have g2 := px_ne s1_2 (k := 2) (by decide); omega) (by decide) ?_
  refine V0_aload_n (pc := 46) dX2_isIn_46 rfl ?_
  refine V_getr (pc := 47) dX2_isIn_47 flX2_18 hp.1 rfl ?_
  refine V0_iload_n (pc := 50) dX2_isIn_50 rfl ?_
  refine V_iald (pc := 51) (j) dX2_isIn_51 hp.2.2.2.1 rfl (by omega) ?_
  refine V0_if_eq (pc := 52) 59 dX2_isIn_52 (by decide) (fun h52 => ?_) (fun h52 => ?_)
  · skip
    refine V0_iconst (pc := 59) (0) dX2_isIn_59 (by decide) ?_
    refine V_retz (pc := 60) _ dX2_isIn_60 rfl (Or.inl rfl) ?_
    refine px_li ?_
    simp [s_in, b2, *]
  · skip
    refine V0_iconst (pc := 55) (1) dX2_isIn_55 (by decide) ?_
    refine V0_goto (pc := 56) 60 dX2_isIn_56 (by decide) ?_
    refine V_retz (pc := 60) _ dX2_isIn_60 rfl (Or.inr rfl) ?_
    refine px_li ?_
    simp [s_in, b2, *]
theorem lp_X2_joysThat {l : Launch} {I : px_I} {J : px_J} {p n : Nat} {s : Int32} {Q : px_Q} (hp : px_cs p) (hn : I 1 7 = nI n) (hn10 : n ≤ 10) (hQ : Q (some (.int (s_bits (g_in I p s) n))) I J) : ∀ (k j : Nat), n + 1 - j ≤ k → j ≤ n → V0 l (px_rm 2 0 0) mX2_joysThat (false, []) 0 0 4 [.ref p, .int s, .int (s_bits (g_in I p s) j), .int (nI j)] [] (px_mk I J) (px_q Q) := by
  intro k
  induction k with
  | zero => intro j h1 h2; omega
  | succ k ih =>
    intro j h1 h2
    refine V0_iload_n (pc := 4) dX2_joysThat_4 rfl ?_
    refine V0_aload_n (pc := 5) dX2_joysThat_5 rfl ?_
    refine V_getr (pc := 6) dX2_joysThat_6 flX2_24 hp.1 rfl ?_
    refine V_geti (pc := 9) dX2_joysThat_9 flX2_75 rfl rfl ?_
    rw [hn]
    refine V1_icmp_ge (pc := 12) 36 dX2_joysThat_12 (by decide) (fun h12 => ?_) (fun h12 => ?_)
    · skip
      have hj : j = n := by have := px_ge h12 (by omega) (by omega); omega
      subst hj
      refine V0_iload_n (pc := 36) dX2_joysThat_36 rfl ?_
      refine V_reti (pc := 37) _ dX2_joysThat_37 rfl ?_
      exact hQ
    · skip
      have hj := px_lt h12 (by omega) (by omega)
      refine V0_aload_n (pc := 15) dX2_joysThat_15 rfl ?_
      refine V0_iload_n (pc := 16) dX2_joysThat_16 rfl ?_
      refine V0_iload_n (pc := 17) dX2_joysThat_17 rfl ?_
      refine V_callVi (pc := 18) (M' := mX2_isIn) dX2_joysThat_18 mlX2_78 okX2_isIn rfl (c_X2_isIn hp (by omega)) rfl rfl hp.1 rfl ⟨Nat.le_of_ble_eq_true rfl, Nat.le_of_ble_eq_true rfl⟩ ⟨Nat.le_refl 0, Nat.le_refl 0⟩ (Nat.le_of_ble_eq_true rfl) ?_
      refine V_ifeqb (pc := 21) 30 dX2_joysThat_21 (by decide) (fun h21 => ?_) (fun h21 => ?_)
      · skip
        refine V0_iinc_3 (pc := 30) (nI (j + 1)) dX2_joysThat_30 (by decide) rfl (nI_1 _) ?_
        refine V0_goto (pc := 33) 4 dX2_joysThat_33 (by decide) ?_
        exact V_ls (by simp [s_bits, h21]) (ih (j + 1) (by omega) (by omega))
      · skip
        refine V0_iload_n (pc := 24) dX2_joysThat_24 rfl ?_
        refine V0_iconst (pc := 25) (1) dX2_joysThat_25 (by decide) ?_
        refine V0_iload_n (pc := 26) dX2_joysThat_26 rfl ?_
        refine V0_ishl (pc := 27) dX2_joysThat_27 ?_
        refine V0_ior (pc := 28) dX2_joysThat_28 ?_
        refine V0_istore_2 (pc := 29) dX2_joysThat_29 (by decide) rfl ?_
        refine V0_iinc_3 (pc := 30) (nI (j + 1)) dX2_joysThat_30 (by decide) rfl (nI_1 _) ?_
        refine V0_goto (pc := 33) 4 dX2_joysThat_33 (by decide) ?_
        exact V_ls (by simp [s_bits, h21]) (ih (j + 1) (by omega) (by omega))
theorem c_X2_joysThat {l : Launch} {I : px_I} {J : px_J} {p n : Nat} {s : Int32} (hp : px_cs p) (hn : I 1 7 = nI n) (hn10 : n ≤ 10) : CtI l mX2_joysThat 2 [.ref p, .int s] I J (s_bits (g_in I p s) n) := by
  refine Ct.of plX2_joysThat (Nat.le_of_ble_eq_true rfl) [.ref p, .int s, .null, .null] rfl ?_
  refine V0_iconst (pc := 0) (0) dX2_joysThat_0 (by decide) ?_
  refine V0_istore_2 (pc := 1) dX2_joysThat_1 (by decide) rfl ?_
  refine V0_iconst (pc := 2) (0) dX2_joysThat_2 (by decide) ?_
  refine V0_istore_3 (pc := 3) dX2_joysThat_3 (by decide) rfl ?_
  exact lp_X2_joysThat hp hn hn10 ⟨rfl, rfl, rfl⟩ (n + 1) 0 (by omega) (by omega)
theorem lp_X2_isGlad {l : Launch} {I : px_I} {J : px_J} {p n one : Nat} {Q : px_Q} (hp : px_cs p) (hn : I 1 7 = nI n) (hn10 : n ≤ 10) (hQ : Q (some (.int (b2 (s_any (fun j => decide (I 2 j = nI one) && g_runs I p j) n)))) I J) : ∀ (k j : Nat), n + 1 - j ≤ k → j ≤ n → s_any (fun j => decide (I 2 j = nI one) && g_runs I p j) j = false → V0 l (px_rm 1 0 0) mX2_isGlad (false, []) 0 0 19 [.ref p, .int (nI one), .int (nI j)] [] (px_mk I J) (px_q Q) := by
  intro k
  induction k with
  | zero => intro j h1 h2; omega
  | succ k ih =>
    intro j h1 h2 h3
    refine V0_iload_n (pc := 19) dX2_isGlad_19 rfl ?_
    refine V0_aload_n (pc := 20) dX2_isGlad_20 rfl ?_
    refine V_getr (pc := 21) dX2_isGlad_21 flX2_24 hp.1 rfl ?_
    refine V_geti (pc := 24) dX2_isGlad_24 flX2_75 rfl rfl ?_
    rw [hn]
    refine V1_icmp_ge (pc := 27) 59 dX2_isGlad_27 (by decide) (fun h27 => ?_) (fun h27 => ?_)
    · skip
      have hj : j = n := by have := px_ge h27 (by omega) (by omega); omega
      subst hj
      refine V0_iconst (pc := 59) (0) dX2_isGlad_59 (by decide) ?_
      refine V_retz (pc := 60) _ dX2_isGlad_60 rfl (Or.inl rfl) ?_
      rw [h3] at hQ; exact hQ
    · skip
      have hj := px_lt h27 (by omega) (by omega)
      refine V0_aload_n (pc := 30) dX2_isGlad_30 rfl ?_
      refine V_getr (pc := 31) dX2_isGlad_31 flX2_24 hp.1 rfl ?_
      refine V_getr (pc := 34) dX2_isGlad_34 flX2_50 rfl rfl ?_
      refine V0_iload_n (pc := 37) dX2_isGlad_37 rfl ?_
      refine V_iald (pc := 38) (j) dX2_isGlad_38 rfl rfl (by omega) ?_
      refine V0_iload_n (pc := 39) dX2_isGlad_39 rfl ?_
      refine V0_icmp_ne (pc := 40) 53 dX2_isGlad_40 (by decide) (fun h40 => ?_) (fun h40 => ?_)
      · skip
        refine V0_iinc_2 (pc := 53) (nI (j + 1)) dX2_isGlad_53 (by decide) rfl (nI_1 _) ?_
        refine V0_goto (pc := 56) 19 dX2_isGlad_56 (by decide) ?_
        exact ih (j + 1) (by omega) (by omega) (by simp [s_any, *])
      · skip
        refine V0_aload_n (pc := 43) dX2_isGlad_43 rfl ?_
        refine V0_iload_n (pc := 44) dX2_isGlad_44 rfl ?_
        refine V_callVi (pc := 45) (M' := mX2_runs) dX2_isGlad_45 mlX2_69 okX2_runs rfl (c_X2_runs hp (by omega)) rfl rfl hp.1 rfl ⟨Nat.le_of_ble_eq_true rfl, Nat.le_of_ble_eq_true rfl⟩ ⟨Nat.le_refl 0, Nat.le_refl 0⟩ (Nat.le_of_ble_eq_true rfl) ?_
        refine V_ifeqb (pc := 48) 53 dX2_isGlad_48 (by decide) (fun h48 => ?_) (fun h48 => ?_)
        · skip
          refine V0_iinc_2 (pc := 53) (nI (j + 1)) dX2_isGlad_53 (by decide) rfl (nI_1 _) ?_
          refine V0_goto (pc := 56) 19 dX2_isGlad_56 (by decide) ?_
          exact ih (j + 1) (by omega) (by omega) (by simp [s_any, *])
        · skip
          refine V0_iconst (pc := 51) (1) dX2_isGlad_51 (by decide) ?_
          refine V_retz (pc := 52) _ dX2_isGlad_52 rfl (Or.inr rfl) ?_
          rw [s_any_of hj (by simp [*])] at hQ; exact hQ
theorem c_X2_isGlad {l : Launch} {I : px_I} {J : px_J} {p n one : Nat} (hp : px_cs p) (hn : I 1 7 = nI n) (hn10 : n ≤ 10) (h7 : one < 7) : CtI l mX2_isGlad 1 [.ref p, .int (nI one)] I J (b2 (g_glad I p n one)) := by
  refine Ct.of plX2_isGlad (Nat.le_of_ble_eq_true rfl) [.ref p, .int (nI one), .null] rfl ?_
  refine V0_aload_n (pc := 0) dX2_isGlad_0 rfl ?_
  refine V_getr (pc := 1) dX2_isGlad_1 flX2_9 hp.1 rfl ?_
  refine V0_iload_n (pc := 4) dX2_isGlad_4 rfl ?_
  refine V_iald (pc := 5) (one) dX2_isGlad_5 hp.2.1 rfl (by omega) ?_
  refine V0_iconst (pc := 6) (2) dX2_isGlad_6 (by decide) ?_
  refine V0_irem (pc := 7) dX2_isGlad_7 (by decide) ?_
  refine V0_aload_n (pc := 8) dX2_isGlad_8 rfl ?_
  refine V_geti (pc := 9) dX2_isGlad_9 flX2_43 hp.1 rfl ?_
  refine V0_icmp_eq (pc := 12) 17 dX2_isGlad_12 (by decide) (fun h12 => ?_) (fun h12 => ?_)
  · skip
    refine V0_iconst (pc := 17) (0) dX2_isGlad_17 (by decide) ?_
    refine V0_istore_2 (pc := 18) dX2_isGlad_18 (by decide) rfl ?_
    refine lp_X2_isGlad hp hn hn10 ?_ (n + 1) 0 (by omega) (by omega) rfl
    refine px_li ?_
    simp [g_glad, h12]
  · skip
    refine V0_iconst (pc := 15) (0) dX2_isGlad_15 (by decide) ?_
    refine V_retz (pc := 16) _ dX2_isGlad_16 rfl (Or.inl rfl) ?_
    refine px_li ?_
    simp [b2, *]
theorem lp_X2_gladPeople {l : Launch} {I : px_I} {J : px_J} {p n m : Nat} {Q : px_Q} (hp : px_cs p) (hn : I 1 7 = nI n) (hn10 : n ≤ 10) (hm : I 1 6 = nI m) (hm7 : m ≤ 7) (hQ : Q (some (.int (s_bits (g_glad I p n) m))) I J) : ∀ (k j : Nat), m + 1 - j ≤ k → j ≤ m → V0 l (px_rm 2 0 0) mX2_gladPeople (false, []) 0 0 4 [.ref p, .int (s_bits (g_glad I p n) j), .int (nI j)] [] (px_mk I J) (px_q Q) := by
  intro k
  induction k with
  | zero => intro j h1 h2; omega
  | succ k ih =>
    intro j h1 h2
    refine V0_iload_n (pc := 4) dX2_gladPeople_4 rfl ?_
    refine V0_aload_n (pc := 5) dX2_gladPeople_5 rfl ?_
    refine V_getr (pc := 6) dX2_gladPeople_6 flX2_24 hp.1 rfl ?_
    refine V_geti (pc := 9) dX2_gladPeople_9 flX2_82 rfl rfl ?_
    rw [hm]
    refine V1_icmp_ge (pc := 12) 35 dX2_gladPeople_12 (by decide) (fun h12 => ?_) (fun h12 => ?_)
    · skip
      have hj : j = m := by have := px_ge h12 (by omega) (by omega); omega
      subst hj
      refine V0_iload_n (pc := 35) dX2_gladPeople_35 rfl ?_
      refine V_reti (pc := 36) _ dX2_gladPeople_36 rfl ?_
      exact hQ
    · skip
      have hj := px_lt h12 (by omega) (by omega)
      refine V0_aload_n (pc := 15) dX2_gladPeople_15 rfl ?_
      refine V0_iload_n (pc := 16) dX2_gladPeople_16 rfl ?_
      refine V_callVi (pc := 17) (M' := mX2_isGlad) dX2_gladPeople_17 mlX2_85 okX2_isGlad rfl (c_X2_isGlad hp hn hn10 (by omega)) rfl rfl hp.1 rfl ⟨Nat.le_of_ble_eq_true rfl, Nat.le_of_ble_eq_true rfl⟩ ⟨Nat.le_refl 0, Nat.le_refl 0⟩ (Nat.le_of_ble_eq_true rfl) ?_
      refine V_ifeqb (pc := 20) 29 dX2_gladPeople_20 (by decide) (fun h20 => ?_) (fun h20 => ?_)
      · skip
        refine V0_iinc_2 (pc := 29) (nI (j + 1)) dX2_gladPeople_29 (by decide) rfl (nI_1 _) ?_
        refine V0_goto (pc := 32) 4 dX2_gladPeople_32 (by decide) ?_
        exact V_ls (by simp only [s_bits, h20]; simp) (ih (j + 1) (by omega) (by omega))
      · skip
        refine V0_iload_n (pc := 23) dX2_gladPeople_23 rfl ?_
        refine V0_iconst (pc := 24) (1) dX2_gladPeople_24 (by decide) ?_
        refine V0_iload_n (pc := 25) dX2_gladPeople_25 rfl ?_
        refine V0_ishl (pc := 26) dX2_gladPeople_26 ?_
        refine V0_ior (pc := 27) dX2_gladPeople_27 ?_
        refine V0_istore_1 (pc := 28) dX2_gladPeople_28 (by decide) rfl ?_
        refine V0_iinc_2 (pc := 29) (nI (j + 1)) dX2_gladPeople_29 (by decide) rfl (nI_1 _) ?_
        refine V0_goto (pc := 32) 4 dX2_gladPeople_32 (by decide) ?_
        exact V_ls (by simp only [s_bits, h20]; simp) (ih (j + 1) (by omega) (by omega))
theorem c_X2_gladPeople {l : Launch} {I : px_I} {J : px_J} {p n m : Nat} (hp : px_cs p) (hn : I 1 7 = nI n) (hn10 : n ≤ 10) (hm : I 1 6 = nI m) (hm7 : m ≤ 7) : CtI l mX2_gladPeople 2 [.ref p] I J (s_bits (g_glad I p n) m) := by
  refine Ct.of plX2_gladPeople (Nat.le_of_ble_eq_true rfl) [.ref p, .null, .null] rfl ?_
  refine V0_iconst (pc := 0) (0) dX2_gladPeople_0 (by decide) ?_
  refine V0_istore_1 (pc := 1) dX2_gladPeople_1 (by decide) rfl ?_
  refine V0_iconst (pc := 2) (0) dX2_gladPeople_2 (by decide) ?_
  refine V0_istore_2 (pc := 3) dX2_gladPeople_3 (by decide) rfl ?_
  exact lp_X2_gladPeople hp hn hn10 hm hm7 ⟨rfl, rfl, rfl⟩ (m + 1) 0 (by omega) (by omega)
theorem lp_X2_worthOfHad {l : Launch} {I : px_I} {J : px_J} {p n : Nat} {Q : px_Q} (hp : px_cs p) (hn : I 1 7 = nI n) (hn10 : n ≤ 10) (hQ : Q (some (.int (s_sum (g_had I p) (I 6) n))) I J) : ∀ (k j : Nat), n + 1 - j ≤ k → j ≤ n → V0 l (px_rm 1 0 0) mX2_worthOfHad (false, []) 0 0 4 [.ref p, .int (s_sum (g_had I p) (I 6) j), .int (nI j)] [] (px_mk I J) (px_q Q) := by
  intro k
  induction k with
  | zero => intro j h1 h2; omega
  | succ k ih =>
    intro j h1 h2
    refine V0_iload_n (pc := 4) dX2_worthOfHad_4 rfl ?_
    refine V0_aload_n (pc := 5) dX2_worthOfHad_5 rfl ?_
    refine V_getr (pc := 6) dX2_worthOfHad_6 flX2_24 hp.1 rfl ?_
    refine V_geti (pc := 9) dX2_worthOfHad_9 flX2_75 rfl rfl ?_
    rw [hn]
    refine V1_icmp_ge (pc := 12) 41 dX2_worthOfHad_12 (by decide) (fun h12 => ?_) (fun h12 => ?_)
    · skip
      have hj : j = n := by have := px_ge h12 (by omega) (by omega); omega
      subst hj
      refine V0_iload_n (pc := 41) dX2_worthOfHad_41 rfl ?_
      refine V_reti (pc := 42) _ dX2_worthOfHad_42 rfl ?_
      exact hQ
    · skip
      have hj := px_lt h12 (by omega) (by omega)
      refine V0_aload_n (pc := 15) dX2_worthOfHad_15 rfl ?_
      refine V0_iload_n (pc := 16) dX2_worthOfHad_16 rfl ?_
      refine V_callVi (pc := 17) (M' := mX2_had) dX2_worthOfHad_17 mlX2_72 okX2_had rfl (c_X2_had hp (by omega)) rfl rfl hp.1 rfl ⟨Nat.le_of_ble_eq_true rfl, Nat.le_of_ble_eq_true rfl⟩ ⟨Nat.le_refl 0, Nat.le_refl 0⟩ (Nat.le_of_ble_eq_true rfl) ?_
      refine V_ifeqb (pc := 20) 35 dX2_worthOfHad_20 (by decide) (fun h20 => ?_) (fun h20 => ?_)
      · skip
        refine V0_iinc_2 (pc := 35) (nI (j + 1)) dX2_worthOfHad_35 (by decide) rfl (nI_1 _) ?_
        refine V0_goto (pc := 38) 4 dX2_worthOfHad_38 (by decide) ?_
        exact V_ls (by simp only [s_sum, h20]; simp) (ih (j + 1) (by omega) (by omega))
      · skip
        refine V0_iload_n (pc := 23) dX2_worthOfHad_23 rfl ?_
        refine V0_aload_n (pc := 24) dX2_worthOfHad_24 rfl ?_
        refine V_getr (pc := 25) dX2_worthOfHad_25 flX2_24 hp.1 rfl ?_
        refine V_getr (pc := 28) dX2_worthOfHad_28 flX2_88 rfl rfl ?_
        refine V0_iload_n (pc := 31) dX2_worthOfHad_31 rfl ?_
        refine V_iald (pc := 32) (j) dX2_worthOfHad_32 rfl rfl (by omega) ?_
        refine V0_iadd (pc := 33) dX2_worthOfHad_33 ?_
        refine V0_istore_1 (pc := 34) dX2_worthOfHad_34 (by decide) rfl ?_
        refine V0_iinc_2 (pc := 35) (nI (j + 1)) dX2_worthOfHad_35 (by decide) rfl (nI_1 _) ?_
        refine V0_goto (pc := 38) 4 dX2_worthOfHad_38 (by decide) ?_
        exact V_ls (by simp only [s_sum, h20]; simp) (ih (j + 1) (by omega) (by omega))
theorem c_X2_worthOfHad {l : Launch} {I : px_I} {J : px_J} {p n : Nat} (hp : px_cs p) (hn : I 1 7 = nI n) (hn10 : n ≤ 10) : CtI l mX2_worthOfHad 1 [.ref p] I J (s_sum (g_had I p) (I 6) n) := by
  refine Ct.of plX2_worthOfHad (Nat.le_of_ble_eq_true rfl) [.ref p, .null, .null] rfl ?_
  refine V0_iconst (pc := 0) (0) dX2_worthOfHad_0 (by decide) ?_
  refine V0_istore_1 (pc := 1) dX2_worthOfHad_1 (by decide) rfl ?_
  refine V0_iconst (pc := 2) (0) dX2_worthOfHad_2 (by decide) ?_
  refine V0_istore_2 (pc := 3) dX2_worthOfHad_3 (by decide) rfl ?_
  exact lp_X2_worthOfHad hp hn hn10 ⟨rfl, rfl, rfl⟩ (n + 1) 0 (by omega) (by omega)
abbrev g_hadBy (I : px_I) (p : Nat) (one : Int32) (j : Nat) : Bool := decide (I 2 j = one) && g_had I p j
theorem lp_X2_worthOfHadBy {l : Launch} {I : px_I} {J : px_J} {p n : Nat} {one : Int32} {Q : px_Q} (hp : px_cs p) (hn : I 1 7 = nI n) (hn10 : n ≤ 10) (hQ : Q (some (.int (s_sum (g_hadBy I p one) (I 6) n))) I J) : ∀ (k j : Nat), n + 1 - j ≤ k → j ≤ n → V0 l (px_rm 1 0 0) mX2_worthOfHadBy (false, []) 0 0 4 [.ref p, .int one, .int (s_sum (g_hadBy I p one) (I 6) j), .int (nI j)] [] (px_mk I J) (px_q Q) := by
  intro k
  induction k with
  | zero => intro j h1 h2; omega
  | succ k ih =>
    intro j h1 h2
    refine V0_iload_n (pc := 4) dX2_worthOfHadBy_4 rfl ?_
    refine V0_aload_n (pc := 5) dX2_worthOfHadBy_5 rfl ?_
    refine V_getr (pc := 6) dX2_worthOfHadBy_6 flX2_24 hp.1 rfl ?_
    refine V_geti (pc := 9) dX2_worthOfHadBy_9 flX2_75 rfl rfl ?_
    rw [hn]
    refine V1_icmp_ge (pc := 12) 54 dX2_worthOfHadBy_12 (by decide) (fun h12 => ?_) (fun h12 => ?_)
    · skip
      have hj : j = n := by have := px_ge h12 (by omega) (by omega); omega
      subst hj
      refine V0_iload_n (pc := 54) dX2_worthOfHadBy_54 rfl ?_
      refine V_reti (pc := 55) _ dX2_worthOfHadBy_55 rfl ?_
      exact hQ
    · skip
      have hj := px_lt h12 (by omega) (by omega)
      refine V0_aload_n (pc := 15) dX2_worthOfHadBy_15 rfl ?_
      refine V_getr (pc := 16) dX2_worthOfHadBy_16 flX2_24 hp.1 rfl ?_
      refine V_getr (pc := 19) dX2_worthOfHadBy_19 flX2_50 rfl rfl ?_
      refine V0_iload_n (pc := 22) dX2_worthOfHadBy_22 rfl ?_
      refine V_iald (pc := 23) (j) dX2_worthOfHadBy_23 rfl rfl (by omega) ?_
      refine V0_iload_n (pc := 24) dX2_worthOfHadBy_24 rfl ?_
      refine V0_icmp_ne (pc := 25) 48 dX2_worthOfHadBy_25 (by decide) (fun h25 => ?_) (fun h25 => ?_)
      · skip
        refine V0_iinc_3 (pc := 48) (nI (j + 1)) dX2_worthOfHadBy_48 (by decide) rfl (nI_1 _) ?_
        refine V0_goto (pc := 51) 4 dX2_worthOfHadBy_51 (by decide) ?_
        exact V_ls (by simp [s_sum, *]) (ih (j + 1) (by omega) (by omega))
      · skip
        refine V0_aload_n (pc := 28) dX2_worthOfHadBy_28 rfl ?_
        refine V0_iload_n (pc := 29) dX2_worthOfHadBy_29 rfl ?_
        refine V_callVi (pc := 30) (M' := mX2_had) dX2_worthOfHadBy_30 mlX2_72 okX2_had rfl (c_X2_had hp (by omega)) rfl rfl hp.1 rfl ⟨Nat.le_of_ble_eq_true rfl, Nat.le_of_ble_eq_true rfl⟩ ⟨Nat.le_refl 0, Nat.le_refl 0⟩ (Nat.le_of_ble_eq_true rfl) ?_
        refine V_ifeqb (pc := 33) 48 dX2_worthOfHadBy_33 (by decide) (fun h33 => ?_) (fun h33 => ?_)
        · skip
          refine V0_iinc_3 (pc := 48) (nI (j + 1)) dX2_worthOfHadBy_48 (by decide) rfl (nI_1 _) ?_
          refine V0_goto (pc := 51) 4 dX2_worthOfHadBy_51 (by decide) ?_
          exact V_ls (by simp [s_sum, *]) (ih (j + 1) (by omega) (by omega))
        · skip
          refine V0_iload_n (pc := 36) dX2_worthOfHadBy_36 rfl ?_
          refine V0_aload_n (pc := 37) dX2_worthOfHadBy_37 rfl ?_
          refine V_getr (pc := 38) dX2_worthOfHadBy_38 flX2_24 hp.1 rfl ?_
          refine V_getr (pc := 41) dX2_worthOfHadBy_41 flX2_88 rfl rfl ?_
          refine V0_iload_n (pc := 44) dX2_worthOfHadBy_44 rfl ?_
          refine V_iald (pc := 45) (j) dX2_worthOfHadBy_45 rfl rfl (by omega) ?_
          refine V0_iadd (pc := 46) dX2_worthOfHadBy_46 ?_
          refine V0_istore_2 (pc := 47) dX2_worthOfHadBy_47 (by decide) rfl ?_
          refine V0_iinc_3 (pc := 48) (nI (j + 1)) dX2_worthOfHadBy_48 (by decide) rfl (nI_1 _) ?_
          refine V0_goto (pc := 51) 4 dX2_worthOfHadBy_51 (by decide) ?_
          exact V_ls (by simp [s_sum, *]) (ih (j + 1) (by omega) (by omega))
theorem c_X2_worthOfHadBy {l : Launch} {I : px_I} {J : px_J} {p n : Nat} {one : Int32} (hp : px_cs p) (hn : I 1 7 = nI n) (hn10 : n ≤ 10) : CtI l mX2_worthOfHadBy 1 [.ref p, .int one] I J (s_sum (g_hadBy I p one) (I 6) n) := by
  refine Ct.of plX2_worthOfHadBy (Nat.le_of_ble_eq_true rfl) [.ref p, .int one, .null, .null] rfl ?_
  refine V0_iconst (pc := 0) (0) dX2_worthOfHadBy_0 (by decide) ?_
  refine V0_istore_2 (pc := 1) dX2_worthOfHadBy_1 (by decide) rfl ?_
  refine V0_iconst (pc := 2) (0) dX2_worthOfHadBy_2 (by decide) ?_
  refine V0_istore_3 (pc := 3) dX2_worthOfHadBy_3 (by decide) rfl ?_
  exact lp_X2_worthOfHadBy hp hn hn10 ⟨rfl, rfl, rfl⟩ (n + 1) 0 (by omega) (by omega)
abbrev g_lost (I : px_I) (p j : Nat) : Bool := !decide (I (p + 3) j = 0)
theorem lp_X2_worthOfLost {l : Launch} {I : px_I} {J : px_J} {p n : Nat} {Q : px_Q} (hp : px_cs p) (hn : I 1 7 = nI n) (hn10 : n ≤ 10) (hQ : Q (some (.int (s_sum (g_lost I p) (I 6) n))) I J) : ∀ (k j : Nat), n + 1 - j ≤ k → j ≤ n → V0 l (px_rm 0 0 0) mX2_worthOfLost (false, []) 0 0 4 [.ref p, .int (s_sum (g_lost I p) (I 6) j), .int (nI j)] [] (px_mk I J) (px_q Q) := by
  intro k
  induction k with
  | zero => intro j h1 h2; omega
  | succ k ih =>
    intro j h1 h2
    refine V0_iload_n (pc := 4) dX2_worthOfLost_4 rfl ?_
    refine V0_aload_n (pc := 5) dX2_worthOfLost_5 rfl ?_
    refine V_getr (pc := 6) dX2_worthOfLost_6 flX2_24 hp.1 rfl ?_
    refine V_geti (pc := 9) dX2_worthOfLost_9 flX2_75 rfl rfl ?_
    rw [hn]
    refine V1_icmp_ge (pc := 12) 42 dX2_worthOfLost_12 (by decide) (fun h12 => ?_) (fun h12 => ?_)
    · skip
      have hj : j = n := by have := px_ge h12 (by omega) (by omega); omega
      subst hj
      refine V0_iload_n (pc := 42) dX2_worthOfLost_42 rfl ?_
      refine V_reti (pc := 43) _ dX2_worthOfLost_43 rfl ?_
      exact hQ
    · skip
      have hj := px_lt h12 (by omega) (by omega)
      refine V0_aload_n (pc := 15) dX2_worthOfLost_15 rfl ?_
      refine V_getr (pc := 16) dX2_worthOfLost_16 flX2_18 hp.1 rfl ?_
      refine V0_iload_n (pc := 19) dX2_worthOfLost_19 rfl ?_
      refine V_iald (pc := 20) (j) dX2_worthOfLost_20 hp.2.2.2.1 rfl (by omega) ?_
      refine V0_if_eq (pc := 21) 36 dX2_worthOfLost_21 (by decide) (fun h21 => ?_) (fun h21 => ?_)
      · skip
        refine V0_iinc_2 (pc := 36) (nI (j + 1)) dX2_worthOfLost_36 (by decide) rfl (nI_1 _) ?_
        refine V0_goto (pc := 39) 4 dX2_worthOfLost_39 (by decide) ?_
        exact V_ls (by simp [s_sum, *]) (ih (j + 1) (by omega) (by omega))
      · skip
        refine V0_iload_n (pc := 24) dX2_worthOfLost_24 rfl ?_
        refine V0_aload_n (pc := 25) dX2_worthOfLost_25 rfl ?_
        refine V_getr (pc := 26) dX2_worthOfLost_26 flX2_24 hp.1 rfl ?_
        refine V_getr (pc := 29) dX2_worthOfLost_29 flX2_88 rfl rfl ?_
        refine V0_iload_n (pc := 32) dX2_worthOfLost_32 rfl ?_
        refine V_iald (pc := 33) (j) dX2_worthOfLost_33 rfl rfl (by omega) ?_
        refine V0_iadd (pc := 34) dX2_worthOfLost_34 ?_
        refine V0_istore_1 (pc := 35) dX2_worthOfLost_35 (by decide) rfl ?_
        refine V0_iinc_2 (pc := 36) (nI (j + 1)) dX2_worthOfLost_36 (by decide) rfl (nI_1 _) ?_
        refine V0_goto (pc := 39) 4 dX2_worthOfLost_39 (by decide) ?_
        exact V_ls (by simp [s_sum, *]) (ih (j + 1) (by omega) (by omega))
theorem c_X2_worthOfLost {l : Launch} {I : px_I} {J : px_J} {p n : Nat} (hp : px_cs p) (hn : I 1 7 = nI n) (hn10 : n ≤ 10) : CtI l mX2_worthOfLost 0 [.ref p] I J (s_sum (g_lost I p) (I 6) n) := by
  refine Ct.of plX2_worthOfLost (Nat.le_of_ble_eq_true rfl) [.ref p, .null, .null] rfl ?_
  refine V0_iconst (pc := 0) (0) dX2_worthOfLost_0 (by decide) ?_
  refine V0_istore_1 (pc := 1) dX2_worthOfLost_1 (by decide) rfl ?_
  refine V0_iconst (pc := 2) (0) dX2_worthOfLost_2 (by decide) ?_
  refine V0_istore_2 (pc := 3) dX2_worthOfLost_3 (by decide) rfl ?_
  exact lp_X2_worthOfLost hp hn hn10 ⟨rfl, rfl, rfl⟩ (n + 1) 0 (by omega) (by omega)
theorem lp_X2_leadOfSide0 {l : Launch} {I : px_I} {J : px_J} {p m : Nat} {Q : px_Q} (hp : px_cs p) (hm : I 1 6 = nI m) (hm7 : m ≤ 7) (hQ : Q (some (.int (s_lead (I (p + 1)) m))) I J) : ∀ (k j : Nat), m + 1 - j ≤ k → j ≤ m → V0 l (px_rm 0 0 0) mX2_leadOfSide0 (false, []) 0 0 4 [.ref p, .int (s_lead (I (p + 1)) j), .int (nI j)] [] (px_mk I J) (px_q Q) := by
  intro k
  induction k with
  | zero => intro j h1 h2; omega
  | succ k ih =>
    intro j h1 h2
    refine V0_iload_n (pc := 4) dX2_leadOfSide0_4 rfl ?_
    refine V0_aload_n (pc := 5) dX2_leadOfSide0_5 rfl ?_
    refine V_getr (pc := 6) dX2_leadOfSide0_6 flX2_24 hp.1 rfl ?_
    refine V_geti (pc := 9) dX2_leadOfSide0_9 flX2_82 rfl rfl ?_
    rw [hm]
    refine V1_icmp_ge (pc := 12) 40 dX2_leadOfSide0_12 (by decide) (fun h12 => ?_) (fun h12 => ?_)
    · skip
      have hj : j = m := by have := px_ge h12 (by omega) (by omega); omega
      subst hj
      refine V0_iload_n (pc := 40) dX2_leadOfSide0_40 rfl ?_
      refine V_reti (pc := 41) _ dX2_leadOfSide0_41 rfl ?_
      exact hQ
    · skip
      have hj := px_lt h12 (by omega) (by omega)
      refine V0_iload_n (pc := 15) dX2_leadOfSide0_15 rfl ?_
      refine V0_aload_n (pc := 16) dX2_leadOfSide0_16 rfl ?_
      refine V_getr (pc := 17) dX2_leadOfSide0_17 flX2_9 hp.1 rfl ?_
      refine V0_iload_n (pc := 20) dX2_leadOfSide0_20 rfl ?_
      refine V_iald (pc := 21) (j) dX2_leadOfSide0_21 hp.2.1 rfl (by omega) ?_
      refine V0_iconst (pc := 22) (2) dX2_leadOfSide0_22 (by decide) ?_
      refine V0_irem (pc := 23) dX2_leadOfSide0_23 (by decide) ?_
      refine V0_if_ne (pc := 24) 31 dX2_leadOfSide0_24 (by decide) (fun h24 => ?_) (fun h24 => ?_)
      · skip
        refine V0_iconst (pc := 31) (-1) dX2_leadOfSide0_31 (by decide) ?_
        refine V0_iadd (pc := 32) dX2_leadOfSide0_32 ?_
        refine V0_istore_1 (pc := 33) dX2_leadOfSide0_33 (by decide) rfl ?_
        refine V0_iinc_2 (pc := 34) (nI (j + 1)) dX2_leadOfSide0_34 (by decide) rfl (nI_1 _) ?_
        refine V0_goto (pc := 37) 4 dX2_leadOfSide0_37 (by decide) ?_
        exact V_ls (by simp [s_lead, *]) (ih (j + 1) (by omega) (by omega))
      · skip
        refine V0_iconst (pc := 27) (1) dX2_leadOfSide0_27 (by decide) ?_
        refine V0_goto (pc := 28) 32 dX2_leadOfSide0_28 (by decide) ?_
        refine V0_iadd (pc := 32) dX2_leadOfSide0_32 ?_
        refine V0_istore_1 (pc := 33) dX2_leadOfSide0_33 (by decide) rfl ?_
        refine V0_iinc_2 (pc := 34) (nI (j + 1)) dX2_leadOfSide0_34 (by decide) rfl (nI_1 _) ?_
        refine V0_goto (pc := 37) 4 dX2_leadOfSide0_37 (by decide) ?_
        exact V_ls (by simp [s_lead, *]) (ih (j + 1) (by omega) (by omega))
theorem c_X2_leadOfSide0 {l : Launch} {I : px_I} {J : px_J} {p m : Nat} (hp : px_cs p) (hm : I 1 6 = nI m) (hm7 : m ≤ 7) : CtI l mX2_leadOfSide0 0 [.ref p] I J (s_lead (I (p + 1)) m) := by
  refine Ct.of plX2_leadOfSide0 (Nat.le_of_ble_eq_true rfl) [.ref p, .null, .null] rfl ?_
  refine V0_iconst (pc := 0) (0) dX2_leadOfSide0_0 (by decide) ?_
  refine V0_istore_1 (pc := 1) dX2_leadOfSide0_1 (by decide) rfl ?_
  refine V0_iconst (pc := 2) (0) dX2_leadOfSide0_2 (by decide) ?_
  refine V0_istore_2 (pc := 3) dX2_leadOfSide0_3 (by decide) rfl ?_
  exact lp_X2_leadOfSide0 hp hm hm7 ⟨rfl, rfl, rfl⟩ (m + 1) 0 (by omega) (by omega)
/-! days pass -/
abbrev g_on (I : px_I) (p j : Nat) : Bool := decide (px_rem (g_hoj I p j) 2 = I p 4)
def g_runOn (I : px_I) (p j : Nat) : px_I :=
  if g_had (px_up I (p + 2) j (I (p + 2) j + 1)) p j = true then px_up (px_up I (p + 2) j (I (p + 2) j + 1)) (p + 4) 5 (I (p + 4) 5 + 1) else px_up I (p + 2) j (I (p + 2) j + 1)
def g_passFor (I : px_I) (p j : Nat) : px_I :=
  if g_runs I p j = true then (if g_on I p j = true then g_runOn I p j else I)
  else if g_waits I p j = true then (if g_on I p j = true then g_runOn I p j else if I p 5 < I 3 j + I 5 j then I else px_up I (p + 3) j 1) else I
def g_joys (I : px_I) (p : Nat) : Nat → px_I
  | 0 => I
  | n + 1 => g_passFor (g_joys I p n) p n
def g_chosen (I : px_I) (p m : Nat) : Int32 := if s_lead (I (p + 1)) m = 0 then I p 4 else if 0 < s_lead (I (p + 1)) m then 0 else 1
def g_turn (I : px_I) (p m : Nat) : px_I := if g_chosen I p m = I p 4 then I else px_up I (p + 4) 3 (I (p + 4) 3 + 1)
def g_vote (I : px_I) (p m : Nat) : px_I := px_up (px_up (g_turn I p m) p 4 (g_chosen I p m)) (p + 4) 2 (g_turn I p m (p + 4) 2 + 1)
def g_start (I : px_I) (p m : Nat) : px_I := if 0 < I p 5 ∧ 0 < I 1 8 ∧ px_rem (I p 5) (I 1 8) = 0 then g_vote I p m else I
def g_later (I : px_I) (p : Nat) : px_I := if I p 5 < 199 then px_up I p 5 (I p 5 + 1) else I
def g_pass (I : px_I) (p m n : Nat) : px_I := px_up (g_later (g_joys (g_start I p m) p n) p) (p + 4) 1 (g_later (g_joys (g_start I p m) p n) p (p + 4) 1 + 1)
theorem px_up_ne {I : px_I} {p p' k k' : Nat} {x : Int32} (h : ¬ (p' = p ∧ k' = k)) : px_up I p k x p' k' = I p' k' := by simp [px_up, h]
theorem g_runOn_row {I : px_I} {p j q : Nat} (h2 : q ≠ p + 2) (h4 : q ≠ p + 4) : g_runOn I p j q = I q := by
  unfold g_runOn; split <;> simp [px_up_row, h2, h4]
theorem g_passFor_row {I : px_I} {p j q : Nat} (h2 : q ≠ p + 2) (h3 : q ≠ p + 3) (h4 : q ≠ p + 4) : g_passFor I p j q = I q := by
  unfold g_passFor
  split
  · split <;> simp [g_runOn_row h2 h4]
  · split
    · split
      · exact g_runOn_row h2 h4
      · split <;> simp [px_up_row, h3]
    · rfl
theorem g_joys_row {I : px_I} {p n q : Nat} (h2 : q ≠ p + 2) (h3 : q ≠ p + 3) (h4 : q ≠ p + 4) : g_joys I p n q = I q := by
  induction n with
  | zero => rfl
  | succ n ih => rw [g_joys, g_passFor_row h2 h3 h4, ih]
theorem g_start_row {I : px_I} {p m q : Nat} (h0 : q ≠ p) (h4 : q ≠ p + 4) : g_start I p m q = I q := by
  unfold g_start g_vote g_turn
  split
  · rw [px_up_row h4, px_up_row h0]; split <;> simp [px_up_row, h4]
  · rfl
theorem g_later_row {I : px_I} {p q : Nat} (h0 : q ≠ p) : g_later I p q = I q := by
  unfold g_later; split <;> simp [px_up_row, h0]
theorem g_pass_row {I : px_I} {p m n q : Nat} (h0 : q ≠ p) (h2 : q ≠ p + 2) (h3 : q ≠ p + 3) (h4 : q ≠ p + 4) : g_pass I p m n q = I q := by
  unfold g_pass
  rw [px_up_row h4, g_later_row h0, g_joys_row h2 h3 h4, g_start_row h0 h4]
def px_qs (I1 : px_I) (J1 : px_J) : px_Q := fun r I' J' => r = none ∧ I' = I1 ∧ J' = J1
theorem c_X2_runOn {l : Launch} {I : px_I} {J : px_J} {p j : Nat} (hp : px_cs p) (hj : j < 10) : Ct l mX2_runOn 1 [.ref p, .int (nI j)] I J (px_qs (g_runOn I p j) J) := by
  have h8 := hp.2.2.2.2.2
  refine Ct.of plX2_runOn (Nat.le_of_ble_eq_true rfl) [.ref p, .int (nI j)] rfl ?_
  refine V0_aload_n (pc := 0) dX2_runOn_0 rfl ?_
  refine V_getr (pc := 1) dX2_runOn_1 flX2_15 hp.1 rfl ?_
  refine V0_iload_n (pc := 4) dX2_runOn_4 rfl ?_
  refine V0_dup2 (pc := 5) dX2_runOn_5 rfl rfl ?_
  refine V_iald (pc := 6) (j) dX2_runOn_6 hp.2.2.1 rfl (by omega) ?_
  refine V0_iconst (pc := 7) (1) dX2_runOn_7 (by decide) ?_
  refine V0_iadd (pc := 8) dX2_runOn_8 ?_
  refine V_iast (pc := 9) (j) dX2_runOn_9 hp.2.2.1 rfl (by omega) ?_
  refine V0_aload_n (pc := 10) dX2_runOn_10 rfl ?_
  refine V0_iload_n (pc := 11) dX2_runOn_11 rfl ?_
  refine V_callVi (pc := 12) (M' := mX2_had) dX2_runOn_12 mlX2_72 okX2_had rfl (c_X2_had hp (by omega)) rfl rfl hp.1 rfl ⟨Nat.le_of_ble_eq_true rfl, Nat.le_of_ble_eq_true rfl⟩ ⟨Nat.le_refl 0, Nat.le_refl 0⟩ (Nat.le_of_ble_eq_true rfl) ?_
  refine V_ifeqb (pc := 15) 28 dX2_runOn_15 (by decide) (fun h15 => ?_) (fun h15 => ?_)
  · skip
    refine V_retv (pc := 28) dX2_runOn_28 rfl ?_
    exact ⟨rfl, by simp [g_runOn, h15, px_up], rfl⟩
  · skip
    refine V0_aload_n (pc := 18) dX2_runOn_18 rfl ?_
    refine V_getr (pc := 19) dX2_runOn_19 flX2_21 hp.1 rfl ?_
    refine V0_iconst (pc := 22) (5) dX2_runOn_22 (by decide) ?_
    refine V0_dup2 (pc := 23) dX2_runOn_23 rfl rfl ?_
    refine V_iald (pc := 24) 5 dX2_runOn_24 hp.2.2.2.2.1 (by decide) (by decide) ?_
    refine V0_iconst (pc := 25) (1) dX2_runOn_25 (by decide) ?_
    refine V0_iadd (pc := 26) dX2_runOn_26 ?_
    refine V_iast (pc := 27) 5 dX2_runOn_27 hp.2.2.2.2.1 (by decide) (by decide) ?_
    refine V_retv (pc := 28) dX2_runOn_28 rfl ?_
    exact ⟨rfl, by simp [g_runOn, h15, px_up], rfl⟩
theorem c_X2_passFor {l : Launch} {I : px_I} {J : px_J} {p j : Nat} (hp : px_cs p) (hj : j < 10) (ho : px_ofs (I 2)) : Ct l mX2_passFor 2 [.ref p, .int (nI j)] I J (px_qs (g_passFor I p j) J) := by
  refine Ct.of plX2_passFor (Nat.le_of_ble_eq_true rfl) [.ref p, .int (nI j), .null] rfl ?_
  refine V0_aload_n (pc := 0) dX2_passFor_0 rfl ?_
  refine V0_iload_n (pc := 1) dX2_passFor_1 rfl ?_
  refine V_callVi (pc := 2) (M' := mX2_sideOfJoy) dX2_passFor_2 mlX2_105 okX2_sideOfJoy rfl (c_X2_sideOfJoy hp (by omega) ho) rfl rfl hp.1 rfl ⟨Nat.le_of_ble_eq_true rfl, Nat.le_of_ble_eq_true rfl⟩ ⟨Nat.le_refl 0, Nat.le_refl 0⟩ (Nat.le_of_ble_eq_true rfl) ?_
  refine V0_aload_n (pc := 5) dX2_passFor_5 rfl ?_
  refine V_geti (pc := 6) dX2_passFor_6 flX2_43 hp.1 rfl ?_
  refine V0_icmp_ne (pc := 9) 16 dX2_passFor_9 (by decide) (fun h9 => ?_) (fun h9 => ?_)
  · skip
    refine V0_iconst (pc := 16) (0) dX2_passFor_16 (by decide) ?_
    refine V0_istore_2 (pc := 17) dX2_passFor_17 (by decide) rfl ?_
    refine V0_aload_n (pc := 18) dX2_passFor_18 rfl ?_
    refine V0_iload_n (pc := 19) dX2_passFor_19 rfl ?_
    refine V_callVi (pc := 20) (M' := mX2_runs) dX2_passFor_20 mlX2_69 okX2_runs rfl (c_X2_runs hp (by omega)) rfl rfl hp.1 rfl ⟨Nat.le_of_ble_eq_true rfl, Nat.le_of_ble_eq_true rfl⟩ ⟨Nat.le_refl 0, Nat.le_refl 0⟩ (Nat.le_of_ble_eq_true rfl) ?_
    refine V_ifeqb (pc := 23) 38 dX2_passFor_23 (by decide) (fun h23 => ?_) (fun h23 => ?_)
    · skip
      refine V0_aload_n (pc := 38) dX2_passFor_38 rfl ?_
      refine V0_iload_n (pc := 39) dX2_passFor_39 rfl ?_
      refine V_callVi (pc := 40) (M' := mX2_waits) dX2_passFor_40 mlX2_65 okX2_waits rfl (c_X2_waits hp (by omega)) rfl rfl hp.1 rfl ⟨Nat.le_of_ble_eq_true rfl, Nat.le_of_ble_eq_true rfl⟩ ⟨Nat.le_refl 0, Nat.le_refl 0⟩ (Nat.le_of_ble_eq_true rfl) ?_
      refine V_ifeqb (pc := 43) 91 dX2_passFor_43 (by decide) (fun h43 => ?_) (fun h43 => ?_)
      · skip
        refine V_retv (pc := 91) dX2_passFor_91 rfl ?_
        exact ⟨rfl, by simp [g_passFor, *], rfl⟩
      · skip
        refine V0_iload_n (pc := 46) dX2_passFor_46 rfl ?_
        refine V0_if_eq (pc := 47) 58 dX2_passFor_47 (by decide) (fun h47 => ?_) (fun h47 => ?_)
        · skip
          refine V0_aload_n (pc := 58) dX2_passFor_58 rfl ?_
          refine V_geti (pc := 59) dX2_passFor_59 flX2_47 hp.1 rfl ?_
          refine V0_aload_n (pc := 62) dX2_passFor_62 rfl ?_
          refine V_getr (pc := 63) dX2_passFor_63 flX2_24 hp.1 rfl ?_
          refine V_getr (pc := 66) dX2_passFor_66 flX2_62 rfl rfl ?_
          refine V0_iload_n (pc := 69) dX2_passFor_69 rfl ?_
          refine V_iald (pc := 70) (j) dX2_passFor_70 rfl rfl (by omega) ?_
          refine V0_aload_n (pc := 71) dX2_passFor_71 rfl ?_
          refine V_getr (pc := 72) dX2_passFor_72 flX2_24 hp.1 rfl ?_
          refine V_getr (pc := 75) dX2_passFor_75 flX2_111 rfl rfl ?_
          refine V0_iload_n (pc := 78) dX2_passFor_78 rfl ?_
          refine V_iald (pc := 79) (j) dX2_passFor_79 rfl rfl (by omega) ?_
          refine V0_iadd (pc := 80) dX2_passFor_80 ?_
          refine V0_icmp_lt (pc := 81) 91 dX2_passFor_81 (by decide) (fun h81 => ?_) (fun h81 => ?_)
          · skip
            refine V_retv (pc := 91) dX2_passFor_91 rfl ?_
            exact ⟨rfl, by simp [g_passFor, *], rfl⟩
          · skip
            refine V0_aload_n (pc := 84) dX2_passFor_84 rfl ?_
            refine V_getr (pc := 85) dX2_passFor_85 flX2_18 hp.1 rfl ?_
            refine V0_iload_n (pc := 88) dX2_passFor_88 rfl ?_
            refine V0_iconst (pc := 89) (1) dX2_passFor_89 (by decide) ?_
            refine V_iast (pc := 90) (j) dX2_passFor_90 hp.2.2.2.1 rfl (by omega) ?_
            refine V_retv (pc := 91) dX2_passFor_91 rfl ?_
            exact ⟨rfl, by simp [g_passFor, *], rfl⟩
        · skip
          exact absurd h47 (by decide)
    · skip
      refine V0_iload_n (pc := 26) dX2_passFor_26 rfl ?_
      refine V0_if_eq (pc := 27) 91 dX2_passFor_27 (by decide) (fun h27 => ?_) (fun h27 => ?_)
      · skip
        refine V_retv (pc := 91) dX2_passFor_91 rfl ?_
        exact ⟨rfl, by simp [g_passFor, *], rfl⟩
      · skip
        exact absurd h27 (by decide)
  · skip
    refine V0_iconst (pc := 12) (1) dX2_passFor_12 (by decide) ?_
    refine V0_goto (pc := 13) 17 dX2_passFor_13 (by decide) ?_
    refine V0_istore_2 (pc := 17) dX2_passFor_17 (by decide) rfl ?_
    refine V0_aload_n (pc := 18) dX2_passFor_18 rfl ?_
    refine V0_iload_n (pc := 19) dX2_passFor_19 rfl ?_
    refine V_callVi (pc := 20) (M' := mX2_runs) dX2_passFor_20 mlX2_69 okX2_runs rfl (c_X2_runs hp (by omega)) rfl rfl hp.1 rfl ⟨Nat.le_of_ble_eq_true rfl, Nat.le_of_ble_eq_true rfl⟩ ⟨Nat.le_refl 0, Nat.le_refl 0⟩ (Nat.le_of_ble_eq_true rfl) ?_
    refine V_ifeqb (pc := 23) 38 dX2_passFor_23 (by decide) (fun h23 => ?_) (fun h23 => ?_)
    · skip
      refine V0_aload_n (pc := 38) dX2_passFor_38 rfl ?_
      refine V0_iload_n (pc := 39) dX2_passFor_39 rfl ?_
      refine V_callVi (pc := 40) (M' := mX2_waits) dX2_passFor_40 mlX2_65 okX2_waits rfl (c_X2_waits hp (by omega)) rfl rfl hp.1 rfl ⟨Nat.le_of_ble_eq_true rfl, Nat.le_of_ble_eq_true rfl⟩ ⟨Nat.le_refl 0, Nat.le_refl 0⟩ (Nat.le_of_ble_eq_true rfl) ?_
      refine V_ifeqb (pc := 43) 91 dX2_passFor_43 (by decide) (fun h43 => ?_) (fun h43 => ?_)
      · skip
        refine V_retv (pc := 91) dX2_passFor_91 rfl ?_
        exact ⟨rfl, by simp [g_passFor, *], rfl⟩
      · skip
        refine V0_iload_n (pc := 46) dX2_passFor_46 rfl ?_
        refine V0_if_eq (pc := 47) 58 dX2_passFor_47 (by decide) (fun h47 => ?_) (fun h47 => ?_)
        · skip
          exact absurd h47 (by decide)
        · skip
          refine V0_aload_n (pc := 50) dX2_passFor_50 rfl ?_
          refine V0_iload_n (pc := 51) dX2_passFor_51 rfl ?_
          refine V_callV (pc := 52) (M' := mX2_runOn) dX2_passFor_52 mlX2_108 okX2_runOn rfl (c_X2_runOn hp (by omega)) rfl rfl hp.1 rfl ⟨Nat.le_of_ble_eq_true rfl, Nat.le_of_ble_eq_true rfl⟩ ⟨Nat.le_refl 0, Nat.le_refl 0⟩ (Nat.le_of_ble_eq_true rfl) ?_
          rintro _ _ _ ⟨rfl, rfl, rfl⟩
          refine V0_goto (pc := 55) 91 dX2_passFor_55 (by decide) ?_
          refine V_retv (pc := 91) dX2_passFor_91 rfl ?_
          exact ⟨rfl, by simp [g_passFor, *], rfl⟩
    · skip
      refine V0_iload_n (pc := 26) dX2_passFor_26 rfl ?_
      refine V0_if_eq (pc := 27) 91 dX2_passFor_27 (by decide) (fun h27 => ?_) (fun h27 => ?_)
      · skip
        exact absurd h27 (by decide)
      · skip
        refine V0_aload_n (pc := 30) dX2_passFor_30 rfl ?_
        refine V0_iload_n (pc := 31) dX2_passFor_31 rfl ?_
        refine V_callV (pc := 32) (M' := mX2_runOn) dX2_passFor_32 mlX2_108 okX2_runOn rfl (c_X2_runOn hp (by omega)) rfl rfl hp.1 rfl ⟨Nat.le_of_ble_eq_true rfl, Nat.le_of_ble_eq_true rfl⟩ ⟨Nat.le_refl 0, Nat.le_refl 0⟩ (Nat.le_of_ble_eq_true rfl) ?_
        rintro _ _ _ ⟨rfl, rfl, rfl⟩
        refine V0_goto (pc := 35) 91 dX2_passFor_35 (by decide) ?_
        refine V_retv (pc := 91) dX2_passFor_91 rfl ?_
        exact ⟨rfl, by simp [g_passFor, *], rfl⟩
theorem c_X2_holdVote {l : Launch} {I : px_I} {J : px_J} {p m : Nat} (hp : px_cs p) (hm : I 1 6 = nI m) (hm7 : m ≤ 7) : Ct l mX2_holdVote 1 [.ref p] I J (px_qs (g_vote I p m) J) := by
  refine Ct.of plX2_holdVote (Nat.le_of_ble_eq_true rfl) [.ref p, .null, .null] rfl ?_
  refine V0_aload_n (pc := 0) dX2_holdVote_0 rfl ?_
  refine V_callVi (pc := 1) (M' := mX2_leadOfSide0) dX2_holdVote_1 mlX2_101 okX2_leadOfSide0 rfl (c_X2_leadOfSide0 hp hm hm7) rfl rfl hp.1 rfl ⟨Nat.le_of_ble_eq_true rfl, Nat.le_of_ble_eq_true rfl⟩ ⟨Nat.le_refl 0, Nat.le_refl 0⟩ (Nat.le_of_ble_eq_true rfl) ?_
  refine V0_istore_1 (pc := 4) dX2_holdVote_4 (by decide) rfl ?_
  refine V0_iload_n (pc := 5) dX2_holdVote_5 rfl ?_
  refine V0_if_ne (pc := 6) 16 dX2_holdVote_6 (by decide) (fun h6 => ?_) (fun h6 => ?_)
  · skip
    refine V0_iload_n (pc := 16) dX2_holdVote_16 rfl ?_
    refine V1_if_le (pc := 17) 24 dX2_holdVote_17 (by decide) (fun h17 => ?_) (fun h17 => ?_)
    · skip
      refine V0_iconst (pc := 24) (1) dX2_holdVote_24 (by decide) ?_
      refine V0_istore_2 (pc := 25) dX2_holdVote_25 (by decide) rfl ?_
      refine V_ls (ls' := [.ref p, .int (s_lead (I (p + 1)) m), .int (g_chosen I p m)]) (by simp [g_chosen, *]) ?_
      refine V0_iload_n (pc := 26) dX2_holdVote_26 rfl ?_
      refine V0_aload_n (pc := 27) dX2_holdVote_27 rfl ?_
      refine V_geti (pc := 28) dX2_holdVote_28 flX2_43 hp.1 rfl ?_
      refine V0_icmp_eq (pc := 31) 44 dX2_holdVote_31 (by decide) (fun h31 => ?_) (fun h31 => ?_)
      · skip
        refine V0_aload_n (pc := 44) dX2_holdVote_44 rfl ?_
        refine V0_iload_n (pc := 45) dX2_holdVote_45 rfl ?_
        refine V_puti (pc := 46) dX2_holdVote_46 flX2_43 hp.1 rfl ?_
        refine V0_aload_n (pc := 49) dX2_holdVote_49 rfl ?_
        refine V_getr (pc := 50) dX2_holdVote_50 flX2_21 hp.1 rfl ?_
        refine V0_iconst (pc := 53) (2) dX2_holdVote_53 (by decide) ?_
        refine V0_dup2 (pc := 54) dX2_holdVote_54 rfl rfl ?_
        refine V_iald (pc := 55) 2 dX2_holdVote_55 hp.2.2.2.2.1 (by decide) (by decide) ?_
        refine V0_iconst (pc := 56) (1) dX2_holdVote_56 (by decide) ?_
        refine V0_iadd (pc := 57) dX2_holdVote_57 ?_
        refine V_iast (pc := 58) 2 dX2_holdVote_58 hp.2.2.2.2.1 (by decide) (by decide) ?_
        refine V_retv (pc := 59) dX2_holdVote_59 rfl ?_
        exact ⟨rfl, by simp [g_vote, g_turn, h31, px_up_at], rfl⟩
      · skip
        refine V0_aload_n (pc := 34) dX2_holdVote_34 rfl ?_
        refine V_getr (pc := 35) dX2_holdVote_35 flX2_21 hp.1 rfl ?_
        refine V0_iconst (pc := 38) (3) dX2_holdVote_38 (by decide) ?_
        refine V0_dup2 (pc := 39) dX2_holdVote_39 rfl rfl ?_
        refine V_iald (pc := 40) 3 dX2_holdVote_40 hp.2.2.2.2.1 (by decide) (by decide) ?_
        refine V0_iconst (pc := 41) (1) dX2_holdVote_41 (by decide) ?_
        refine V0_iadd (pc := 42) dX2_holdVote_42 ?_
        refine V_iast (pc := 43) 3 dX2_holdVote_43 hp.2.2.2.2.1 (by decide) (by decide) ?_
        refine V0_aload_n (pc := 44) dX2_holdVote_44 rfl ?_
        refine V0_iload_n (pc := 45) dX2_holdVote_45 rfl ?_
        refine V_puti (pc := 46) dX2_holdVote_46 flX2_43 hp.1 rfl ?_
        refine V0_aload_n (pc := 49) dX2_holdVote_49 rfl ?_
        refine V_getr (pc := 50) dX2_holdVote_50 flX2_21 hp.1 rfl ?_
        refine V0_iconst (pc := 53) (2) dX2_holdVote_53 (by decide) ?_
        refine V0_dup2 (pc := 54) dX2_holdVote_54 rfl rfl ?_
        refine V_iald (pc := 55) 2 dX2_holdVote_55 hp.2.2.2.2.1 (by decide) (by decide) ?_
        refine V0_iconst (pc := 56) (1) dX2_holdVote_56 (by decide) ?_
        refine V0_iadd (pc := 57) dX2_holdVote_57 ?_
        refine V_iast (pc := 58) 2 dX2_holdVote_58 hp.2.2.2.2.1 (by decide) (by decide) ?_
        refine V_retv (pc := 59) dX2_holdVote_59 rfl ?_
        exact ⟨rfl, by simp [g_vote, g_turn, h31, px_up_at], rfl⟩
    · skip
      refine V0_iconst (pc := 20) (0) dX2_holdVote_20 (by decide) ?_
      refine V0_goto (pc := 21) 25 dX2_holdVote_21 (by decide) ?_
      refine V0_istore_2 (pc := 25) dX2_holdVote_25 (by decide) rfl ?_
      refine V_ls (ls' := [.ref p, .int (s_lead (I (p + 1)) m), .int (g_chosen I p m)]) (by simp [g_chosen, *]) ?_
      refine V0_iload_n (pc := 26) dX2_holdVote_26 rfl ?_
      refine V0_aload_n (pc := 27) dX2_holdVote_27 rfl ?_
      refine V_geti (pc := 28) dX2_holdVote_28 flX2_43 hp.1 rfl ?_
      refine V0_icmp_eq (pc := 31) 44 dX2_holdVote_31 (by decide) (fun h31 => ?_) (fun h31 => ?_)
      · skip
        refine V0_aload_n (pc := 44) dX2_holdVote_44 rfl ?_
        refine V0_iload_n (pc := 45) dX2_holdVote_45 rfl ?_
        refine V_puti (pc := 46) dX2_holdVote_46 flX2_43 hp.1 rfl ?_
        refine V0_aload_n (pc := 49) dX2_holdVote_49 rfl ?_
        refine V_getr (pc := 50) dX2_holdVote_50 flX2_21 hp.1 rfl ?_
        refine V0_iconst (pc := 53) (2) dX2_holdVote_53 (by decide) ?_
        refine V0_dup2 (pc := 54) dX2_holdVote_54 rfl rfl ?_
        refine V_iald (pc := 55) 2 dX2_holdVote_55 hp.2.2.2.2.1 (by decide) (by decide) ?_
        refine V0_iconst (pc := 56) (1) dX2_holdVote_56 (by decide) ?_
        refine V0_iadd (pc := 57) dX2_holdVote_57 ?_
        refine V_iast (pc := 58) 2 dX2_holdVote_58 hp.2.2.2.2.1 (by decide) (by decide) ?_
        refine V_retv (pc := 59) dX2_holdVote_59 rfl ?_
        exact ⟨rfl, by simp [g_vote, g_turn, h31, px_up_at], rfl⟩
      · skip
        refine V0_aload_n (pc := 34) dX2_holdVote_34 rfl ?_
        refine V_getr (pc := 35) dX2_holdVote_35 flX2_21 hp.1 rfl ?_
        refine V0_iconst (pc := 38) (3) dX2_holdVote_38 (by decide) ?_
        refine V0_dup2 (pc := 39) dX2_holdVote_39 rfl rfl ?_
        refine V_iald (pc := 40) 3 dX2_holdVote_40 hp.2.2.2.2.1 (by decide) (by decide) ?_
        refine V0_iconst (pc := 41) (1) dX2_holdVote_41 (by decide) ?_
        refine V0_iadd (pc := 42) dX2_holdVote_42 ?_
        refine V_iast (pc := 43) 3 dX2_holdVote_43 hp.2.2.2.2.1 (by decide) (by decide) ?_
        refine V0_aload_n (pc := 44) dX2_holdVote_44 rfl ?_
        refine V0_iload_n (pc := 45) dX2_holdVote_45 rfl ?_
        refine V_puti (pc := 46) dX2_holdVote_46 flX2_43 hp.1 rfl ?_
        refine V0_aload_n (pc := 49) dX2_holdVote_49 rfl ?_
        refine V_getr (pc := 50) dX2_holdVote_50 flX2_21 hp.1 rfl ?_
        refine V0_iconst (pc := 53) (2) dX2_holdVote_53 (by decide) ?_
        refine V0_dup2 (pc := 54) dX2_holdVote_54 rfl rfl ?_
        refine V_iald (pc := 55) 2 dX2_holdVote_55 hp.2.2.2.2.1 (by decide) (by decide) ?_
        refine V0_iconst (pc := 56) (1) dX2_holdVote_56 (by decide) ?_
        refine V0_iadd (pc := 57) dX2_holdVote_57 ?_
        refine V_iast (pc := 58) 2 dX2_holdVote_58 hp.2.2.2.2.1 (by decide) (by decide) ?_
        refine V_retv (pc := 59) dX2_holdVote_59 rfl ?_
        exact ⟨rfl, by simp [g_vote, g_turn, h31, px_up_at], rfl⟩
  · skip
    refine V0_aload_n (pc := 9) dX2_holdVote_9 rfl ?_
    refine V_geti (pc := 10) dX2_holdVote_10 flX2_43 hp.1 rfl ?_
    refine V0_goto (pc := 13) 25 dX2_holdVote_13 (by decide) ?_
    refine V0_istore_2 (pc := 25) dX2_holdVote_25 (by decide) rfl ?_
    refine V_ls (ls' := [.ref p, .int (s_lead (I (p + 1)) m), .int (g_chosen I p m)]) (by simp [g_chosen, *]) ?_
    refine V0_iload_n (pc := 26) dX2_holdVote_26 rfl ?_
    refine V0_aload_n (pc := 27) dX2_holdVote_27 rfl ?_
    refine V_geti (pc := 28) dX2_holdVote_28 flX2_43 hp.1 rfl ?_
    refine V0_icmp_eq (pc := 31) 44 dX2_holdVote_31 (by decide) (fun h31 => ?_) (fun h31 => ?_)
    · skip
      refine V0_aload_n (pc := 44) dX2_holdVote_44 rfl ?_
      refine V0_iload_n (pc := 45) dX2_holdVote_45 rfl ?_
      refine V_puti (pc := 46) dX2_holdVote_46 flX2_43 hp.1 rfl ?_
      refine V0_aload_n (pc := 49) dX2_holdVote_49 rfl ?_
      refine V_getr (pc := 50) dX2_holdVote_50 flX2_21 hp.1 rfl ?_
      refine V0_iconst (pc := 53) (2) dX2_holdVote_53 (by decide) ?_
      refine V0_dup2 (pc := 54) dX2_holdVote_54 rfl rfl ?_
      refine V_iald (pc := 55) 2 dX2_holdVote_55 hp.2.2.2.2.1 (by decide) (by decide) ?_
      refine V0_iconst (pc := 56) (1) dX2_holdVote_56 (by decide) ?_
      refine V0_iadd (pc := 57) dX2_holdVote_57 ?_
      refine V_iast (pc := 58) 2 dX2_holdVote_58 hp.2.2.2.2.1 (by decide) (by decide) ?_
      refine V_retv (pc := 59) dX2_holdVote_59 rfl ?_
      exact ⟨rfl, by simp [g_vote, g_turn, h31, px_up_at], rfl⟩
    · skip
      refine V0_aload_n (pc := 34) dX2_holdVote_34 rfl ?_
      refine V_getr (pc := 35) dX2_holdVote_35 flX2_21 hp.1 rfl ?_
      refine V0_iconst (pc := 38) (3) dX2_holdVote_38 (by decide) ?_
      refine V0_dup2 (pc := 39) dX2_holdVote_39 rfl rfl ?_
      refine V_iald (pc := 40) 3 dX2_holdVote_40 hp.2.2.2.2.1 (by decide) (by decide) ?_
      refine V0_iconst (pc := 41) (1) dX2_holdVote_41 (by decide) ?_
      refine V0_iadd (pc := 42) dX2_holdVote_42 ?_
      refine V_iast (pc := 43) 3 dX2_holdVote_43 hp.2.2.2.2.1 (by decide) (by decide) ?_
      refine V0_aload_n (pc := 44) dX2_holdVote_44 rfl ?_
      refine V0_iload_n (pc := 45) dX2_holdVote_45 rfl ?_
      refine V_puti (pc := 46) dX2_holdVote_46 flX2_43 hp.1 rfl ?_
      refine V0_aload_n (pc := 49) dX2_holdVote_49 rfl ?_
      refine V_getr (pc := 50) dX2_holdVote_50 flX2_21 hp.1 rfl ?_
      refine V0_iconst (pc := 53) (2) dX2_holdVote_53 (by decide) ?_
      refine V0_dup2 (pc := 54) dX2_holdVote_54 rfl rfl ?_
      refine V_iald (pc := 55) 2 dX2_holdVote_55 hp.2.2.2.2.1 (by decide) (by decide) ?_
      refine V0_iconst (pc := 56) (1) dX2_holdVote_56 (by decide) ?_
      refine V0_iadd (pc := 57) dX2_holdVote_57 ?_
      refine V_iast (pc := 58) 2 dX2_holdVote_58 hp.2.2.2.2.1 (by decide) (by decide) ?_
      refine V_retv (pc := 59) dX2_holdVote_59 rfl ?_
      exact ⟨rfl, by simp [g_vote, g_turn, h31, px_up_at], rfl⟩
theorem lp_X2_pass {l : Launch} {I : px_I} {J : px_J} {p n : Nat} {Q : px_Q} (hp : px_cs p) (hn : I 1 7 = nI n) (hn10 : n ≤ 10) (ho : px_ofs (I 2)) (hQ : Q none (px_up (g_later (g_joys I p n) p) (p + 4) 1 (g_later (g_joys I p n) p (p + 4) 1 + 1)) J) : ∀ (k j : Nat), n + 1 - j ≤ k → j ≤ n → V0 l (px_rm 3 0 0) mX2_pass (false, []) 0 0 38 [.ref p, .int (nI j)] [] (px_mk (g_joys I p j) J) (px_q Q) := by
  have h8 := hp.2.2.2.2.2
  intro k
  induction k with
  | zero => intro j h1 h2; omega
  | succ k ih =>
    intro j h1 h2
    refine V0_iload_n (pc := 38) dX2_pass_38 rfl ?_
    refine V0_aload_n (pc := 39) dX2_pass_39 rfl ?_
    refine V_getr (pc := 40) dX2_pass_40 flX2_24 hp.1 rfl ?_
    refine V_geti (pc := 43) dX2_pass_43 flX2_75 rfl rfl ?_
    rw [g_joys_row (q := 1) (by omega) (by omega) (by omega), hn]
    refine V1_icmp_ge (pc := 46) 60 dX2_pass_46 (by decide) (fun h46 => ?_) (fun h46 => ?_)
    · skip
      have hj : j = n := by have := px_ge h46 (by omega) (by omega); omega
      subst hj
      refine V0_aload_n (pc := 60) dX2_pass_60 rfl ?_
      refine V_geti (pc := 61) dX2_pass_61 flX2_47 hp.1 rfl ?_
      refine V0_sipush (pc := 64) (199) dX2_pass_64 (by decide) ?_
      refine V1_icmp_ge (pc := 67) 80 dX2_pass_67 (by decide) (fun h67 => ?_) (fun h67 => ?_)
      · skip
        refine V0_aload_n (pc := 80) dX2_pass_80 rfl ?_
        refine V_getr (pc := 81) dX2_pass_81 flX2_21 hp.1 rfl ?_
        refine V0_iconst (pc := 84) (1) dX2_pass_84 (by decide) ?_
        refine V0_dup2 (pc := 85) dX2_pass_85 rfl rfl ?_
        refine V_iald (pc := 86) 1 dX2_pass_86 hp.2.2.2.2.1 (by decide) (by decide) ?_
        refine V0_iconst (pc := 87) (1) dX2_pass_87 (by decide) ?_
        refine V0_iadd (pc := 88) dX2_pass_88 ?_
        refine V_iast (pc := 89) 1 dX2_pass_89 hp.2.2.2.2.1 (by decide) (by decide) ?_
        refine V_retv (pc := 90) dX2_pass_90 rfl ?_
        simpa [g_later, h67] using hQ
      · skip
        refine V0_aload_n (pc := 70) dX2_pass_70 rfl ?_
        refine V0_dup (pc := 71) dX2_pass_71 rfl ?_
        refine V_geti (pc := 72) dX2_pass_72 flX2_47 hp.1 rfl ?_
        refine V0_iconst (pc := 75) (1) dX2_pass_75 (by decide) ?_
        refine V0_iadd (pc := 76) dX2_pass_76 ?_
        refine V_puti (pc := 77) dX2_pass_77 flX2_47 hp.1 rfl ?_
        refine V0_aload_n (pc := 80) dX2_pass_80 rfl ?_
        refine V_getr (pc := 81) dX2_pass_81 flX2_21 hp.1 rfl ?_
        refine V0_iconst (pc := 84) (1) dX2_pass_84 (by decide) ?_
        refine V0_dup2 (pc := 85) dX2_pass_85 rfl rfl ?_
        refine V_iald (pc := 86) 1 dX2_pass_86 hp.2.2.2.2.1 (by decide) (by decide) ?_
        refine V0_iconst (pc := 87) (1) dX2_pass_87 (by decide) ?_
        refine V0_iadd (pc := 88) dX2_pass_88 ?_
        refine V_iast (pc := 89) 1 dX2_pass_89 hp.2.2.2.2.1 (by decide) (by decide) ?_
        refine V_retv (pc := 90) dX2_pass_90 rfl ?_
        simpa [g_later, h67] using hQ
    · skip
      have hj := px_lt h46 (by omega) (by omega)
      refine V0_aload_n (pc := 49) dX2_pass_49 rfl ?_
      refine V0_iload_n (pc := 50) dX2_pass_50 rfl ?_
      refine V_callV (pc := 51) (M' := mX2_passFor) dX2_pass_51 mlX2_97 okX2_passFor rfl (c_X2_passFor hp (by omega) (by rw [g_joys_row (by omega) (by omega) (by omega)]; exact ho)) rfl rfl hp.1 rfl ⟨Nat.le_of_ble_eq_true rfl, Nat.le_of_ble_eq_true rfl⟩ ⟨Nat.le_refl 0, Nat.le_refl 0⟩ (Nat.le_of_ble_eq_true rfl) ?_
      rintro _ _ _ ⟨rfl, rfl, rfl⟩
      refine V0_iinc_1 (pc := 54) (nI (j + 1)) dX2_pass_54 (by decide) rfl (nI_1 _) ?_
      refine V0_goto (pc := 57) 38 dX2_pass_57 (by decide) ?_
      exact ih (j + 1) (by omega) (by omega)
theorem c_X2_pass {l : Launch} {I : px_I} {J : px_J} {p m n : Nat} (hp : px_cs p) (hm : I 1 6 = nI m) (hm7 : m ≤ 7) (hn : I 1 7 = nI n) (hn10 : n ≤ 10) (ho : px_ofs (I 2)) : Ct l mX2_pass 3 [.ref p] I J (px_qs (g_pass I p m n) J) := by
  have h8 := hp.2.2.2.2.2
  have key : ∀ I1 : px_I, I1 = g_start I p m → V0 l (px_rm 3 0 0) mX2_pass (false, []) 0 0 38 [.ref p, .int (nI 0)] [] (px_mk I1 J) (px_q (px_qs (g_pass I p m n) J)) := by
    intro I1 e
    have r1 : I1 1 = I 1 := by rw [e]; exact g_start_row (by omega) (by omega)
    have r2 : I1 2 = I 2 := by rw [e]; exact g_start_row (by omega) (by omega)
    refine lp_X2_pass (I := I1) (n := n) hp (by rw [r1]; exact hn) hn10 (by rw [r2]; exact ho) ?_ (n + 1) 0 (by omega) (by omega)
    subst e
    exact ⟨rfl, rfl, rfl⟩
  refine Ct.of plX2_pass (Nat.le_of_ble_eq_true rfl) [.ref p, .null] rfl ?_
  refine V0_aload_n (pc := 0) dX2_pass_0 rfl ?_
  refine V_geti (pc := 1) dX2_pass_1 flX2_47 hp.1 rfl ?_
  refine V1_if_le (pc := 4) 36 dX2_pass_4 (by decide) (fun h4 => ?_) (fun h4 => ?_)
  · skip
    refine V0_iconst (pc := 36) (0) dX2_pass_36 (by decide) ?_
    refine V0_istore_1 (pc := 37) dX2_pass_37 (by decide) rfl ?_
    exact key _ (by simp [g_start, *])
  · skip
    refine V0_aload_n (pc := 7) dX2_pass_7 rfl ?_
    refine V_getr (pc := 8) dX2_pass_8 flX2_24 hp.1 rfl ?_
    refine V_geti (pc := 11) dX2_pass_11 flX2_91 rfl rfl ?_
    refine V1_if_le (pc := 14) 36 dX2_pass_14 (by decide) (fun h14 => ?_) (fun h14 => ?_)
    · skip
      refine V0_iconst (pc := 36) (0) dX2_pass_36 (by decide) ?_
      refine V0_istore_1 (pc := 37) dX2_pass_37 (by decide) rfl ?_
      exact key _ (by simp [g_start, *])
    · skip
      refine V0_aload_n (pc := 17) dX2_pass_17 rfl ?_
      refine V_geti (pc := 18) dX2_pass_18 flX2_47 hp.1 rfl ?_
      refine V0_aload_n (pc := 21) dX2_pass_21 rfl ?_
      refine V_getr (pc := 22) dX2_pass_22 flX2_24 hp.1 rfl ?_
      refine V_geti (pc := 25) dX2_pass_25 flX2_91 rfl rfl ?_
      refine V0_irem (pc := 28) dX2_pass_28 (fun e => by rw [e] at h14; exact absurd h14 (by decide)) ?_
      refine V0_if_ne (pc := 29) 36 dX2_pass_29 (by decide) (fun h29 => ?_) (fun h29 => ?_)
      · skip
        refine V0_iconst (pc := 36) (0) dX2_pass_36 (by decide) ?_
        refine V0_istore_1 (pc := 37) dX2_pass_37 (by decide) rfl ?_
        exact key _ (by simp [g_start, *])
      · skip
        refine V0_aload_n (pc := 32) dX2_pass_32 rfl ?_
        refine V_callV (pc := 33) (M' := mX2_holdVote) dX2_pass_33 mlX2_94 okX2_holdVote rfl (c_X2_holdVote hp hm hm7) rfl rfl hp.1 rfl ⟨Nat.le_of_ble_eq_true rfl, Nat.le_of_ble_eq_true rfl⟩ ⟨Nat.le_refl 0, Nat.le_refl 0⟩ (Nat.le_of_ble_eq_true rfl) ?_
        rintro _ _ _ ⟨rfl, rfl, rfl⟩
        refine V0_iconst (pc := 36) (0) dX2_pass_36 (by decide) ?_
        refine V0_istore_1 (pc := 37) dX2_pass_37 (by decide) rfl ?_
        exact key _ (by simp [g_start, *])
end
