section
-- ===== PART A: goes FIRST, ahead of the names: the tables' words, and 'selects' of the private methods out of them =====
/-- a private method of a class that the tables say can be made, by its rows of tables_1 -/
def lw_okq (q : MethodName × Nat) : Prop := (q.1.cls ≠ "java/lang/invoke/MethodHandle" ∧ q.1.cls ≠ "java/lang/invoke/VarHandle") ∧ Cond.instantiable q.1.cls q.2 ∈ tables_1 ∧ Cond.privateMethod q.1 ∈ tables_1 ∧ Cond.instanceMethod q.1 ∈ tables_1
theorem lw_p0 : lw_okq (⟨"KnitReader", "shelfAt", "(I)LKnitReader$Shelf;"⟩, 9) := ⟨⟨by decide +kernel, by decide +kernel⟩, List.mem_of_getElem? (i := 19) (by decide +kernel), List.mem_of_getElem? (i := 214) (by decide +kernel), List.mem_of_getElem? (i := 215) (by decide +kernel)⟩
theorem lw_p1 : lw_okq (⟨"KnitReader", "refuse", "(I)I"⟩, 9) := ⟨⟨by decide +kernel, by decide +kernel⟩, List.mem_of_getElem? (i := 19) (by decide +kernel), List.mem_of_getElem? (i := 221) (by decide +kernel), List.mem_of_getElem? (i := 222) (by decide +kernel)⟩
theorem lw_p2 : lw_okq (⟨"KnitReader$Shelf", "lowestBits", "(J)J"⟩, 3) := ⟨⟨by decide +kernel, by decide +kernel⟩, List.mem_of_getElem? (i := 163) (by decide +kernel), List.mem_of_getElem? (i := 254) (by decide +kernel), List.mem_of_getElem? (i := 255) (by decide +kernel)⟩
theorem lw_p3 : lw_okq (⟨"KnitReader$Line", "readParts", "(I)V"⟩, 10) := ⟨⟨by decide +kernel, by decide +kernel⟩, List.mem_of_getElem? (i := 364) (by decide +kernel), List.mem_of_getElem? (i := 428) (by decide +kernel), List.mem_of_getElem? (i := 429) (by decide +kernel)⟩
theorem lw_p4 : lw_okq (⟨"KnitReader$Line", "readPart", "(I)V"⟩, 10) := ⟨⟨by decide +kernel, by decide +kernel⟩, List.mem_of_getElem? (i := 364) (by decide +kernel), List.mem_of_getElem? (i := 432) (by decide +kernel), List.mem_of_getElem? (i := 433) (by decide +kernel)⟩
theorem lw_p5 : lw_okq (⟨"KnitReader$Line", "readWord", "(I)V"⟩, 10) := ⟨⟨by decide +kernel, by decide +kernel⟩, List.mem_of_getElem? (i := 364) (by decide +kernel), List.mem_of_getElem? (i := 443) (by decide +kernel), List.mem_of_getElem? (i := 444) (by decide +kernel)⟩
theorem lw_p6 : lw_okq (⟨"KnitReader$Line", "kindSpelled", "(II)I"⟩, 10) := ⟨⟨by decide +kernel, by decide +kernel⟩, List.mem_of_getElem? (i := 364) (by decide +kernel), List.mem_of_getElem? (i := 447) (by decide +kernel), List.mem_of_getElem? (i := 448) (by decide +kernel)⟩
theorem lw_p7 : lw_okq (⟨"KnitReader$Line", "isSpelled", "(Ljava/lang/String;II)Z"⟩, 10) := ⟨⟨by decide +kernel, by decide +kernel⟩, List.mem_of_getElem? (i := 364) (by decide +kernel), List.mem_of_getElem? (i := 464) (by decide +kernel), List.mem_of_getElem? (i := 465) (by decide +kernel)⟩
theorem lw_p8 : lw_okq (⟨"KnitReader$Line", "openPart", "(III)I"⟩, 10) := ⟨⟨by decide +kernel, by decide +kernel⟩, List.mem_of_getElem? (i := 364) (by decide +kernel), List.mem_of_getElem? (i := 516) (by decide +kernel), List.mem_of_getElem? (i := 517) (by decide +kernel)⟩
theorem lw_p9 : lw_okq (⟨"KnitReader$Line", "readNumber", "(I)I"⟩, 10) := ⟨⟨by decide +kernel, by decide +kernel⟩, List.mem_of_getElem? (i := 364) (by decide +kernel), List.mem_of_getElem? (i := 523) (by decide +kernel), List.mem_of_getElem? (i := 524) (by decide +kernel)⟩
theorem lw_p10 : lw_okq (⟨"KnitReader$Line", "closePart", "(II)V"⟩, 10) := ⟨⟨by decide +kernel, by decide +kernel⟩, List.mem_of_getElem? (i := 364) (by decide +kernel), List.mem_of_getElem? (i := 527) (by decide +kernel), List.mem_of_getElem? (i := 528) (by decide +kernel)⟩
theorem lw_p11 : lw_okq (⟨"KnitReader$Line", "readGroup", "(IIII)V"⟩, 10) := ⟨⟨by decide +kernel, by decide +kernel⟩, List.mem_of_getElem? (i := 364) (by decide +kernel), List.mem_of_getElem? (i := 531) (by decide +kernel), List.mem_of_getElem? (i := 532) (by decide +kernel)⟩
theorem lw_p12 : lw_okq (⟨"KnitReader", "workInTruth", "(LKnitReader$Line;I)Z"⟩, 9) := ⟨⟨by decide +kernel, by decide +kernel⟩, List.mem_of_getElem? (i := 19) (by decide +kernel), List.mem_of_getElem? (i := 577) (by decide +kernel), List.mem_of_getElem? (i := 578) (by decide +kernel)⟩
theorem lw_p13 : lw_okq (⟨"KnitReader$Pass", "begin", "(I)V"⟩, 8) := ⟨⟨by decide +kernel, by decide +kernel⟩, List.mem_of_getElem? (i := 109) (by decide +kernel), List.mem_of_getElem? (i := 585) (by decide +kernel), List.mem_of_getElem? (i := 586) (by decide +kernel)⟩
theorem lw_p14 : lw_okq (⟨"KnitReader$Pass", "stop", "(III)V"⟩, 8) := ⟨⟨by decide +kernel, by decide +kernel⟩, List.mem_of_getElem? (i := 109) (by decide +kernel), List.mem_of_getElem? (i := 589) (by decide +kernel), List.mem_of_getElem? (i := 590) (by decide +kernel)⟩
theorem lw_p15 : lw_okq (⟨"KnitReader$Pass", "workParts", "(LKnitReader$Line;III)V"⟩, 8) := ⟨⟨by decide +kernel, by decide +kernel⟩, List.mem_of_getElem? (i := 109) (by decide +kernel), List.mem_of_getElem? (i := 597) (by decide +kernel), List.mem_of_getElem? (i := 598) (by decide +kernel)⟩
def lw_privs_1 : List (MethodName × Nat) := [(⟨"KnitReader", "shelfAt", "(I)LKnitReader$Shelf;"⟩, 9), (⟨"KnitReader", "refuse", "(I)I"⟩, 9), (⟨"KnitReader$Shelf", "lowestBits", "(J)J"⟩, 3), (⟨"KnitReader$Line", "readParts", "(I)V"⟩, 10), (⟨"KnitReader$Line", "readPart", "(I)V"⟩, 10), (⟨"KnitReader$Line", "readWord", "(I)V"⟩, 10), (⟨"KnitReader$Line", "kindSpelled", "(II)I"⟩, 10), (⟨"KnitReader$Line", "isSpelled", "(Ljava/lang/String;II)Z"⟩, 10), (⟨"KnitReader$Line", "openPart", "(III)I"⟩, 10), (⟨"KnitReader$Line", "readNumber", "(I)I"⟩, 10), (⟨"KnitReader$Line", "closePart", "(II)V"⟩, 10), (⟨"KnitReader$Line", "readGroup", "(IIII)V"⟩, 10), (⟨"KnitReader", "workInTruth", "(LKnitReader$Line;I)Z"⟩, 9), (⟨"KnitReader$Pass", "begin", "(I)V"⟩, 8), (⟨"KnitReader$Pass", "stop", "(III)V"⟩, 8), (⟨"KnitReader$Pass", "workParts", "(LKnitReader$Line;III)V"⟩, 8)]
theorem lw_r1 : ∀ q ∈ lw_privs_1, lw_okq q := List.forall_mem_cons.mpr ⟨lw_p0, List.forall_mem_cons.mpr ⟨lw_p1, List.forall_mem_cons.mpr ⟨lw_p2, List.forall_mem_cons.mpr ⟨lw_p3, List.forall_mem_cons.mpr ⟨lw_p4, List.forall_mem_cons.mpr ⟨lw_p5, List.forall_mem_cons.mpr ⟨lw_p6, List.forall_mem_cons.mpr ⟨lw_p7, List.forall_mem_cons.mpr ⟨lw_p8, List.forall_mem_cons.mpr ⟨lw_p9, List.forall_mem_cons.mpr ⟨lw_p10, List.forall_mem_cons.mpr ⟨lw_p11, List.forall_mem_cons.mpr ⟨lw_p12, List.forall_mem_cons.mpr ⟨lw_p13, List.forall_mem_cons.mpr ⟨lw_p14, List.forall_mem_cons.mpr ⟨lw_p15, fun _ h => absurd h List.not_mem_nil⟩⟩⟩⟩⟩⟩⟩⟩⟩⟩⟩⟩⟩⟩⟩⟩
theorem lw_p16 : lw_okq (⟨"KnitReader$Pass", "workTimes", "(LKnitReader$Line;II)V"⟩, 8) := ⟨⟨by decide +kernel, by decide +kernel⟩, List.mem_of_getElem? (i := 109) (by decide +kernel), List.mem_of_getElem? (i := 605) (by decide +kernel), List.mem_of_getElem? (i := 606) (by decide +kernel)⟩
theorem lw_p17 : lw_okq (⟨"KnitReader$Pass", "enter", "(III)V"⟩, 8) := ⟨⟨by decide +kernel, by decide +kernel⟩, List.mem_of_getElem? (i := 109) (by decide +kernel), List.mem_of_getElem? (i := 617) (by decide +kernel), List.mem_of_getElem? (i := 618) (by decide +kernel)⟩
theorem lw_p18 : lw_okq (⟨"KnitReader$Pass", "workTill", "(LKnitReader$Line;II)V"⟩, 8) := ⟨⟨by decide +kernel, by decide +kernel⟩, List.mem_of_getElem? (i := 109) (by decide +kernel), List.mem_of_getElem? (i := 625) (by decide +kernel), List.mem_of_getElem? (i := 626) (by decide +kernel)⟩
theorem lw_p19 : lw_okq (⟨"KnitReader$Pass", "workWord", "(LKnitReader$Line;II)V"⟩, 8) := ⟨⟨by decide +kernel, by decide +kernel⟩, List.mem_of_getElem? (i := 109) (by decide +kernel), List.mem_of_getElem? (i := 629) (by decide +kernel), List.mem_of_getElem? (i := 630) (by decide +kernel)⟩
theorem lw_p20 : lw_okq (⟨"KnitReader$Pass", "hitchOf", "(II)I"⟩, 8) := ⟨⟨by decide +kernel, by decide +kernel⟩, List.mem_of_getElem? (i := 109) (by decide +kernel), List.mem_of_getElem? (i := 635) (by decide +kernel), List.mem_of_getElem? (i := 636) (by decide +kernel)⟩
theorem lw_p21 : lw_okq (⟨"KnitReader", "keepWhy", "(I)V"⟩, 9) := ⟨⟨by decide +kernel, by decide +kernel⟩, List.mem_of_getElem? (i := 19) (by decide +kernel), List.mem_of_getElem? (i := 663) (by decide +kernel), List.mem_of_getElem? (i := 664) (by decide +kernel)⟩
theorem lw_p22 : lw_okq (⟨"KnitReader", "refuseLong", "(I)J"⟩, 9) := ⟨⟨by decide +kernel, by decide +kernel⟩, List.mem_of_getElem? (i := 19) (by decide +kernel), List.mem_of_getElem? (i := 736) (by decide +kernel), List.mem_of_getElem? (i := 737) (by decide +kernel)⟩
theorem lw_p23 : lw_okq (⟨"KnitReader", "countBehind", "(III)I"⟩, 9) := ⟨⟨by decide +kernel, by decide +kernel⟩, List.mem_of_getElem? (i := 19) (by decide +kernel), List.mem_of_getElem? (i := 745) (by decide +kernel), List.mem_of_getElem? (i := 746) (by decide +kernel)⟩
theorem lw_p24 : lw_okq (⟨"KnitReader$Stitches", "runLength", "(I)I"⟩, 2) := ⟨⟨by decide +kernel, by decide +kernel⟩, List.mem_of_getElem? (i := 42) (by decide +kernel), List.mem_of_getElem? (i := 788) (by decide +kernel), List.mem_of_getElem? (i := 789) (by decide +kernel)⟩
theorem lw_p25 : lw_okq (⟨"KnitReader$Stitches", "comesAgain", "(I)Z"⟩, 2) := ⟨⟨by decide +kernel, by decide +kernel⟩, List.mem_of_getElem? (i := 42) (by decide +kernel), List.mem_of_getElem? (i := 806) (by decide +kernel), List.mem_of_getElem? (i := 807) (by decide +kernel)⟩
theorem lw_p26 : lw_okq (⟨"KnitReader", "shelvesInUse", "()I"⟩, 9) := ⟨⟨by decide +kernel, by decide +kernel⟩, List.mem_of_getElem? (i := 19) (by decide +kernel), List.mem_of_getElem? (i := 904) (by decide +kernel), List.mem_of_getElem? (i := 905) (by decide +kernel)⟩
theorem lw_p27 : lw_okq (⟨"KnitReader", "refusalsOf", "(I)I"⟩, 9) := ⟨⟨by decide +kernel, by decide +kernel⟩, List.mem_of_getElem? (i := 19) (by decide +kernel), List.mem_of_getElem? (i := 909) (by decide +kernel), List.mem_of_getElem? (i := 910) (by decide +kernel)⟩
theorem lw_p28 : lw_okq (⟨"KnitReaderModel", "refuses", "(I)I"⟩, 28) := ⟨⟨by decide +kernel, by decide +kernel⟩, List.mem_of_getElem? (i := 913) (by decide +kernel), List.mem_of_getElem? (i := 1012) (by decide +kernel), List.mem_of_getElem? (i := 1013) (by decide +kernel)⟩
theorem lw_p29 : lw_okq (⟨"KnitReaderModel", "readsAll", "()V"⟩, 28) := ⟨⟨by decide +kernel, by decide +kernel⟩, List.mem_of_getElem? (i := 913) (by decide +kernel), List.mem_of_getElem? (i := 1024) (by decide +kernel), List.mem_of_getElem? (i := 1025) (by decide +kernel)⟩
theorem lw_p30 : lw_okq (⟨"KnitReaderModel", "reads", "(I)V"⟩, 28) := ⟨⟨by decide +kernel, by decide +kernel⟩, List.mem_of_getElem? (i := 913) (by decide +kernel), List.mem_of_getElem? (i := 1028) (by decide +kernel), List.mem_of_getElem? (i := 1029) (by decide +kernel)⟩
theorem lw_p31 : lw_okq (⟨"KnitReaderModel", "peek", "()I"⟩, 28) := ⟨⟨by decide +kernel, by decide +kernel⟩, List.mem_of_getElem? (i := 913) (by decide +kernel), List.mem_of_getElem? (i := 1033) (by decide +kernel), List.mem_of_getElem? (i := 1034) (by decide +kernel)⟩
def lw_privs_2 : List (MethodName × Nat) := [(⟨"KnitReader$Pass", "workTimes", "(LKnitReader$Line;II)V"⟩, 8), (⟨"KnitReader$Pass", "enter", "(III)V"⟩, 8), (⟨"KnitReader$Pass", "workTill", "(LKnitReader$Line;II)V"⟩, 8), (⟨"KnitReader$Pass", "workWord", "(LKnitReader$Line;II)V"⟩, 8), (⟨"KnitReader$Pass", "hitchOf", "(II)I"⟩, 8), (⟨"KnitReader", "keepWhy", "(I)V"⟩, 9), (⟨"KnitReader", "refuseLong", "(I)J"⟩, 9), (⟨"KnitReader", "countBehind", "(III)I"⟩, 9), (⟨"KnitReader$Stitches", "runLength", "(I)I"⟩, 2), (⟨"KnitReader$Stitches", "comesAgain", "(I)Z"⟩, 2), (⟨"KnitReader", "shelvesInUse", "()I"⟩, 9), (⟨"KnitReader", "refusalsOf", "(I)I"⟩, 9), (⟨"KnitReaderModel", "refuses", "(I)I"⟩, 28), (⟨"KnitReaderModel", "readsAll", "()V"⟩, 28), (⟨"KnitReaderModel", "reads", "(I)V"⟩, 28), (⟨"KnitReaderModel", "peek", "()I"⟩, 28)]
theorem lw_r2 : ∀ q ∈ lw_privs_2, lw_okq q := List.forall_mem_cons.mpr ⟨lw_p16, List.forall_mem_cons.mpr ⟨lw_p17, List.forall_mem_cons.mpr ⟨lw_p18, List.forall_mem_cons.mpr ⟨lw_p19, List.forall_mem_cons.mpr ⟨lw_p20, List.forall_mem_cons.mpr ⟨lw_p21, List.forall_mem_cons.mpr ⟨lw_p22, List.forall_mem_cons.mpr ⟨lw_p23, List.forall_mem_cons.mpr ⟨lw_p24, List.forall_mem_cons.mpr ⟨lw_p25, List.forall_mem_cons.mpr ⟨lw_p26, List.forall_mem_cons.mpr ⟨lw_p27, List.forall_mem_cons.mpr ⟨lw_p28, List.forall_mem_cons.mpr ⟨lw_p29, List.forall_mem_cons.mpr ⟨lw_p30, List.forall_mem_cons.mpr ⟨lw_p31, fun _ h => absurd h List.not_mem_nil⟩⟩⟩⟩⟩⟩⟩⟩⟩⟩⟩⟩⟩⟩⟩⟩
theorem lw_p32 : lw_okq (⟨"KnitReaderModel", "number", "(II)I"⟩, 28) := ⟨⟨by decide +kernel, by decide +kernel⟩, List.mem_of_getElem? (i := 913) (by decide +kernel), List.mem_of_getElem? (i := 1037) (by decide +kernel), List.mem_of_getElem? (i := 1038) (by decide +kernel)⟩
theorem lw_p33 : lw_okq (⟨"KnitReaderModel", "word", "()I"⟩, 28) := ⟨⟨by decide +kernel, by decide +kernel⟩, List.mem_of_getElem? (i := 913) (by decide +kernel), List.mem_of_getElem? (i := 1046) (by decide +kernel), List.mem_of_getElem? (i := 1047) (by decide +kernel)⟩
theorem lw_p34 : lw_okq (⟨"KnitReaderModel", "isLine", "(I)Z"⟩, 28) := ⟨⟨by decide +kernel, by decide +kernel⟩, List.mem_of_getElem? (i := 913) (by decide +kernel), List.mem_of_getElem? (i := 1063) (by decide +kernel), List.mem_of_getElem? (i := 1064) (by decide +kernel)⟩
theorem lw_p35 : lw_okq (⟨"KnitReaderModel", "takesText", "(I)V"⟩, 28) := ⟨⟨by decide +kernel, by decide +kernel⟩, List.mem_of_getElem? (i := 913) (by decide +kernel), List.mem_of_getElem? (i := 1068) (by decide +kernel), List.mem_of_getElem? (i := 1069) (by decide +kernel)⟩
theorem lw_p36 : lw_okq (⟨"KnitReaderModel", "triesNow", "(I)V"⟩, 28) := ⟨⟨by decide +kernel, by decide +kernel⟩, List.mem_of_getElem? (i := 913) (by decide +kernel), List.mem_of_getElem? (i := 1080) (by decide +kernel), List.mem_of_getElem? (i := 1081) (by decide +kernel)⟩
theorem lw_p37 : lw_okq (⟨"KnitReaderModel", "hits", "(III)V"⟩, 28) := ⟨⟨by decide +kernel, by decide +kernel⟩, List.mem_of_getElem? (i := 913) (by decide +kernel), List.mem_of_getElem? (i := 1084) (by decide +kernel), List.mem_of_getElem? (i := 1085) (by decide +kernel)⟩
theorem lw_p38 : lw_okq (⟨"KnitReaderModel", "tries", "(II)V"⟩, 28) := ⟨⟨by decide +kernel, by decide +kernel⟩, List.mem_of_getElem? (i := 913) (by decide +kernel), List.mem_of_getElem? (i := 1088) (by decide +kernel), List.mem_of_getElem? (i := 1089) (by decide +kernel)⟩
theorem lw_p39 : lw_okq (⟨"KnitReaderModel", "works", "(I)V"⟩, 28) := ⟨⟨by decide +kernel, by decide +kernel⟩, List.mem_of_getElem? (i := 913) (by decide +kernel), List.mem_of_getElem? (i := 1092) (by decide +kernel), List.mem_of_getElem? (i := 1093) (by decide +kernel)⟩
theorem lw_p40 : lw_okq (⟨"KnitReaderModel", "end", "(I)I"⟩, 28) := ⟨⟨by decide +kernel, by decide +kernel⟩, List.mem_of_getElem? (i := 913) (by decide +kernel), List.mem_of_getElem? (i := 1096) (by decide +kernel), List.mem_of_getElem? (i := 1097) (by decide +kernel)⟩
theorem lw_p41 : lw_okq (⟨"KnitReaderModel", "once", "(IIII)V"⟩, 28) := ⟨⟨by decide +kernel, by decide +kernel⟩, List.mem_of_getElem? (i := 913) (by decide +kernel), List.mem_of_getElem? (i := 1100) (by decide +kernel), List.mem_of_getElem? (i := 1101) (by decide +kernel)⟩
theorem lw_p42 : lw_okq (⟨"KnitReaderModel", "tillLeft", "(IIII)V"⟩, 28) := ⟨⟨by decide +kernel, by decide +kernel⟩, List.mem_of_getElem? (i := 913) (by decide +kernel), List.mem_of_getElem? (i := 1104) (by decide +kernel), List.mem_of_getElem? (i := 1105) (by decide +kernel)⟩
theorem lw_p43 : lw_okq (⟨"KnitReaderModel", "stitches", "(IIII)V"⟩, 28) := ⟨⟨by decide +kernel, by decide +kernel⟩, List.mem_of_getElem? (i := 913) (by decide +kernel), List.mem_of_getElem? (i := 1108) (by decide +kernel), List.mem_of_getElem? (i := 1109) (by decide +kernel)⟩
theorem lw_p44 : lw_okq (⟨"KnitReaderModel", "tellsWhy", "(II)V"⟩, 28) := ⟨⟨by decide +kernel, by decide +kernel⟩, List.mem_of_getElem? (i := 913) (by decide +kernel), List.mem_of_getElem? (i := 1118) (by decide +kernel), List.mem_of_getElem? (i := 1119) (by decide +kernel)⟩
theorem lw_p45 : lw_okq (⟨"KnitReaderModel", "adds", "(III)V"⟩, 28) := ⟨⟨by decide +kernel, by decide +kernel⟩, List.mem_of_getElem? (i := 913) (by decide +kernel), List.mem_of_getElem? (i := 1122) (by decide +kernel), List.mem_of_getElem? (i := 1123) (by decide +kernel)⟩
theorem lw_p46 : lw_okq (⟨"KnitReaderModel", "done", "(I)V"⟩, 28) := ⟨⟨by decide +kernel, by decide +kernel⟩, List.mem_of_getElem? (i := 913) (by decide +kernel), List.mem_of_getElem? (i := 1126) (by decide +kernel), List.mem_of_getElem? (i := 1127) (by decide +kernel)⟩
theorem lw_p47 : lw_okq (⟨"KnitReaderModel", "rips", "(I)V"⟩, 28) := ⟨⟨by decide +kernel, by decide +kernel⟩, List.mem_of_getElem? (i := 913) (by decide +kernel), List.mem_of_getElem? (i := 1148) (by decide +kernel), List.mem_of_getElem? (i := 1149) (by decide +kernel)⟩
def lw_privs_3 : List (MethodName × Nat) := [(⟨"KnitReaderModel", "number", "(II)I"⟩, 28), (⟨"KnitReaderModel", "word", "()I"⟩, 28), (⟨"KnitReaderModel", "isLine", "(I)Z"⟩, 28), (⟨"KnitReaderModel", "takesText", "(I)V"⟩, 28), (⟨"KnitReaderModel", "triesNow", "(I)V"⟩, 28), (⟨"KnitReaderModel", "hits", "(III)V"⟩, 28), (⟨"KnitReaderModel", "tries", "(II)V"⟩, 28), (⟨"KnitReaderModel", "works", "(I)V"⟩, 28), (⟨"KnitReaderModel", "end", "(I)I"⟩, 28), (⟨"KnitReaderModel", "once", "(IIII)V"⟩, 28), (⟨"KnitReaderModel", "tillLeft", "(IIII)V"⟩, 28), (⟨"KnitReaderModel", "stitches", "(IIII)V"⟩, 28), (⟨"KnitReaderModel", "tellsWhy", "(II)V"⟩, 28), (⟨"KnitReaderModel", "adds", "(III)V"⟩, 28), (⟨"KnitReaderModel", "done", "(I)V"⟩, 28), (⟨"KnitReaderModel", "rips", "(I)V"⟩, 28)]
theorem lw_r3 : ∀ q ∈ lw_privs_3, lw_okq q := List.forall_mem_cons.mpr ⟨lw_p32, List.forall_mem_cons.mpr ⟨lw_p33, List.forall_mem_cons.mpr ⟨lw_p34, List.forall_mem_cons.mpr ⟨lw_p35, List.forall_mem_cons.mpr ⟨lw_p36, List.forall_mem_cons.mpr ⟨lw_p37, List.forall_mem_cons.mpr ⟨lw_p38, List.forall_mem_cons.mpr ⟨lw_p39, List.forall_mem_cons.mpr ⟨lw_p40, List.forall_mem_cons.mpr ⟨lw_p41, List.forall_mem_cons.mpr ⟨lw_p42, List.forall_mem_cons.mpr ⟨lw_p43, List.forall_mem_cons.mpr ⟨lw_p44, List.forall_mem_cons.mpr ⟨lw_p45, List.forall_mem_cons.mpr ⟨lw_p46, List.forall_mem_cons.mpr ⟨lw_p47, fun _ h => absurd h List.not_mem_nil⟩⟩⟩⟩⟩⟩⟩⟩⟩⟩⟩⟩⟩⟩⟩⟩
theorem lw_p48 : lw_okq (⟨"KnitReaderModel", "yarnTried", "()I"⟩, 28) := ⟨⟨by decide +kernel, by decide +kernel⟩, List.mem_of_getElem? (i := 913) (by decide +kernel), List.mem_of_getElem? (i := 1165) (by decide +kernel), List.mem_of_getElem? (i := 1166) (by decide +kernel)⟩
theorem lw_p49 : lw_okq (⟨"KnitReaderModel", "isWorked", "(I)Z"⟩, 28) := ⟨⟨by decide +kernel, by decide +kernel⟩, List.mem_of_getElem? (i := 913) (by decide +kernel), List.mem_of_getElem? (i := 1193) (by decide +kernel), List.mem_of_getElem? (i := 1194) (by decide +kernel)⟩
theorem lw_p50 : lw_okq (⟨"KnitReaderModel", "sizeOf", "(I)I"⟩, 28) := ⟨⟨by decide +kernel, by decide +kernel⟩, List.mem_of_getElem? (i := 913) (by decide +kernel), List.mem_of_getElem? (i := 1198) (by decide +kernel), List.mem_of_getElem? (i := 1199) (by decide +kernel)⟩
theorem lw_p51 : lw_okq (⟨"KnitReaderModel", "counted", "(III)I"⟩, 28) := ⟨⟨by decide +kernel, by decide +kernel⟩, List.mem_of_getElem? (i := 913) (by decide +kernel), List.mem_of_getElem? (i := 1202) (by decide +kernel), List.mem_of_getElem? (i := 1203) (by decide +kernel)⟩
theorem lw_p52 : lw_okq (⟨"KnitReaderModel", "kind", "(II)I"⟩, 28) := ⟨⟨by decide +kernel, by decide +kernel⟩, List.mem_of_getElem? (i := 913) (by decide +kernel), List.mem_of_getElem? (i := 1206) (by decide +kernel), List.mem_of_getElem? (i := 1207) (by decide +kernel)⟩
theorem lw_p53 : lw_okq (⟨"KnitReaderModel", "charted", "(II)I"⟩, 28) := ⟨⟨by decide +kernel, by decide +kernel⟩, List.mem_of_getElem? (i := 913) (by decide +kernel), List.mem_of_getElem? (i := 1218) (by decide +kernel), List.mem_of_getElem? (i := 1219) (by decide +kernel)⟩
theorem lw_p54 : lw_okq (⟨"KnitReaderModel", "mirroredAt", "(II)I"⟩, 28) := ⟨⟨by decide +kernel, by decide +kernel⟩, List.mem_of_getElem? (i := 913) (by decide +kernel), List.mem_of_getElem? (i := 1243) (by decide +kernel), List.mem_of_getElem? (i := 1244) (by decide +kernel)⟩
theorem lw_p55 : lw_okq (⟨"KnitReaderModel", "madeBy", "(I)I"⟩, 28) := ⟨⟨by decide +kernel, by decide +kernel⟩, List.mem_of_getElem? (i := 913) (by decide +kernel), List.mem_of_getElem? (i := 1255) (by decide +kernel), List.mem_of_getElem? (i := 1256) (by decide +kernel)⟩
theorem lw_p56 : lw_okq (⟨"KnitReaderModel", "rooted", "(II)J"⟩, 28) := ⟨⟨by decide +kernel, by decide +kernel⟩, List.mem_of_getElem? (i := 913) (by decide +kernel), List.mem_of_getElem? (i := 1259) (by decide +kernel), List.mem_of_getElem? (i := 1260) (by decide +kernel)⟩
theorem lw_p57 : lw_okq (⟨"KnitReaderModel", "amiss", "(I)I"⟩, 28) := ⟨⟨by decide +kernel, by decide +kernel⟩, List.mem_of_getElem? (i := 913) (by decide +kernel), List.mem_of_getElem? (i := 1297) (by decide +kernel), List.mem_of_getElem? (i := 1298) (by decide +kernel)⟩
theorem lw_p58 : lw_okq (⟨"KnitReaderModel", "draw", "(I)I"⟩, 28) := ⟨⟨by decide +kernel, by decide +kernel⟩, List.mem_of_getElem? (i := 913) (by decide +kernel), List.mem_of_getElem? (i := 1329) (by decide +kernel), List.mem_of_getElem? (i := 1330) (by decide +kernel)⟩
def lw_privs_4 : List (MethodName × Nat) := [(⟨"KnitReaderModel", "yarnTried", "()I"⟩, 28), (⟨"KnitReaderModel", "isWorked", "(I)Z"⟩, 28), (⟨"KnitReaderModel", "sizeOf", "(I)I"⟩, 28), (⟨"KnitReaderModel", "counted", "(III)I"⟩, 28), (⟨"KnitReaderModel", "kind", "(II)I"⟩, 28), (⟨"KnitReaderModel", "charted", "(II)I"⟩, 28), (⟨"KnitReaderModel", "mirroredAt", "(II)I"⟩, 28), (⟨"KnitReaderModel", "madeBy", "(I)I"⟩, 28), (⟨"KnitReaderModel", "rooted", "(II)J"⟩, 28), (⟨"KnitReaderModel", "amiss", "(I)I"⟩, 28), (⟨"KnitReaderModel", "draw", "(I)I"⟩, 28)]
theorem lw_r4 : ∀ q ∈ lw_privs_4, lw_okq q := List.forall_mem_cons.mpr ⟨lw_p48, List.forall_mem_cons.mpr ⟨lw_p49, List.forall_mem_cons.mpr ⟨lw_p50, List.forall_mem_cons.mpr ⟨lw_p51, List.forall_mem_cons.mpr ⟨lw_p52, List.forall_mem_cons.mpr ⟨lw_p53, List.forall_mem_cons.mpr ⟨lw_p54, List.forall_mem_cons.mpr ⟨lw_p55, List.forall_mem_cons.mpr ⟨lw_p56, List.forall_mem_cons.mpr ⟨lw_p57, List.forall_mem_cons.mpr ⟨lw_p58, fun _ h => absurd h List.not_mem_nil⟩⟩⟩⟩⟩⟩⟩⟩⟩⟩⟩
def lw_privs : List (MethodName × Nat) := lw_privs_1 ++ (lw_privs_2 ++ (lw_privs_3 ++ (lw_privs_4)))
def lw_tbl : List Cond := k2_sels lw_privs ++ tables_1
theorem lw_privs_ok : ∀ q ∈ lw_privs, lw_okq q := by
  show ∀ q ∈ lw_privs_1 ++ (lw_privs_2 ++ (lw_privs_3 ++ (lw_privs_4))), lw_okq q
  exact List.forall_mem_append.mpr ⟨lw_r1, List.forall_mem_append.mpr ⟨lw_r2, List.forall_mem_append.mpr ⟨lw_r3, lw_r4⟩⟩⟩
end
section
/-! names: classes, fields, methods (printed by the program of the task) -/
def RX0 : String := "KnitReader$Chain"
def TX0 : u_T := fun k => match k with
  | 0 => ("KnitReader$Chain", "numbers", "[I", true)
  | _ => ("KnitReader$Chain", "links", "I", false)
def tyX0 : Nat → FieldType := fun k => match k with
  | 0 => .array .int
  | _ => .int
theorem nmX0 : ∀ a, a < 2 → ∀ b, b < 2 → a ≠ b → (TX0 a).2.1 ≠ (TX0 b).2.1 := by decide +kernel
theorem tyX0_ok : ∀ k, k < 2 → parseFieldDescriptor (TX0 k).2.2.1 = some (tyX0 k) := by decide +kernel
abbrev cX0_init : ByteArray := prog_2_method_1_code
def yX0_init : MethodName := ⟨RX0, "<init>", "()V"⟩
abbrev cX0_begin : ByteArray := prog_2_method_2_code
def yX0_begin : MethodName := ⟨RX0, "begin", "()V"⟩
abbrev cX0_addLink : ByteArray := prog_2_method_3_code
def yX0_addLink : MethodName := ⟨RX0, "addLink", "(III)V"⟩
abbrev cX0_hasNumber : ByteArray := prog_2_method_4_code
def yX0_hasNumber : MethodName := ⟨RX0, "hasNumber", "(II)Z"⟩
abbrev cX0_numberAt : ByteArray := prog_2_method_5_code
def yX0_numberAt : MethodName := ⟨RX0, "numberAt", "(II)I"⟩
def RX1 : String := "KnitReader$Done"
def TX1 : u_T := fun k => match k with
  | 0 => ("KnitReader$Done", "stitches", "LKnitReader$Stitches;", true)
  | 1 => ("KnitReader$Done", "side", "I", false)
  | _ => ("KnitReader$Done", "line", "I", false)
def tyX1 : Nat → FieldType := fun k => match k with
  | 0 => .object "KnitReader$Stitches"
  | 1 => .int
  | _ => .int
theorem nmX1 : ∀ a, a < 3 → ∀ b, b < 3 → a ≠ b → (TX1 a).2.1 ≠ (TX1 b).2.1 := by decide +kernel
theorem tyX1_ok : ∀ k, k < 3 → parseFieldDescriptor (TX1 k).2.2.1 = some (tyX1 k) := by decide +kernel
abbrev cX1_init : ByteArray := prog_3_method_1_code
def yX1_init : MethodName := ⟨RX1, "<init>", "()V"⟩
abbrev cX1_takeFrom : ByteArray := prog_3_method_2_code
def yX1_takeFrom : MethodName := ⟨RX1, "takeFrom", "(LKnitReader$Done;)V"⟩
abbrev cX1_chartAt : ByteArray := prog_3_method_3_code
def yX1_chartAt : MethodName := ⟨RX1, "chartAt", "(I)I"⟩
def RX2 : String := "KnitReader$Kinds"
def TX2 : u_T := fun k => match k with
  | _ => ("", "", "", false)
def tyX2 : Nat → FieldType := fun k => match k with
  | _ => .int
theorem nmX2 : ∀ a, a < 0 → ∀ b, b < 0 → a ≠ b → (TX2 a).2.1 ≠ (TX2 b).2.1 := by decide +kernel
theorem tyX2_ok : ∀ k, k < 0 → parseFieldDescriptor (TX2 k).2.2.1 = some (tyX2 k) := by decide +kernel
abbrev cX2_isKind : ByteArray := prog_4_method_2_code
def yX2_isKind : MethodName := ⟨RX2, "isKind", "(I)Z"⟩
abbrev cX2_takenBy : ByteArray := prog_4_method_3_code
def yX2_takenBy : MethodName := ⟨RX2, "takenBy", "(I)I"⟩
abbrev cX2_madeBy : ByteArray := prog_4_method_4_code
def yX2_madeBy : MethodName := ⟨RX2, "madeBy", "(I)I"⟩
abbrev cX2_yarnOf : ByteArray := prog_4_method_5_code
def yX2_yarnOf : MethodName := ⟨RX2, "yarnOf", "(I)I"⟩
abbrev cX2_isUnder : ByteArray := prog_4_method_6_code
def yX2_isUnder : MethodName := ⟨RX2, "isUnder", "(II)Z"⟩
abbrev cX2_mirroredTo : ByteArray := prog_4_method_7_code
def yX2_mirroredTo : MethodName := ⟨RX2, "mirroredTo", "(I)I"⟩
abbrev cX2_turnedTo : ByteArray := prog_4_method_8_code
def yX2_turnedTo : MethodName := ⟨RX2, "turnedTo", "(I)I"⟩
abbrev cX2_saying : ByteArray := prog_4_method_9_code
def yX2_saying : MethodName := ⟨RX2, "saying", "(II)I"⟩
abbrev cX2_wordOf : ByteArray := prog_4_method_10_code
def yX2_wordOf : MethodName := ⟨RX2, "wordOf", "(I)Ljava/lang/String;"⟩
def RX3 : String := "KnitReader$Line"
def TX3 : u_T := fun k => match k with
  | 0 => ("KnitReader$Line", "bytes", "[I", true)
  | 1 => ("KnitReader$Line", "sorts", "[I", true)
  | 2 => ("KnitReader$Line", "places", "[I", true)
  | 3 => ("KnitReader$Line", "numbers", "[I", true)
  | 4 => ("KnitReader$Line", "ends", "[I", true)
  | 5 => ("KnitReader$Line", "parts", "I", false)
  | 6 => ("KnitReader$Line", "deepest", "I", false)
  | 7 => ("KnitReader$Line", "hasTill", "Z", false)
  | 8 => ("KnitReader$Line", "at", "I", false)
  | _ => ("KnitReader$Line", "fault", "I", false)
def tyX3 : Nat → FieldType := fun k => match k with
  | 0 => .array .int
  | 1 => .array .int
  | 2 => .array .int
  | 3 => .array .int
  | 4 => .array .int
  | 5 => .int
  | 6 => .int
  | 7 => .boolean
  | 8 => .int
  | _ => .int
theorem nmX3 : ∀ a, a < 10 → ∀ b, b < 10 → a ≠ b → (TX3 a).2.1 ≠ (TX3 b).2.1 := by decide +kernel
theorem tyX3_ok : ∀ k, k < 10 → parseFieldDescriptor (TX3 k).2.2.1 = some (tyX3 k) := by decide +kernel
abbrev cX3_init : ByteArray := prog_5_method_1_code
def yX3_init : MethodName := ⟨RX3, "<init>", "([II)V"⟩
abbrev cX3_size : ByteArray := prog_5_method_2_code
def yX3_size : MethodName := ⟨RX3, "size", "()I"⟩
abbrev cX3_byteAt : ByteArray := prog_5_method_3_code
def yX3_byteAt : MethodName := ⟨RX3, "byteAt", "(I)I"⟩
abbrev cX3_sortOf : ByteArray := prog_5_method_4_code
def yX3_sortOf : MethodName := ⟨RX3, "sortOf", "(I)I"⟩
abbrev cX3_placeOf : ByteArray := prog_5_method_5_code
def yX3_placeOf : MethodName := ⟨RX3, "placeOf", "(I)I"⟩
abbrev cX3_numberOf : ByteArray := prog_5_method_6_code
def yX3_numberOf : MethodName := ⟨RX3, "numberOf", "(I)I"⟩
abbrev cX3_endOf : ByteArray := prog_5_method_7_code
def yX3_endOf : MethodName := ⟨RX3, "endOf", "(I)I"⟩
abbrev cX3_readText : ByteArray := prog_5_method_8_code
def yX3_readText : MethodName := ⟨RX3, "readText", "()V"⟩
abbrev cX3_readParts : ByteArray := prog_5_method_9_code
def yX3_readParts : MethodName := ⟨RX3, "readParts", "(I)V"⟩
abbrev cX3_readPart : ByteArray := prog_5_method_10_code
def yX3_readPart : MethodName := ⟨RX3, "readPart", "(I)V"⟩
abbrev cX3_readWord : ByteArray := prog_5_method_11_code
def yX3_readWord : MethodName := ⟨RX3, "readWord", "(I)V"⟩
abbrev cX3_readGroup : ByteArray := prog_5_method_12_code
def yX3_readGroup : MethodName := ⟨RX3, "readGroup", "(IIII)V"⟩
abbrev cX3_readNumber : ByteArray := prog_5_method_13_code
def yX3_readNumber : MethodName := ⟨RX3, "readNumber", "(I)I"⟩
abbrev cX3_openPart : ByteArray := prog_5_method_14_code
def yX3_openPart : MethodName := ⟨RX3, "openPart", "(III)I"⟩
abbrev cX3_closePart : ByteArray := prog_5_method_15_code
def yX3_closePart : MethodName := ⟨RX3, "closePart", "(II)V"⟩
abbrev cX3_kindSpelled : ByteArray := prog_5_method_16_code
def yX3_kindSpelled : MethodName := ⟨RX3, "kindSpelled", "(II)I"⟩
abbrev cX3_isSpelled : ByteArray := prog_5_method_17_code
def yX3_isSpelled : MethodName := ⟨RX3, "isSpelled", "(Ljava/lang/String;II)Z"⟩
abbrev cX3_isLetter : ByteArray := prog_5_method_18_code
def yX3_isLetter : MethodName := ⟨RX3, "isLetter", "(I)Z"⟩
abbrev cX3_isDigit : ByteArray := prog_5_method_19_code
def yX3_isDigit : MethodName := ⟨RX3, "isDigit", "(I)Z"⟩
def RX4 : String := "KnitReader$Pass"
def TX4 : u_T := fun k => match k with
  | 0 => ("KnitReader$Pass", "stitches", "LKnitReader$Stitches;", true)
  | 1 => ("KnitReader$Pass", "groupPlaces", "[I", true)
  | 2 => ("KnitReader$Pass", "groupTimes", "[I", true)
  | 3 => ("KnitReader$Pass", "left", "I", false)
  | 4 => ("KnitReader$Pass", "made", "I", false)
  | 5 => ("KnitReader$Pass", "hitch", "I", false)
  | 6 => ("KnitReader$Pass", "hitchPlace", "I", false)
  | _ => ("KnitReader$Pass", "within", "I", false)
def tyX4 : Nat → FieldType := fun k => match k with
  | 0 => .object "KnitReader$Stitches"
  | 1 => .array .int
  | 2 => .array .int
  | 3 => .int
  | 4 => .int
  | 5 => .int
  | 6 => .int
  | _ => .int
theorem nmX4 : ∀ a, a < 8 → ∀ b, b < 8 → a ≠ b → (TX4 a).2.1 ≠ (TX4 b).2.1 := by decide +kernel
theorem tyX4_ok : ∀ k, k < 8 → parseFieldDescriptor (TX4 k).2.2.1 = some (tyX4 k) := by decide +kernel
abbrev cX4_init : ByteArray := prog_6_method_1_code
def yX4_init : MethodName := ⟨RX4, "<init>", "()V"⟩
abbrev cX4_isHitched : ByteArray := prog_6_method_2_code
def yX4_isHitched : MethodName := ⟨RX4, "isHitched", "()Z"⟩
abbrev cX4_groupPlaceAt : ByteArray := prog_6_method_3_code
def yX4_groupPlaceAt : MethodName := ⟨RX4, "groupPlaceAt", "(I)I"⟩
abbrev cX4_groupTimeAt : ByteArray := prog_6_method_4_code
def yX4_groupTimeAt : MethodName := ⟨RX4, "groupTimeAt", "(I)I"⟩
abbrev cX4_stopFilled : ByteArray := prog_6_method_5_code
def yX4_stopFilled : MethodName := ⟨RX4, "stopFilled", "(I)V"⟩
abbrev cX4_workLine : ByteArray := prog_6_method_6_code
def yX4_workLine : MethodName := ⟨RX4, "workLine", "(LKnitReader$Line;I)V"⟩
abbrev cX4_begin : ByteArray := prog_6_method_7_code
def yX4_begin : MethodName := ⟨RX4, "begin", "(I)V"⟩
abbrev cX4_stop : ByteArray := prog_6_method_8_code
def yX4_stop : MethodName := ⟨RX4, "stop", "(III)V"⟩
abbrev cX4_workParts : ByteArray := prog_6_method_9_code
def yX4_workParts : MethodName := ⟨RX4, "workParts", "(LKnitReader$Line;III)V"⟩
abbrev cX4_workTimes : ByteArray := prog_6_method_10_code
def yX4_workTimes : MethodName := ⟨RX4, "workTimes", "(LKnitReader$Line;II)V"⟩
abbrev cX4_workTill : ByteArray := prog_6_method_11_code
def yX4_workTill : MethodName := ⟨RX4, "workTill", "(LKnitReader$Line;II)V"⟩
abbrev cX4_enter : ByteArray := prog_6_method_12_code
def yX4_enter : MethodName := ⟨RX4, "enter", "(III)V"⟩
abbrev cX4_workWord : ByteArray := prog_6_method_13_code
def yX4_workWord : MethodName := ⟨RX4, "workWord", "(LKnitReader$Line;II)V"⟩
abbrev cX4_hitchOf : ByteArray := prog_6_method_14_code
def yX4_hitchOf : MethodName := ⟨RX4, "hitchOf", "(II)I"⟩
def RX5 : String := "KnitReader$Shelf"
def TX5 : u_T := fun k => match k with
  | 0 => ("KnitReader$Shelf", "elements", "[J", true)
  | 1 => ("KnitReader$Shelf", "held", "I", false)
  | _ => ("KnitReader$Shelf", "size", "I", false)
def tyX5 : Nat → FieldType := fun k => match k with
  | 0 => .array .long
  | 1 => .int
  | _ => .int
theorem nmX5 : ∀ a, a < 3 → ∀ b, b < 3 → a ≠ b → (TX5 a).2.1 ≠ (TX5 b).2.1 := by decide +kernel
theorem tyX5_ok : ∀ k, k < 3 → parseFieldDescriptor (TX5 k).2.2.1 = some (tyX5 k) := by decide +kernel
abbrev cX5_init : ByteArray := prog_7_method_1_code
def yX5_init : MethodName := ⟨RX5, "<init>", "()V"⟩
abbrev cX5_isSort : ByteArray := prog_7_method_2_code
def yX5_isSort : MethodName := ⟨RX5, "isSort", "(I)Z"⟩
abbrev cX5_isBare : ByteArray := prog_7_method_3_code
def yX5_isBare : MethodName := ⟨RX5, "isBare", "()Z"⟩
abbrev cX5_hasRow : ByteArray := prog_7_method_4_code
def yX5_hasRow : MethodName := ⟨RX5, "hasRow", "()Z"⟩
abbrev cX5_hasStitch : ByteArray := prog_7_method_5_code
def yX5_hasStitch : MethodName := ⟨RX5, "hasStitch", "()Z"⟩
abbrev cX5_stitchKind : ByteArray := prog_7_method_6_code
def yX5_stitchKind : MethodName := ⟨RX5, "stitchKind", "()I"⟩
abbrev cX5_putNothing : ByteArray := prog_7_method_7_code
def yX5_putNothing : MethodName := ⟨RX5, "putNothing", "()V"⟩
abbrev cX5_putStitch : ByteArray := prog_7_method_8_code
def yX5_putStitch : MethodName := ⟨RX5, "putStitch", "(I)V"⟩
abbrev cX5_putRow : ByteArray := prog_7_method_9_code
def yX5_putRow : MethodName := ⟨RX5, "putRow", "(II)V"⟩
abbrev cX5_hasElement : ByteArray := prog_7_method_10_code
def yX5_hasElement : MethodName := ⟨RX5, "hasElement", "(I)Z"⟩
abbrev cX5_putElement : ByteArray := prog_7_method_11_code
def yX5_putElement : MethodName := ⟨RX5, "putElement", "(IJ)Z"⟩
abbrev cX5_elementAt : ByteArray := prog_7_method_12_code
def yX5_elementAt : MethodName := ⟨RX5, "elementAt", "(I)J"⟩
abbrev cX5_giveElements : ByteArray := prog_7_method_13_code
def yX5_giveElements : MethodName := ⟨RX5, "giveElements", "(ILKnitReader$Shelf;II)Z"⟩
abbrev cX5_lowestBits : ByteArray := prog_7_method_14_code
def yX5_lowestBits : MethodName := ⟨RX5, "lowestBits", "(J)J"⟩
def RX6 : String := "KnitReader$State"
def TX6 : u_T := fun k => match k with
  | 0 => ("KnitReader$State", "lines", "[LKnitReader$Line;", true)
  | 1 => ("KnitReader$State", "rows", "[LKnitReader$Done;", true)
  | 2 => ("KnitReader$State", "lineCount", "I", false)
  | 3 => ("KnitReader$State", "doneCount", "I", false)
  | 4 => ("KnitReader$State", "needle", "I", false)
  | 5 => ("KnitReader$State", "side", "I", false)
  | 6 => ("KnitReader$State", "mode", "I", false)
  | _ => ("KnitReader$State", "seed", "I", false)
def tyX6 : Nat → FieldType := fun k => match k with
  | 0 => .array (.object "KnitReader$Line")
  | 1 => .array (.object "KnitReader$Done")
  | 2 => .int
  | 3 => .int
  | 4 => .int
  | 5 => .int
  | 6 => .int
  | _ => .int
theorem nmX6 : ∀ a, a < 8 → ∀ b, b < 8 → a ≠ b → (TX6 a).2.1 ≠ (TX6 b).2.1 := by decide +kernel
theorem tyX6_ok : ∀ k, k < 8 → parseFieldDescriptor (TX6 k).2.2.1 = some (tyX6 k) := by decide +kernel
abbrev cX6_init : ByteArray := prog_8_method_1_code
def yX6_init : MethodName := ⟨RX6, "<init>", "()V"⟩
abbrev cX6_takeFrom : ByteArray := prog_8_method_2_code
def yX6_takeFrom : MethodName := ⟨RX6, "takeFrom", "(LKnitReader$State;)V"⟩
abbrev cX6_lineAt : ByteArray := prog_8_method_3_code
def yX6_lineAt : MethodName := ⟨RX6, "lineAt", "(I)LKnitReader$Line;"⟩
abbrev cX6_doneAt : ByteArray := prog_8_method_4_code
def yX6_doneAt : MethodName := ⟨RX6, "doneAt", "(I)LKnitReader$Done;"⟩
abbrev cX6_isSpan : ByteArray := prog_8_method_5_code
def yX6_isSpan : MethodName := ⟨RX6, "isSpan", "(II)Z"⟩
abbrev cX6_addLine : ByteArray := prog_8_method_6_code
def yX6_addLine : MethodName := ⟨RX6, "addLine", "(LKnitReader$Line;)Z"⟩
abbrev cX6_dropLine : ByteArray := prog_8_method_7_code
def yX6_dropLine : MethodName := ⟨RX6, "dropLine", "()Z"⟩
abbrev cX6_addDone : ByteArray := prog_8_method_8_code
def yX6_addDone : MethodName := ⟨RX6, "addDone", "(LKnitReader$Pass;I)Z"⟩
abbrev cX6_ripBack : ByteArray := prog_8_method_9_code
def yX6_ripBack : MethodName := ⟨RX6, "ripBack", "(I)V"⟩
abbrev cX6_placesAtFirst : ByteArray := prog_8_method_10_code
def yX6_placesAtFirst : MethodName := ⟨RX6, "placesAtFirst", "(I)J"⟩
abbrev cX6_turnedAbout : ByteArray := prog_8_method_11_code
def yX6_turnedAbout : MethodName := ⟨RX6, "turnedAbout", "(JI)J"⟩
abbrev cX6_drawBelow : ByteArray := prog_8_method_12_code
def yX6_drawBelow : MethodName := ⟨RX6, "drawBelow", "(I)I"⟩
def RX7 : String := "KnitReader$Stitches"
def TX7 : u_T := fun k => match k with
  | 0 => ("KnitReader$Stitches", "kinds", "[I", true)
  | _ => ("KnitReader$Stitches", "size", "I", false)
def tyX7 : Nat → FieldType := fun k => match k with
  | 0 => .array .int
  | _ => .int
theorem nmX7 : ∀ a, a < 2 → ∀ b, b < 2 → a ≠ b → (TX7 a).2.1 ≠ (TX7 b).2.1 := by decide +kernel
theorem tyX7_ok : ∀ k, k < 2 → parseFieldDescriptor (TX7 k).2.2.1 = some (tyX7 k) := by decide +kernel
abbrev cX7_init : ByteArray := prog_9_method_1_code
def yX7_init : MethodName := ⟨RX7, "<init>", "()V"⟩
abbrev cX7_takeFrom : ByteArray := prog_9_method_2_code
def yX7_takeFrom : MethodName := ⟨RX7, "takeFrom", "(LKnitReader$Stitches;)V"⟩
abbrev cX7_addKind : ByteArray := prog_9_method_3_code
def yX7_addKind : MethodName := ⟨RX7, "addKind", "(I)V"⟩
abbrev cX7_hasPlace : ByteArray := prog_9_method_4_code
def yX7_hasPlace : MethodName := ⟨RX7, "hasPlace", "(I)Z"⟩
abbrev cX7_kindAt : ByteArray := prog_9_method_5_code
def yX7_kindAt : MethodName := ⟨RX7, "kindAt", "(I)I"⟩
abbrev cX7_takenAhead : ByteArray := prog_9_method_6_code
def yX7_takenAhead : MethodName := ⟨RX7, "takenAhead", "(I)I"⟩
abbrev cX7_madeAhead : ByteArray := prog_9_method_7_code
def yX7_madeAhead : MethodName := ⟨RX7, "madeAhead", "(I)I"⟩
abbrev cX7_yarnUsed : ByteArray := prog_9_method_8_code
def yX7_yarnUsed : MethodName := ⟨RX7, "yarnUsed", "()I"⟩
abbrev cX7_countUnder : ByteArray := prog_9_method_9_code
def yX7_countUnder : MethodName := ⟨RX7, "countUnder", "(I)I"⟩
abbrev cX7_mirroredAt : ByteArray := prog_9_method_10_code
def yX7_mirroredAt : MethodName := ⟨RX7, "mirroredAt", "(I)I"⟩
abbrev cX7_isEven : ByteArray := prog_9_method_11_code
def yX7_isEven : MethodName := ⟨RX7, "isEven", "()Z"⟩
abbrev cX7_smallestPart : ByteArray := prog_9_method_12_code
def yX7_smallestPart : MethodName := ⟨RX7, "smallestPart", "()I"⟩
abbrev cX7_comesAgain : ByteArray := prog_9_method_13_code
def yX7_comesAgain : MethodName := ⟨RX7, "comesAgain", "(I)Z"⟩
abbrev cX7_shorthandAt : ByteArray := prog_9_method_14_code
def yX7_shorthandAt : MethodName := ⟨RX7, "shorthandAt", "(I)I"⟩
abbrev cX7_runLength : ByteArray := prog_9_method_15_code
def yX7_runLength : MethodName := ⟨RX7, "runLength", "(I)I"⟩
abbrev cX7_digitsOf : ByteArray := prog_9_method_16_code
def yX7_digitsOf : MethodName := ⟨RX7, "digitsOf", "(I)I"⟩
abbrev cX7_digitAt : ByteArray := prog_9_method_17_code
def yX7_digitAt : MethodName := ⟨RX7, "digitAt", "(II)I"⟩
abbrev cX7_rootsOf : ByteArray := prog_9_method_18_code
def yX7_rootsOf : MethodName := ⟨RX7, "rootsOf", "(J)J"⟩
def RX8 : String := "KnitReader"
def TX8 : u_T := fun k => match k with
  | 0 => ("KnitReader", "now", "LKnitReader$State;", true)
  | 1 => ("KnitReader", "kept", "LKnitReader$State;", true)
  | 2 => ("KnitReader", "isKept", "Z", false)
  | 3 => ("KnitReader", "tape", "[I", true)
  | 4 => ("KnitReader", "tapeSize", "I", false)
  | 5 => ("KnitReader", "shelves", "[LKnitReader$Shelf;", true)
  | 6 => ("KnitReader", "pass", "LKnitReader$Pass;", true)
  | 7 => ("KnitReader", "latest", "LKnitReader$Chain;", true)
  | _ => ("KnitReader", "refusals", "[I", true)
def tyX8 : Nat → FieldType := fun k => match k with
  | 0 => .object "KnitReader$State"
  | 1 => .object "KnitReader$State"
  | 2 => .boolean
  | 3 => .array .int
  | 4 => .int
  | 5 => .array (.object "KnitReader$Shelf")
  | 6 => .object "KnitReader$Pass"
  | 7 => .object "KnitReader$Chain"
  | _ => .array .int
theorem nmX8 : ∀ a, a < 9 → ∀ b, b < 9 → a ≠ b → (TX8 a).2.1 ≠ (TX8 b).2.1 := by decide +kernel
theorem tyX8_ok : ∀ k, k < 9 → parseFieldDescriptor (TX8 k).2.2.1 = some (tyX8 k) := by decide +kernel
abbrev cX8_init : ByteArray := prog_1_method_1_code
def yX8_init : MethodName := ⟨RX8, "<init>", "()V"⟩
abbrev cX8_row : ByteArray := prog_1_method_2_code
def yX8_row : MethodName := ⟨RX8, "row", "(III)I"⟩
abbrev cX8_set : ByteArray := prog_1_method_3_code
def yX8_set : MethodName := ⟨RX8, "set", "(IIJ)I"⟩
abbrev cX8_copy : ByteArray := prog_1_method_4_code
def yX8_copy : MethodName := ⟨RX8, "copy", "(IIIII)I"⟩
abbrev cX8_element : ByteArray := prog_1_method_5_code
def yX8_element : MethodName := ⟨RX8, "element", "(II)J"⟩
abbrev cX8_holds : ByteArray := prog_1_method_6_code
def yX8_holds : MethodName := ⟨RX8, "holds", "(I)I"⟩
abbrev cX8_show : ByteArray := prog_1_method_7_code
def yX8_show : MethodName := ⟨RX8, "show", "(III)I"⟩
abbrev cX8_says : ByteArray := prog_1_method_8_code
def yX8_says : MethodName := ⟨RX8, "says", "(II)I"⟩
abbrev cX8_feed : ByteArray := prog_1_method_9_code
def yX8_feed : MethodName := ⟨RX8, "feed", "(I)I"⟩
abbrev cX8_wipe : ByteArray := prog_1_method_10_code
def yX8_wipe : MethodName := ⟨RX8, "wipe", "()I"⟩
abbrev cX8_line : ByteArray := prog_1_method_11_code
def yX8_line : MethodName := ⟨RX8, "line", "()I"⟩
abbrev cX8_drop : ByteArray := prog_1_method_12_code
def yX8_drop : MethodName := ⟨RX8, "drop", "()I"⟩
abbrev cX8_lineOf : ByteArray := prog_1_method_13_code
def yX8_lineOf : MethodName := ⟨RX8, "lineOf", "(II)I"⟩
abbrev cX8_text : ByteArray := prog_1_method_14_code
def yX8_text : MethodName := ⟨RX8, "text", "(II)I"⟩
abbrev cX8_mode : ByteArray := prog_1_method_15_code
def yX8_mode : MethodName := ⟨RX8, "mode", "(I)I"⟩
abbrev cX8_cast : ByteArray := prog_1_method_16_code
def yX8_cast : MethodName := ⟨RX8, "cast", "(I)I"⟩
abbrev cX8_work : ByteArray := prog_1_method_17_code
def yX8_work : MethodName := ⟨RX8, "work", "(I)I"⟩
abbrev cX8_run : ByteArray := prog_1_method_18_code
def yX8_run : MethodName := ⟨RX8, "run", "(III)I"⟩
abbrev cX8_rip : ByteArray := prog_1_method_19_code
def yX8_rip : MethodName := ⟨RX8, "rip", "(I)I"⟩
abbrev cX8_causes : ByteArray := prog_1_method_20_code
def yX8_causes : MethodName := ⟨RX8, "causes", "()I"⟩
abbrev cX8_why : ByteArray := prog_1_method_21_code
def yX8_why : MethodName := ⟨RX8, "why", "(II)I"⟩
abbrev cX8_would : ByteArray := prog_1_method_22_code
def yX8_would : MethodName := ⟨RX8, "would", "(III)I"⟩
abbrev cX8_hitch : ByteArray := prog_1_method_23_code
def yX8_hitch : MethodName := ⟨RX8, "hitch", "(II)I"⟩
abbrev cX8_fits : ByteArray := prog_1_method_24_code
def yX8_fits : MethodName := ⟨RX8, "fits", "(I)J"⟩
abbrev cX8_least : ByteArray := prog_1_method_25_code
def yX8_least : MethodName := ⟨RX8, "least", "()I"⟩
abbrev cX8_times : ByteArray := prog_1_method_26_code
def yX8_times : MethodName := ⟨RX8, "times", "(II)I"⟩
abbrev cX8_workedOf : ByteArray := prog_1_method_27_code
def yX8_workedOf : MethodName := ⟨RX8, "workedOf", "(II)I"⟩
abbrev cX8_stitch : ByteArray := prog_1_method_28_code
def yX8_stitch : MethodName := ⟨RX8, "stitch", "(III)I"⟩
abbrev cX8_chart : ByteArray := prog_1_method_29_code
def yX8_chart : MethodName := ⟨RX8, "chart", "(II)I"⟩
abbrev cX8_shorthand : ByteArray := prog_1_method_30_code
def yX8_shorthand : MethodName := ⟨RX8, "shorthand", "(II)I"⟩
abbrev cX8_unit : ByteArray := prog_1_method_31_code
def yX8_unit : MethodName := ⟨RX8, "unit", "(I)I"⟩
abbrev cX8_mirrored : ByteArray := prog_1_method_32_code
def yX8_mirrored : MethodName := ⟨RX8, "mirrored", "(II)I"⟩
abbrev cX8_even : ByteArray := prog_1_method_33_code
def yX8_even : MethodName := ⟨RX8, "even", "(I)I"⟩
abbrev cX8_roots : ByteArray := prog_1_method_34_code
def yX8_roots : MethodName := ⟨RX8, "roots", "(II)J"⟩
abbrev cX8_origin : ByteArray := prog_1_method_35_code
def yX8_origin : MethodName := ⟨RX8, "origin", "(I)J"⟩
abbrev cX8_yarn : ByteArray := prog_1_method_36_code
def yX8_yarn : MethodName := ⟨RX8, "yarn", "()J"⟩
abbrev cX8_many : ByteArray := prog_1_method_37_code
def yX8_many : MethodName := ⟨RX8, "many", "(I)I"⟩
abbrev cX8_differ : ByteArray := prog_1_method_38_code
def yX8_differ : MethodName := ⟨RX8, "differ", "(II)I"⟩
abbrev cX8_judge : ByteArray := prog_1_method_39_code
def yX8_judge : MethodName := ⟨RX8, "judge", "(III)I"⟩
abbrev cX8_days : ByteArray := prog_1_method_40_code
def yX8_days : MethodName := ⟨RX8, "days", "(I)I"⟩
abbrev cX8_seed : ByteArray := prog_1_method_41_code
def yX8_seed : MethodName := ⟨RX8, "seed", "(I)I"⟩
abbrev cX8_image : ByteArray := prog_1_method_42_code
def yX8_image : MethodName := ⟨RX8, "image", "()I"⟩
abbrev cX8_back : ByteArray := prog_1_method_43_code
def yX8_back : MethodName := ⟨RX8, "back", "()I"⟩
abbrev cX8_status : ByteArray := prog_1_method_44_code
def yX8_status : MethodName := ⟨RX8, "status", "(I)I"⟩
abbrev cX8_refuse : ByteArray := prog_1_method_45_code
def yX8_refuse : MethodName := ⟨RX8, "refuse", "(I)I"⟩
abbrev cX8_refuseLong : ByteArray := prog_1_method_46_code
def yX8_refuseLong : MethodName := ⟨RX8, "refuseLong", "(I)J"⟩
abbrev cX8_refusalsOf : ByteArray := prog_1_method_47_code
def yX8_refusalsOf : MethodName := ⟨RX8, "refusalsOf", "(I)I"⟩
abbrev cX8_shelfAt : ByteArray := prog_1_method_48_code
def yX8_shelfAt : MethodName := ⟨RX8, "shelfAt", "(I)LKnitReader$Shelf;"⟩
abbrev cX8_shelvesInUse : ByteArray := prog_1_method_49_code
def yX8_shelvesInUse : MethodName := ⟨RX8, "shelvesInUse", "()I"⟩
abbrev cX8_workInTruth : ByteArray := prog_1_method_50_code
def yX8_workInTruth : MethodName := ⟨RX8, "workInTruth", "(LKnitReader$Line;I)Z"⟩
abbrev cX8_keepWhy : ByteArray := prog_1_method_51_code
def yX8_keepWhy : MethodName := ⟨RX8, "keepWhy", "(I)V"⟩
abbrev cX8_countBehind : ByteArray := prog_1_method_52_code
def yX8_countBehind : MethodName := ⟨RX8, "countBehind", "(III)I"⟩
def RX9 : String := "KnitReaderModel"
def TX9 : u_T := fun k => match k with
  | 0 => ("KnitReaderModel", "refused", "[I", true)
  | 1 => ("KnitReaderModel", "now", "[I", true)
  | 2 => ("KnitReaderModel", "then", "[I", true)
  | 3 => ("KnitReaderModel", "kept", "Z", false)
  | 4 => ("KnitReaderModel", "tape", "[I", true)
  | 5 => ("KnitReaderModel", "length", "I", false)
  | 6 => ("KnitReaderModel", "text", "[I", true)
  | 7 => ("KnitReaderModel", "size", "I", false)
  | 8 => ("KnitReaderModel", "at", "I", false)
  | 9 => ("KnitReaderModel", "well", "Z", false)
  | 10 => ("KnitReaderModel", "parts", "I", false)
  | 11 => ("KnitReaderModel", "deepest", "I", false)
  | 12 => ("KnitReaderModel", "tills", "Z", false)
  | 13 => ("KnitReaderModel", "left", "I", false)
  | 14 => ("KnitReaderModel", "made", "I", false)
  | 15 => ("KnitReaderModel", "many", "I", false)
  | 16 => ("KnitReaderModel", "kinds", "[I", true)
  | 17 => ("KnitReaderModel", "hitch", "I", false)
  | 18 => ("KnitReaderModel", "hitchAt", "I", false)
  | 19 => ("KnitReaderModel", "inAt", "[I", true)
  | 20 => ("KnitReaderModel", "inTime", "[I", true)
  | 21 => ("KnitReaderModel", "ins", "I", false)
  | 22 => ("KnitReaderModel", "links", "[I", true)
  | 23 => ("KnitReaderModel", "causes", "I", false)
  | 24 => ("KnitReaderModel", "holding", "[I", true)
  | 25 => ("KnitReaderModel", "sizes", "[I", true)
  | 26 => ("KnitReaderModel", "items", "[J", true)
  | _ => ("KnitReaderModel", "moved", "[J", true)
def tyX9 : Nat → FieldType := fun k => match k with
  | 0 => .array .int
  | 1 => .array .int
  | 2 => .array .int
  | 3 => .boolean
  | 4 => .array .int
  | 5 => .int
  | 6 => .array .int
  | 7 => .int
  | 8 => .int
  | 9 => .boolean
  | 10 => .int
  | 11 => .int
  | 12 => .boolean
  | 13 => .int
  | 14 => .int
  | 15 => .int
  | 16 => .array .int
  | 17 => .int
  | 18 => .int
  | 19 => .array .int
  | 20 => .array .int
  | 21 => .int
  | 22 => .array .int
  | 23 => .int
  | 24 => .array .int
  | 25 => .array .int
  | 26 => .array .long
  | _ => .array .long
theorem nmX9 : ∀ a, a < 28 → ∀ b, b < 28 → a ≠ b → (TX9 a).2.1 ≠ (TX9 b).2.1 := by decide +kernel
theorem tyX9_ok : ∀ k, k < 28 → parseFieldDescriptor (TX9 k).2.2.1 = some (tyX9 k) := by decide +kernel
abbrev cX9_isIn : ByteArray := prog_11_method_1_code
def yX9_isIn : MethodName := ⟨RX9, "isIn", "(JJJ)Z"⟩
abbrev cX9_refuses : ByteArray := prog_11_method_2_code
def yX9_refuses : MethodName := ⟨RX9, "refuses", "(I)I"⟩
abbrev cX9_init : ByteArray := prog_11_method_3_code
def yX9_init : MethodName := ⟨RX9, "<init>", "()V"⟩
abbrev cX9_pours : ByteArray := prog_11_method_4_code
def yX9_pours : MethodName := ⟨RX9, "pours", "([I[I)V"⟩
abbrev cX9_takes : ByteArray := prog_11_method_5_code
def yX9_takes : MethodName := ⟨RX9, "takes", "(I)I"⟩
abbrev cX9_makes : ByteArray := prog_11_method_6_code
def yX9_makes : MethodName := ⟨RX9, "makes", "(I)I"⟩
abbrev cX9_yarnOf : ByteArray := prog_11_method_7_code
def yX9_yarnOf : MethodName := ⟨RX9, "yarnOf", "(I)I"⟩
abbrev cX9_mirror : ByteArray := prog_11_method_8_code
def yX9_mirror : MethodName := ⟨RX9, "mirror", "(I)I"⟩
abbrev cX9_turn : ByteArray := prog_11_method_9_code
def yX9_turn : MethodName := ⟨RX9, "turn", "(I)I"⟩
abbrev cX9_isUnder : ByteArray := prog_11_method_10_code
def yX9_isUnder : MethodName := ⟨RX9, "isUnder", "(II)Z"⟩
abbrev cX9_kindOf : ByteArray := prog_11_method_11_code
def yX9_kindOf : MethodName := ⟨RX9, "kindOf", "(II)I"⟩
abbrev cX9_letter : ByteArray := prog_11_method_12_code
def yX9_letter : MethodName := ⟨RX9, "letter", "(II)I"⟩
abbrev cX9_feed : ByteArray := prog_11_method_13_code
def yX9_feed : MethodName := ⟨RX9, "feed", "(I)I"⟩
abbrev cX9_wipe : ByteArray := prog_11_method_14_code
def yX9_wipe : MethodName := ⟨RX9, "wipe", "()I"⟩
abbrev cX9_peek : ByteArray := prog_11_method_15_code
def yX9_peek : MethodName := ⟨RX9, "peek", "()I"⟩
abbrev cX9_isFigure : ByteArray := prog_11_method_16_code
def yX9_isFigure : MethodName := ⟨RX9, "isFigure", "(I)Z"⟩
abbrev cX9_number : ByteArray := prog_11_method_17_code
def yX9_number : MethodName := ⟨RX9, "number", "(II)I"⟩
abbrev cX9_word : ByteArray := prog_11_method_18_code
def yX9_word : MethodName := ⟨RX9, "word", "()I"⟩
abbrev cX9_reads : ByteArray := prog_11_method_19_code
def yX9_reads : MethodName := ⟨RX9, "reads", "(I)V"⟩
abbrev cX9_readsAll : ByteArray := prog_11_method_20_code
def yX9_readsAll : MethodName := ⟨RX9, "readsAll", "()V"⟩
abbrev cX9_takesText : ByteArray := prog_11_method_21_code
def yX9_takesText : MethodName := ⟨RX9, "takesText", "(I)V"⟩
abbrev cX9_isLine : ByteArray := prog_11_method_22_code
def yX9_isLine : MethodName := ⟨RX9, "isLine", "(I)Z"⟩
abbrev cX9_line : ByteArray := prog_11_method_23_code
def yX9_line : MethodName := ⟨RX9, "line", "()I"⟩
abbrev cX9_drop : ByteArray := prog_11_method_24_code
def yX9_drop : MethodName := ⟨RX9, "drop", "()I"⟩
abbrev cX9_lineOf : ByteArray := prog_11_method_25_code
def yX9_lineOf : MethodName := ⟨RX9, "lineOf", "(II)I"⟩
abbrev cX9_text : ByteArray := prog_11_method_26_code
def yX9_text : MethodName := ⟨RX9, "text", "(II)I"⟩
abbrev cX9_hits : ByteArray := prog_11_method_27_code
def yX9_hits : MethodName := ⟨RX9, "hits", "(III)V"⟩
abbrev cX9_end : ByteArray := prog_11_method_28_code
def yX9_end : MethodName := ⟨RX9, "end", "(I)I"⟩
abbrev cX9_stitches : ByteArray := prog_11_method_29_code
def yX9_stitches : MethodName := ⟨RX9, "stitches", "(IIII)V"⟩
abbrev cX9_once : ByteArray := prog_11_method_30_code
def yX9_once : MethodName := ⟨RX9, "once", "(IIII)V"⟩
abbrev cX9_works : ByteArray := prog_11_method_31_code
def yX9_works : MethodName := ⟨RX9, "works", "(I)V"⟩
abbrev cX9_tillLeft : ByteArray := prog_11_method_32_code
def yX9_tillLeft : MethodName := ⟨RX9, "tillLeft", "(IIII)V"⟩
abbrev cX9_tries : ByteArray := prog_11_method_33_code
def yX9_tries : MethodName := ⟨RX9, "tries", "(II)V"⟩
abbrev cX9_triesNow : ByteArray := prog_11_method_34_code
def yX9_triesNow : MethodName := ⟨RX9, "triesNow", "(I)V"⟩
abbrev cX9_done : ByteArray := prog_11_method_35_code
def yX9_done : MethodName := ⟨RX9, "done", "(I)V"⟩
abbrev cX9_adds : ByteArray := prog_11_method_36_code
def yX9_adds : MethodName := ⟨RX9, "adds", "(III)V"⟩
abbrev cX9_tellsWhy : ByteArray := prog_11_method_37_code
def yX9_tellsWhy : MethodName := ⟨RX9, "tellsWhy", "(II)V"⟩
abbrev cX9_work : ByteArray := prog_11_method_38_code
def yX9_work : MethodName := ⟨RX9, "work", "(I)I"⟩
abbrev cX9_run : ByteArray := prog_11_method_39_code
def yX9_run : MethodName := ⟨RX9, "run", "(III)I"⟩
abbrev cX9_mode : ByteArray := prog_11_method_40_code
def yX9_mode : MethodName := ⟨RX9, "mode", "(I)I"⟩
abbrev cX9_cast : ByteArray := prog_11_method_41_code
def yX9_cast : MethodName := ⟨RX9, "cast", "(I)I"⟩
abbrev cX9_rips : ByteArray := prog_11_method_42_code
def yX9_rips : MethodName := ⟨RX9, "rips", "(I)V"⟩
abbrev cX9_rip : ByteArray := prog_11_method_43_code
def yX9_rip : MethodName := ⟨RX9, "rip", "(I)I"⟩
abbrev cX9_causes : ByteArray := prog_11_method_44_code
def yX9_causes : MethodName := ⟨RX9, "causes", "()I"⟩
abbrev cX9_why : ByteArray := prog_11_method_45_code
def yX9_why : MethodName := ⟨RX9, "why", "(II)I"⟩
abbrev cX9_yarnTried : ByteArray := prog_11_method_46_code
def yX9_yarnTried : MethodName := ⟨RX9, "yarnTried", "()I"⟩
abbrev cX9_would : ByteArray := prog_11_method_47_code
def yX9_would : MethodName := ⟨RX9, "would", "(III)I"⟩
abbrev cX9_hitch : ByteArray := prog_11_method_48_code
def yX9_hitch : MethodName := ⟨RX9, "hitch", "(II)I"⟩
abbrev cX9_fits : ByteArray := prog_11_method_49_code
def yX9_fits : MethodName := ⟨RX9, "fits", "(I)J"⟩
abbrev cX9_least : ByteArray := prog_11_method_50_code
def yX9_least : MethodName := ⟨RX9, "least", "()I"⟩
abbrev cX9_times : ByteArray := prog_11_method_51_code
def yX9_times : MethodName := ⟨RX9, "times", "(II)I"⟩
abbrev cX9_isWorked : ByteArray := prog_11_method_52_code
def yX9_isWorked : MethodName := ⟨RX9, "isWorked", "(I)Z"⟩
abbrev cX9_sizeOf : ByteArray := prog_11_method_53_code
def yX9_sizeOf : MethodName := ⟨RX9, "sizeOf", "(I)I"⟩
abbrev cX9_kind : ByteArray := prog_11_method_54_code
def yX9_kind : MethodName := ⟨RX9, "kind", "(II)I"⟩
abbrev cX9_counted : ByteArray := prog_11_method_55_code
def yX9_counted : MethodName := ⟨RX9, "counted", "(III)I"⟩
abbrev cX9_workedOf : ByteArray := prog_11_method_56_code
def yX9_workedOf : MethodName := ⟨RX9, "workedOf", "(II)I"⟩
abbrev cX9_stitch : ByteArray := prog_11_method_57_code
def yX9_stitch : MethodName := ⟨RX9, "stitch", "(III)I"⟩
abbrev cX9_charted : ByteArray := prog_11_method_58_code
def yX9_charted : MethodName := ⟨RX9, "charted", "(II)I"⟩
abbrev cX9_chart : ByteArray := prog_11_method_59_code
def yX9_chart : MethodName := ⟨RX9, "chart", "(II)I"⟩
abbrev cX9_shorthand : ByteArray := prog_11_method_60_code
def yX9_shorthand : MethodName := ⟨RX9, "shorthand", "(II)I"⟩
abbrev cX9_unit : ByteArray := prog_11_method_61_code
def yX9_unit : MethodName := ⟨RX9, "unit", "(I)I"⟩
abbrev cX9_mirroredAt : ByteArray := prog_11_method_62_code
def yX9_mirroredAt : MethodName := ⟨RX9, "mirroredAt", "(II)I"⟩
abbrev cX9_mirrored : ByteArray := prog_11_method_63_code
def yX9_mirrored : MethodName := ⟨RX9, "mirrored", "(II)I"⟩
abbrev cX9_even : ByteArray := prog_11_method_64_code
def yX9_even : MethodName := ⟨RX9, "even", "(I)I"⟩
abbrev cX9_rooted : ByteArray := prog_11_method_65_code
def yX9_rooted : MethodName := ⟨RX9, "rooted", "(II)J"⟩
abbrev cX9_madeBy : ByteArray := prog_11_method_66_code
def yX9_madeBy : MethodName := ⟨RX9, "madeBy", "(I)I"⟩
abbrev cX9_roots : ByteArray := prog_11_method_67_code
def yX9_roots : MethodName := ⟨RX9, "roots", "(II)J"⟩
abbrev cX9_origin : ByteArray := prog_11_method_68_code
def yX9_origin : MethodName := ⟨RX9, "origin", "(I)J"⟩
abbrev cX9_yarn : ByteArray := prog_11_method_69_code
def yX9_yarn : MethodName := ⟨RX9, "yarn", "()J"⟩
abbrev cX9_many : ByteArray := prog_11_method_70_code
def yX9_many : MethodName := ⟨RX9, "many", "(I)I"⟩
abbrev cX9_differ : ByteArray := prog_11_method_71_code
def yX9_differ : MethodName := ⟨RX9, "differ", "(II)I"⟩
abbrev cX9_isShelf : ByteArray := prog_11_method_72_code
def yX9_isShelf : MethodName := ⟨RX9, "isShelf", "(I)Z"⟩
abbrev cX9_amiss : ByteArray := prog_11_method_73_code
def yX9_amiss : MethodName := ⟨RX9, "amiss", "(I)I"⟩
abbrev cX9_row : ByteArray := prog_11_method_74_code
def yX9_row : MethodName := ⟨RX9, "row", "(III)I"⟩
abbrev cX9_set : ByteArray := prog_11_method_75_code
def yX9_set : MethodName := ⟨RX9, "set", "(IIJ)I"⟩
abbrev cX9_copy : ByteArray := prog_11_method_76_code
def yX9_copy : MethodName := ⟨RX9, "copy", "(IIIII)I"⟩
abbrev cX9_element : ByteArray := prog_11_method_77_code
def yX9_element : MethodName := ⟨RX9, "element", "(II)J"⟩
abbrev cX9_holds : ByteArray := prog_11_method_78_code
def yX9_holds : MethodName := ⟨RX9, "holds", "(I)I"⟩
abbrev cX9_show : ByteArray := prog_11_method_79_code
def yX9_show : MethodName := ⟨RX9, "show", "(III)I"⟩
abbrev cX9_says : ByteArray := prog_11_method_80_code
def yX9_says : MethodName := ⟨RX9, "says", "(II)I"⟩
abbrev cX9_judge : ByteArray := prog_11_method_81_code
def yX9_judge : MethodName := ⟨RX9, "judge", "(III)I"⟩
abbrev cX9_draw : ByteArray := prog_11_method_82_code
def yX9_draw : MethodName := ⟨RX9, "draw", "(I)I"⟩
abbrev cX9_days : ByteArray := prog_11_method_83_code
def yX9_days : MethodName := ⟨RX9, "days", "(I)I"⟩
abbrev cX9_seed : ByteArray := prog_11_method_84_code
def yX9_seed : MethodName := ⟨RX9, "seed", "(I)I"⟩
abbrev cX9_image : ByteArray := prog_11_method_85_code
def yX9_image : MethodName := ⟨RX9, "image", "()I"⟩
abbrev cX9_back : ByteArray := prog_11_method_86_code
def yX9_back : MethodName := ⟨RX9, "back", "()I"⟩
abbrev cX9_status : ByteArray := prog_11_method_87_code
def yX9_status : MethodName := ⟨RX9, "status", "(I)I"⟩
def RJx145de : String := "java/io/Serializable"
def TJx145de : u_T := fun k => match k with
  | _ => ("", "", "", false)
def tyJx145de : Nat → FieldType := fun k => match k with
  | _ => .int
theorem nmJx145de : ∀ a, a < 0 → ∀ b, b < 0 → a ≠ b → (TJx145de a).2.1 ≠ (TJx145de b).2.1 := by decide +kernel
theorem tyJx145de_ok : ∀ k, k < 0 → parseFieldDescriptor (TJx145de k).2.2.1 = some (tyJx145de k) := by decide +kernel
def RJx9f9b0 : String := "java/lang/CharSequence"
def TJx9f9b0 : u_T := fun k => match k with
  | _ => ("", "", "", false)
def tyJx9f9b0 : Nat → FieldType := fun k => match k with
  | _ => .int
theorem nmJx9f9b0 : ∀ a, a < 0 → ∀ b, b < 0 → a ≠ b → (TJx9f9b0 a).2.1 ≠ (TJx9f9b0 b).2.1 := by decide +kernel
theorem tyJx9f9b0_ok : ∀ k, k < 0 → parseFieldDescriptor (TJx9f9b0 k).2.2.1 = some (tyJx9f9b0 k) := by decide +kernel
def RJx8e188 : String := "java/lang/Cloneable"
def TJx8e188 : u_T := fun k => match k with
  | _ => ("", "", "", false)
def tyJx8e188 : Nat → FieldType := fun k => match k with
  | _ => .int
theorem nmJx8e188 : ∀ a, a < 0 → ∀ b, b < 0 → a ≠ b → (TJx8e188 a).2.1 ≠ (TJx8e188 b).2.1 := by decide +kernel
theorem tyJx8e188_ok : ∀ k, k < 0 → parseFieldDescriptor (TJx8e188 k).2.2.1 = some (tyJx8e188 k) := by decide +kernel
def RJxb160c : String := "java/lang/Comparable"
def TJxb160c : u_T := fun k => match k with
  | _ => ("", "", "", false)
def tyJxb160c : Nat → FieldType := fun k => match k with
  | _ => .int
theorem nmJxb160c : ∀ a, a < 0 → ∀ b, b < 0 → a ≠ b → (TJxb160c a).2.1 ≠ (TJxb160c b).2.1 := by decide +kernel
theorem tyJxb160c_ok : ∀ k, k < 0 → parseFieldDescriptor (TJxb160c k).2.2.1 = some (tyJxb160c k) := by decide +kernel
def RJ9 : String := "java/lang/Math"
def TJ9 : u_T := fun k => match k with
  | _ => ("", "", "", false)
def tyJ9 : Nat → FieldType := fun k => match k with
  | _ => .int
theorem nmJ9 : ∀ a, a < 0 → ∀ b, b < 0 → a ≠ b → (TJ9 a).2.1 ≠ (TJ9 b).2.1 := by decide +kernel
theorem tyJ9_ok : ∀ k, k < 0 → parseFieldDescriptor (TJ9 k).2.2.1 = some (tyJ9 k) := by decide +kernel
abbrev cJ9_max_7cf53 : ByteArray := prog_13_method_65_code
def yJ9_max_7cf53 : MethodName := ⟨RJ9, "max", "(II)I"⟩
abbrev cJ9_min_7cf53 : ByteArray := prog_13_method_69_code
def yJ9_min_7cf53 : MethodName := ⟨RJ9, "min", "(II)I"⟩
def RJ0 : String := "java/lang/String"
def TJ0 : u_T := fun k => match k with
  | _ => ("", "", "", false)
def tyJ0 : Nat → FieldType := fun k => match k with
  | _ => .int
theorem nmJ0 : ∀ a, a < 0 → ∀ b, b < 0 → a ≠ b → (TJ0 a).2.1 ≠ (TJ0 b).2.1 := by decide +kernel
theorem tyJ0_ok : ∀ k, k < 0 → parseFieldDescriptor (TJ0 k).2.2.1 = some (tyJ0 k) := by decide +kernel
abbrev cJ0_length_8abf5 : ByteArray := prog_14_method_54_code
def yJ0_length_8abf5 : MethodName := ⟨RJ0, "length", "()I"⟩
abbrev cJ0_charAt_5068e : ByteArray := prog_14_method_56_code
def yJ0_charAt_5068e : MethodName := ⟨RJ0, "charAt", "(I)C"⟩
abbrev cJ0_coder_7d493 : ByteArray := prog_14_method_152_code
def yJ0_coder_7d493 : MethodName := ⟨RJ0, "coder", "()B"⟩
abbrev cJ0_isLatin1_aae02 : ByteArray := prog_14_method_154_code
def yJ0_isLatin1_aae02 : MethodName := ⟨RJ0, "isLatin1", "()Z"⟩
abbrev cJ0_checkIndex_df160 : ByteArray := prog_14_method_155_code
def yJ0_checkIndex_df160 : MethodName := ⟨RJ0, "checkIndex", "(II)V"⟩
def RJ1 : String := "java/lang/StringLatin1"
def TJ1 : u_T := fun k => match k with
  | _ => ("", "", "", false)
def tyJ1 : Nat → FieldType := fun k => match k with
  | _ => .int
theorem nmJ1 : ∀ a, a < 0 → ∀ b, b < 0 → a ≠ b → (TJ1 a).2.1 ≠ (TJ1 b).2.1 := by decide +kernel
theorem tyJ1_ok : ∀ k, k < 0 → parseFieldDescriptor (TJ1 k).2.2.1 = some (tyJ1 k) := by decide +kernel
abbrev cJ1_charAt_3b067 : ByteArray := prog_15_method_2_code
def yJ1_charAt_3b067 : MethodName := ⟨RJ1, "charAt", "([BI)C"⟩
def RJ2 : String := "java/lang/StringUTF16"
def TJ2 : u_T := fun k => match k with
  | _ => ("", "", "", false)
def tyJ2 : Nat → FieldType := fun k => match k with
  | _ => .int
theorem nmJ2 : ∀ a, a < 0 → ∀ b, b < 0 → a ≠ b → (TJ2 a).2.1 ≠ (TJ2 b).2.1 := by decide +kernel
theorem tyJ2_ok : ∀ k, k < 0 → parseFieldDescriptor (TJ2 k).2.2.1 = some (tyJ2 k) := by decide +kernel
abbrev cJ2_getChar_3b067 : ByteArray := prog_16_method_5_code
def yJ2_getChar_3b067 : MethodName := ⟨RJ2, "getChar", "([BI)C"⟩
abbrev cJ2_length_9d52b : ByteArray := prog_16_method_6_code
def yJ2_length_9d52b : MethodName := ⟨RJ2, "length", "([B)I"⟩
abbrev cJ2_charAt_3b067 : ByteArray := prog_16_method_83_code
def yJ2_charAt_3b067 : MethodName := ⟨RJ2, "charAt", "([BI)C"⟩
abbrev cJ2_checkIndex_2214a : ByteArray := prog_16_method_91_code
def yJ2_checkIndex_2214a : MethodName := ⟨RJ2, "checkIndex", "(I[B)V"⟩
def RJ10 : String := "java/lang/System"
def TJ10 : u_T := fun k => match k with
  | _ => ("", "", "", false)
def tyJ10 : Nat → FieldType := fun k => match k with
  | _ => .int
theorem nmJ10 : ∀ a, a < 0 → ∀ b, b < 0 → a ≠ b → (TJ10 a).2.1 ≠ (TJ10 b).2.1 := by decide +kernel
theorem tyJ10_ok : ∀ k, k < 0 → parseFieldDescriptor (TJ10 k).2.2.1 = some (tyJ10 k) := by decide +kernel
def RJxfd54e : String := "java/lang/constant/Constable"
def TJxfd54e : u_T := fun k => match k with
  | _ => ("", "", "", false)
def tyJxfd54e : Nat → FieldType := fun k => match k with
  | _ => .int
theorem nmJxfd54e : ∀ a, a < 0 → ∀ b, b < 0 → a ≠ b → (TJxfd54e a).2.1 ≠ (TJxfd54e b).2.1 := by decide +kernel
theorem tyJxfd54e_ok : ∀ k, k < 0 → parseFieldDescriptor (TJxfd54e k).2.2.1 = some (tyJxfd54e k) := by decide +kernel
def RJx3cf43 : String := "java/lang/constant/ConstantDesc"
def TJx3cf43 : u_T := fun k => match k with
  | _ => ("", "", "", false)
def tyJx3cf43 : Nat → FieldType := fun k => match k with
  | _ => .int
theorem nmJx3cf43 : ∀ a, a < 0 → ∀ b, b < 0 → a ≠ b → (TJx3cf43 a).2.1 ≠ (TJx3cf43 b).2.1 := by decide +kernel
theorem tyJx3cf43_ok : ∀ k, k < 0 → parseFieldDescriptor (TJx3cf43 k).2.2.1 = some (tyJx3cf43 k) := by decide +kernel
def RJ7 : String := "java/util/Arrays"
def TJ7 : u_T := fun k => match k with
  | _ => ("", "", "", false)
def tyJ7 : Nat → FieldType := fun k => match k with
  | _ => .int
theorem nmJ7 : ∀ a, a < 0 → ∀ b, b < 0 → a ≠ b → (TJ7 a).2.1 ≠ (TJ7 b).2.1 := by decide +kernel
theorem tyJ7_ok : ∀ k, k < 0 → parseFieldDescriptor (TJ7 k).2.2.1 = some (tyJ7 k) := by decide +kernel
abbrev cJ7_fill_d0a16 : ByteArray := prog_18_method_101_code
def yJ7_fill_d0a16 : MethodName := ⟨RJ7, "fill", "([JJ)V"⟩
abbrev cJ7_copyOf_59c91 : ByteArray := prog_18_method_123_code
def yJ7_copyOf_59c91 : MethodName := ⟨RJ7, "copyOf", "([II)[I"⟩
def RJ3 : String := "jdk/internal/util/Preconditions"
def TJ3 : u_T := fun k => match k with
  | _ => ("", "", "", false)
def tyJ3 : Nat → FieldType := fun k => match k with
  | _ => .int
theorem nmJ3 : ∀ a, a < 0 → ∀ b, b < 0 → a ≠ b → (TJ3 a).2.1 ≠ (TJ3 b).2.1 := by decide +kernel
theorem tyJ3_ok : ∀ k, k < 0 → parseFieldDescriptor (TJ3 k).2.2.1 = some (tyJ3 k) := by decide +kernel
abbrev cJ3_checkIndex_8e157 : ByteArray := prog_19_method_11_code
def yJ3_checkIndex_8e157 : MethodName := ⟨RJ3, "checkIndex", "(IILjava/util/function/BiFunction;)I"⟩
def RL : String := "KnitReaderLaw"
abbrev cL_law : ByteArray := code
def yL_law : MethodName := ⟨RL, "law", "([I)Z"⟩
abbrev vwCl : List vw_C := [(RX0, TX0, 2), (RX1, TX1, 3), (RX3, TX3, 10), (RX4, TX4, 8), (RX5, TX5, 3), (RX6, TX6, 8), (RX7, TX7, 2), (RX8, TX8, 9), (RX9, TX9, 28)]
end
section
/-! decode rows (printed by the program of the task) -/
theorem dX0_init_0 : decode cX0_init 0 = .ok (.aload_n 0, 1) := by decide +kernel
theorem dX0_init_1 : decode cX0_init 1 = .ok (.invokespecial 3, 3) := by decide +kernel
theorem dX0_init_4 : decode cX0_init 4 = .ok (.aload_n 0, 1) := by decide +kernel
theorem dX0_init_5 : decode cX0_init 5 = .ok (.bipush 24, 2) := by decide +kernel
theorem dX0_init_7 : decode cX0_init 7 = .ok (.newarray .int, 2) := by decide +kernel
theorem dX0_init_9 : decode cX0_init 9 = .ok (.putfield 11, 3) := by decide +kernel
theorem dX0_init_12 : decode cX0_init 12 = .ok (.return_, 1) := by decide +kernel
theorem dX0_begin_0 : decode cX0_begin 0 = .ok (.aload_n 0, 1) := by decide +kernel
theorem dX0_begin_1 : decode cX0_begin 1 = .ok (.iconst 0, 1) := by decide +kernel
theorem dX0_begin_2 : decode cX0_begin 2 = .ok (.putfield 15, 3) := by decide +kernel
theorem dX0_begin_5 : decode cX0_begin 5 = .ok (.return_, 1) := by decide +kernel
theorem dX0_addLink_0 : decode cX0_addLink 0 = .ok (.aload_n 0, 1) := by decide +kernel
theorem dX0_addLink_1 : decode cX0_addLink 1 = .ok (.getfield 15, 3) := by decide +kernel
theorem dX0_addLink_4 : decode cX0_addLink 4 = .ok (.iconst 3, 1) := by decide +kernel
theorem dX0_addLink_5 : decode cX0_addLink 5 = .ok (.imul, 1) := by decide +kernel
theorem dX0_addLink_6 : decode cX0_addLink 6 = .ok (.istore 4, 2) := by decide +kernel
theorem dX0_addLink_8 : decode cX0_addLink 8 = .ok (.iload 4, 2) := by decide +kernel
theorem dX0_addLink_10 : decode cX0_addLink 10 = .ok (.ifCond .lt 53, 3) := by decide +kernel
theorem dX0_addLink_13 : decode cX0_addLink 13 = .ok (.iload 4, 2) := by decide +kernel
theorem dX0_addLink_15 : decode cX0_addLink 15 = .ok (.iconst 2, 1) := by decide +kernel
theorem dX0_addLink_16 : decode cX0_addLink 16 = .ok (.iadd, 1) := by decide +kernel
theorem dX0_addLink_17 : decode cX0_addLink 17 = .ok (.aload_n 0, 1) := by decide +kernel
theorem dX0_addLink_18 : decode cX0_addLink 18 = .ok (.getfield 11, 3) := by decide +kernel
theorem dX0_addLink_21 : decode cX0_addLink 21 = .ok (.arraylength, 1) := by decide +kernel
theorem dX0_addLink_22 : decode cX0_addLink 22 = .ok (.if_icmp .ge 41, 3) := by decide +kernel
theorem dX0_addLink_25 : decode cX0_addLink 25 = .ok (.aload_n 0, 1) := by decide +kernel
theorem dX0_addLink_26 : decode cX0_addLink 26 = .ok (.getfield 11, 3) := by decide +kernel
theorem dX0_addLink_29 : decode cX0_addLink 29 = .ok (.iload 4, 2) := by decide +kernel
theorem dX0_addLink_31 : decode cX0_addLink 31 = .ok (.iload_n 1, 1) := by decide +kernel
theorem dX0_addLink_32 : decode cX0_addLink 32 = .ok (.iastore, 1) := by decide +kernel
theorem dX0_addLink_33 : decode cX0_addLink 33 = .ok (.aload_n 0, 1) := by decide +kernel
theorem dX0_addLink_34 : decode cX0_addLink 34 = .ok (.getfield 11, 3) := by decide +kernel
theorem dX0_addLink_37 : decode cX0_addLink 37 = .ok (.iload 4, 2) := by decide +kernel
theorem dX0_addLink_39 : decode cX0_addLink 39 = .ok (.iconst 1, 1) := by decide +kernel
theorem dX0_addLink_40 : decode cX0_addLink 40 = .ok (.iadd, 1) := by decide +kernel
theorem dX0_addLink_41 : decode cX0_addLink 41 = .ok (.iload_n 2, 1) := by decide +kernel
theorem dX0_addLink_42 : decode cX0_addLink 42 = .ok (.iastore, 1) := by decide +kernel
theorem dX0_addLink_43 : decode cX0_addLink 43 = .ok (.aload_n 0, 1) := by decide +kernel
theorem dX0_addLink_44 : decode cX0_addLink 44 = .ok (.getfield 11, 3) := by decide +kernel
theorem dX0_addLink_47 : decode cX0_addLink 47 = .ok (.iload 4, 2) := by decide +kernel
theorem dX0_addLink_49 : decode cX0_addLink 49 = .ok (.iconst 2, 1) := by decide +kernel
theorem dX0_addLink_50 : decode cX0_addLink 50 = .ok (.iadd, 1) := by decide +kernel
theorem dX0_addLink_51 : decode cX0_addLink 51 = .ok (.iload_n 3, 1) := by decide +kernel
theorem dX0_addLink_52 : decode cX0_addLink 52 = .ok (.iastore, 1) := by decide +kernel
theorem dX0_addLink_53 : decode cX0_addLink 53 = .ok (.aload_n 0, 1) := by decide +kernel
theorem dX0_addLink_54 : decode cX0_addLink 54 = .ok (.dup, 1) := by decide +kernel
theorem dX0_addLink_55 : decode cX0_addLink 55 = .ok (.getfield 15, 3) := by decide +kernel
theorem dX0_addLink_58 : decode cX0_addLink 58 = .ok (.iconst 1, 1) := by decide +kernel
theorem dX0_addLink_59 : decode cX0_addLink 59 = .ok (.iadd, 1) := by decide +kernel
theorem dX0_addLink_60 : decode cX0_addLink 60 = .ok (.putfield 15, 3) := by decide +kernel
theorem dX0_addLink_63 : decode cX0_addLink 63 = .ok (.return_, 1) := by decide +kernel
theorem dX0_hasNumber_0 : decode cX0_hasNumber 0 = .ok (.iload_n 1, 1) := by decide +kernel
theorem dX0_hasNumber_1 : decode cX0_hasNumber 1 = .ok (.ifCond .lt 24, 3) := by decide +kernel
theorem dX0_hasNumber_4 : decode cX0_hasNumber 4 = .ok (.iload_n 1, 1) := by decide +kernel
theorem dX0_hasNumber_5 : decode cX0_hasNumber 5 = .ok (.aload_n 0, 1) := by decide +kernel
theorem dX0_hasNumber_6 : decode cX0_hasNumber 6 = .ok (.getfield 15, 3) := by decide +kernel
theorem dX0_hasNumber_9 : decode cX0_hasNumber 9 = .ok (.if_icmp .ge 16, 3) := by decide +kernel
theorem dX0_hasNumber_12 : decode cX0_hasNumber 12 = .ok (.iload_n 2, 1) := by decide +kernel
theorem dX0_hasNumber_13 : decode cX0_hasNumber 13 = .ok (.ifCond .lt 12, 3) := by decide +kernel
theorem dX0_hasNumber_16 : decode cX0_hasNumber 16 = .ok (.iload_n 2, 1) := by decide +kernel
theorem dX0_hasNumber_17 : decode cX0_hasNumber 17 = .ok (.iconst 3, 1) := by decide +kernel
theorem dX0_hasNumber_18 : decode cX0_hasNumber 18 = .ok (.if_icmp .ge 7, 3) := by decide +kernel
theorem dX0_hasNumber_21 : decode cX0_hasNumber 21 = .ok (.iconst 1, 1) := by decide +kernel
theorem dX0_hasNumber_22 : decode cX0_hasNumber 22 = .ok (.goto 4, 3) := by decide +kernel
theorem dX0_hasNumber_25 : decode cX0_hasNumber 25 = .ok (.iconst 0, 1) := by decide +kernel
theorem dX0_hasNumber_26 : decode cX0_hasNumber 26 = .ok (.ireturn, 1) := by decide +kernel
theorem dX0_numberAt_0 : decode cX0_numberAt 0 = .ok (.iload_n 1, 1) := by decide +kernel
theorem dX0_numberAt_1 : decode cX0_numberAt 1 = .ok (.iconst 3, 1) := by decide +kernel
theorem dX0_numberAt_2 : decode cX0_numberAt 2 = .ok (.imul, 1) := by decide +kernel
theorem dX0_numberAt_3 : decode cX0_numberAt 3 = .ok (.iload_n 2, 1) := by decide +kernel
theorem dX0_numberAt_4 : decode cX0_numberAt 4 = .ok (.iadd, 1) := by decide +kernel
theorem dX0_numberAt_5 : decode cX0_numberAt 5 = .ok (.istore_n 3, 1) := by decide +kernel
theorem dX0_numberAt_6 : decode cX0_numberAt 6 = .ok (.iload_n 3, 1) := by decide +kernel
theorem dX0_numberAt_7 : decode cX0_numberAt 7 = .ok (.ifCond .lt 21, 3) := by decide +kernel
theorem dX0_numberAt_10 : decode cX0_numberAt 10 = .ok (.iload_n 3, 1) := by decide +kernel
theorem dX0_numberAt_11 : decode cX0_numberAt 11 = .ok (.aload_n 0, 1) := by decide +kernel
theorem dX0_numberAt_12 : decode cX0_numberAt 12 = .ok (.getfield 11, 3) := by decide +kernel
theorem dX0_numberAt_15 : decode cX0_numberAt 15 = .ok (.arraylength, 1) := by decide +kernel
theorem dX0_numberAt_16 : decode cX0_numberAt 16 = .ok (.if_icmp .ge 12, 3) := by decide +kernel
theorem dX0_numberAt_19 : decode cX0_numberAt 19 = .ok (.aload_n 0, 1) := by decide +kernel
theorem dX0_numberAt_20 : decode cX0_numberAt 20 = .ok (.getfield 11, 3) := by decide +kernel
theorem dX0_numberAt_23 : decode cX0_numberAt 23 = .ok (.iload_n 3, 1) := by decide +kernel
theorem dX0_numberAt_24 : decode cX0_numberAt 24 = .ok (.iaload, 1) := by decide +kernel
theorem dX0_numberAt_25 : decode cX0_numberAt 25 = .ok (.goto 4, 3) := by decide +kernel
theorem dX0_numberAt_28 : decode cX0_numberAt 28 = .ok (.iconst 0, 1) := by decide +kernel
theorem dX0_numberAt_29 : decode cX0_numberAt 29 = .ok (.ireturn, 1) := by decide +kernel
theorem dX1_init_0 : decode cX1_init 0 = .ok (.aload_n 0, 1) := by decide +kernel
theorem dX1_init_1 : decode cX1_init 1 = .ok (.invokespecial 3, 3) := by decide +kernel
theorem dX1_init_4 : decode cX1_init 4 = .ok (.aload_n 0, 1) := by decide +kernel
theorem dX1_init_5 : decode cX1_init 5 = .ok (.new 9, 3) := by decide +kernel
theorem dX1_init_8 : decode cX1_init 8 = .ok (.dup, 1) := by decide +kernel
theorem dX1_init_9 : decode cX1_init 9 = .ok (.invokespecial 11, 3) := by decide +kernel
theorem dX1_init_12 : decode cX1_init 12 = .ok (.putfield 12, 3) := by decide +kernel
theorem dX1_init_15 : decode cX1_init 15 = .ok (.return_, 1) := by decide +kernel
theorem dX1_takeFrom_0 : decode cX1_takeFrom 0 = .ok (.aload_n 0, 1) := by decide +kernel
theorem dX1_takeFrom_1 : decode cX1_takeFrom 1 = .ok (.getfield 12, 3) := by decide +kernel
theorem dX1_takeFrom_4 : decode cX1_takeFrom 4 = .ok (.aload_n 1, 1) := by decide +kernel
theorem dX1_takeFrom_5 : decode cX1_takeFrom 5 = .ok (.getfield 12, 3) := by decide +kernel
theorem dX1_takeFrom_8 : decode cX1_takeFrom 8 = .ok (.invokevirtual 18, 3) := by decide +kernel
theorem dX1_takeFrom_11 : decode cX1_takeFrom 11 = .ok (.aload_n 0, 1) := by decide +kernel
theorem dX1_takeFrom_12 : decode cX1_takeFrom 12 = .ok (.aload_n 1, 1) := by decide +kernel
theorem dX1_takeFrom_13 : decode cX1_takeFrom 13 = .ok (.getfield 22, 3) := by decide +kernel
theorem dX1_takeFrom_16 : decode cX1_takeFrom 16 = .ok (.putfield 22, 3) := by decide +kernel
theorem dX1_takeFrom_19 : decode cX1_takeFrom 19 = .ok (.aload_n 0, 1) := by decide +kernel
theorem dX1_takeFrom_20 : decode cX1_takeFrom 20 = .ok (.aload_n 1, 1) := by decide +kernel
theorem dX1_takeFrom_21 : decode cX1_takeFrom 21 = .ok (.getfield 26, 3) := by decide +kernel
theorem dX1_takeFrom_24 : decode cX1_takeFrom 24 = .ok (.putfield 26, 3) := by decide +kernel
theorem dX1_takeFrom_27 : decode cX1_takeFrom 27 = .ok (.return_, 1) := by decide +kernel
theorem dX1_chartAt_0 : decode cX1_chartAt 0 = .ok (.aload_n 0, 1) := by decide +kernel
theorem dX1_chartAt_1 : decode cX1_chartAt 1 = .ok (.getfield 22, 3) := by decide +kernel
theorem dX1_chartAt_4 : decode cX1_chartAt 4 = .ok (.ifCond .ne 12, 3) := by decide +kernel
theorem dX1_chartAt_7 : decode cX1_chartAt 7 = .ok (.aload_n 0, 1) := by decide +kernel
theorem dX1_chartAt_8 : decode cX1_chartAt 8 = .ok (.getfield 12, 3) := by decide +kernel
theorem dX1_chartAt_11 : decode cX1_chartAt 11 = .ok (.iload_n 1, 1) := by decide +kernel
theorem dX1_chartAt_12 : decode cX1_chartAt 12 = .ok (.invokevirtual 29, 3) := by decide +kernel
theorem dX1_chartAt_15 : decode cX1_chartAt 15 = .ok (.ireturn, 1) := by decide +kernel
theorem dX1_chartAt_16 : decode cX1_chartAt 16 = .ok (.aload_n 0, 1) := by decide +kernel
theorem dX1_chartAt_17 : decode cX1_chartAt 17 = .ok (.getfield 12, 3) := by decide +kernel
theorem dX1_chartAt_20 : decode cX1_chartAt 20 = .ok (.aload_n 0, 1) := by decide +kernel
theorem dX1_chartAt_21 : decode cX1_chartAt 21 = .ok (.getfield 12, 3) := by decide +kernel
theorem dX1_chartAt_24 : decode cX1_chartAt 24 = .ok (.getfield 33, 3) := by decide +kernel
theorem dX1_chartAt_27 : decode cX1_chartAt 27 = .ok (.iconst 1, 1) := by decide +kernel
theorem dX1_chartAt_28 : decode cX1_chartAt 28 = .ok (.isub, 1) := by decide +kernel
theorem dX1_chartAt_29 : decode cX1_chartAt 29 = .ok (.iload_n 1, 1) := by decide +kernel
theorem dX1_chartAt_30 : decode cX1_chartAt 30 = .ok (.isub, 1) := by decide +kernel
theorem dX1_chartAt_31 : decode cX1_chartAt 31 = .ok (.invokevirtual 29, 3) := by decide +kernel
theorem dX1_chartAt_34 : decode cX1_chartAt 34 = .ok (.invokestatic 36, 3) := by decide +kernel
theorem dX1_chartAt_37 : decode cX1_chartAt 37 = .ok (.ireturn, 1) := by decide +kernel
theorem dX2_isKind_0 : decode cX2_isKind 0 = .ok (.iload_n 0, 1) := by decide +kernel
theorem dX2_isKind_1 : decode cX2_isKind 1 = .ok (.ifCond .lt 13, 3) := by decide +kernel
theorem dX2_isKind_4 : decode cX2_isKind 4 = .ok (.iload_n 0, 1) := by decide +kernel
theorem dX2_isKind_5 : decode cX2_isKind 5 = .ok (.bipush 12, 2) := by decide +kernel
theorem dX2_isKind_7 : decode cX2_isKind 7 = .ok (.if_icmp .gt 7, 3) := by decide +kernel
theorem dX2_isKind_10 : decode cX2_isKind 10 = .ok (.iconst 1, 1) := by decide +kernel
theorem dX2_isKind_11 : decode cX2_isKind 11 = .ok (.goto 4, 3) := by decide +kernel
theorem dX2_isKind_14 : decode cX2_isKind 14 = .ok (.iconst 0, 1) := by decide +kernel
theorem dX2_isKind_15 : decode cX2_isKind 15 = .ok (.ireturn, 1) := by decide +kernel
theorem dX2_takenBy_0 : decode cX2_takenBy 0 = .ok (.iload_n 0, 1) := by decide +kernel
theorem dX2_takenBy_1 : decode cX2_takenBy 1 = .ok (.ifCond .lt 19, 3) := by decide +kernel
theorem dX2_takenBy_4 : decode cX2_takenBy 4 = .ok (.iload_n 0, 1) := by decide +kernel
theorem dX2_takenBy_5 : decode cX2_takenBy 5 = .ok (.getstatic 11, 3) := by decide +kernel
theorem dX2_takenBy_8 : decode cX2_takenBy 8 = .ok (.arraylength, 1) := by decide +kernel
theorem dX2_takenBy_9 : decode cX2_takenBy 9 = .ok (.if_icmp .ge 11, 3) := by decide +kernel
theorem dX2_takenBy_12 : decode cX2_takenBy 12 = .ok (.getstatic 11, 3) := by decide +kernel
theorem dX2_takenBy_15 : decode cX2_takenBy 15 = .ok (.iload_n 0, 1) := by decide +kernel
theorem dX2_takenBy_16 : decode cX2_takenBy 16 = .ok (.iaload, 1) := by decide +kernel
theorem dX2_takenBy_17 : decode cX2_takenBy 17 = .ok (.goto 4, 3) := by decide +kernel
theorem dX2_takenBy_20 : decode cX2_takenBy 20 = .ok (.iconst 0, 1) := by decide +kernel
theorem dX2_takenBy_21 : decode cX2_takenBy 21 = .ok (.ireturn, 1) := by decide +kernel
theorem dX2_madeBy_0 : decode cX2_madeBy 0 = .ok (.iload_n 0, 1) := by decide +kernel
theorem dX2_madeBy_1 : decode cX2_madeBy 1 = .ok (.ifCond .lt 19, 3) := by decide +kernel
theorem dX2_madeBy_4 : decode cX2_madeBy 4 = .ok (.iload_n 0, 1) := by decide +kernel
theorem dX2_madeBy_5 : decode cX2_madeBy 5 = .ok (.getstatic 15, 3) := by decide +kernel
theorem dX2_madeBy_8 : decode cX2_madeBy 8 = .ok (.arraylength, 1) := by decide +kernel
theorem dX2_madeBy_9 : decode cX2_madeBy 9 = .ok (.if_icmp .ge 11, 3) := by decide +kernel
theorem dX2_madeBy_12 : decode cX2_madeBy 12 = .ok (.getstatic 15, 3) := by decide +kernel
theorem dX2_madeBy_15 : decode cX2_madeBy 15 = .ok (.iload_n 0, 1) := by decide +kernel
theorem dX2_madeBy_16 : decode cX2_madeBy 16 = .ok (.iaload, 1) := by decide +kernel
theorem dX2_madeBy_17 : decode cX2_madeBy 17 = .ok (.goto 4, 3) := by decide +kernel
theorem dX2_madeBy_20 : decode cX2_madeBy 20 = .ok (.iconst 0, 1) := by decide +kernel
theorem dX2_madeBy_21 : decode cX2_madeBy 21 = .ok (.ireturn, 1) := by decide +kernel
theorem dX2_yarnOf_0 : decode cX2_yarnOf 0 = .ok (.iload_n 0, 1) := by decide +kernel
theorem dX2_yarnOf_1 : decode cX2_yarnOf 1 = .ok (.ifCond .lt 19, 3) := by decide +kernel
theorem dX2_yarnOf_4 : decode cX2_yarnOf 4 = .ok (.iload_n 0, 1) := by decide +kernel
theorem dX2_yarnOf_5 : decode cX2_yarnOf 5 = .ok (.getstatic 18, 3) := by decide +kernel
theorem dX2_yarnOf_8 : decode cX2_yarnOf 8 = .ok (.arraylength, 1) := by decide +kernel
theorem dX2_yarnOf_9 : decode cX2_yarnOf 9 = .ok (.if_icmp .ge 11, 3) := by decide +kernel
theorem dX2_yarnOf_12 : decode cX2_yarnOf 12 = .ok (.getstatic 18, 3) := by decide +kernel
theorem dX2_yarnOf_15 : decode cX2_yarnOf 15 = .ok (.iload_n 0, 1) := by decide +kernel
theorem dX2_yarnOf_16 : decode cX2_yarnOf 16 = .ok (.iaload, 1) := by decide +kernel
theorem dX2_yarnOf_17 : decode cX2_yarnOf 17 = .ok (.goto 4, 3) := by decide +kernel
theorem dX2_yarnOf_20 : decode cX2_yarnOf 20 = .ok (.iconst 0, 1) := by decide +kernel
theorem dX2_yarnOf_21 : decode cX2_yarnOf 21 = .ok (.ireturn, 1) := by decide +kernel
theorem dX2_isUnder_0 : decode cX2_isUnder 0 = .ok (.iload_n 0, 1) := by decide +kernel
theorem dX2_isUnder_1 : decode cX2_isUnder 1 = .ok (.istore_n 2, 1) := by decide +kernel
theorem dX2_isUnder_2 : decode cX2_isUnder 2 = .ok (.iconst 0, 1) := by decide +kernel
theorem dX2_isUnder_3 : decode cX2_isUnder 3 = .ok (.istore_n 3, 1) := by decide +kernel
theorem dX2_isUnder_4 : decode cX2_isUnder 4 = .ok (.iload_n 3, 1) := by decide +kernel
theorem dX2_isUnder_5 : decode cX2_isUnder 5 = .ok (.iconst 4, 1) := by decide +kernel
theorem dX2_isUnder_6 : decode cX2_isUnder 6 = .ok (.if_icmp .ge 41, 3) := by decide +kernel
theorem dX2_isUnder_9 : decode cX2_isUnder 9 = .ok (.iload_n 2, 1) := by decide +kernel
theorem dX2_isUnder_10 : decode cX2_isUnder 10 = .ok (.invokestatic 21, 3) := by decide +kernel
theorem dX2_isUnder_13 : decode cX2_isUnder 13 = .ok (.ifCond .eq 34, 3) := by decide +kernel
theorem dX2_isUnder_16 : decode cX2_isUnder 16 = .ok (.iload_n 2, 1) := by decide +kernel
theorem dX2_isUnder_17 : decode cX2_isUnder 17 = .ok (.iload_n 1, 1) := by decide +kernel
theorem dX2_isUnder_18 : decode cX2_isUnder 18 = .ok (.if_icmp .ne 5, 3) := by decide +kernel
theorem dX2_isUnder_21 : decode cX2_isUnder 21 = .ok (.iconst 1, 1) := by decide +kernel
theorem dX2_isUnder_22 : decode cX2_isUnder 22 = .ok (.ireturn, 1) := by decide +kernel
theorem dX2_isUnder_23 : decode cX2_isUnder 23 = .ok (.iload_n 2, 1) := by decide +kernel
theorem dX2_isUnder_24 : decode cX2_isUnder 24 = .ok (.getstatic 25, 3) := by decide +kernel
theorem dX2_isUnder_27 : decode cX2_isUnder 27 = .ok (.arraylength, 1) := by decide +kernel
theorem dX2_isUnder_28 : decode cX2_isUnder 28 = .ok (.if_icmp .ge 11, 3) := by decide +kernel
theorem dX2_isUnder_31 : decode cX2_isUnder 31 = .ok (.getstatic 25, 3) := by decide +kernel
theorem dX2_isUnder_34 : decode cX2_isUnder 34 = .ok (.iload_n 2, 1) := by decide +kernel
theorem dX2_isUnder_35 : decode cX2_isUnder 35 = .ok (.iaload, 1) := by decide +kernel
theorem dX2_isUnder_36 : decode cX2_isUnder 36 = .ok (.goto 4, 3) := by decide +kernel
theorem dX2_isUnder_39 : decode cX2_isUnder 39 = .ok (.iconst (-1), 1) := by decide +kernel
theorem dX2_isUnder_40 : decode cX2_isUnder 40 = .ok (.istore_n 2, 1) := by decide +kernel
theorem dX2_isUnder_41 : decode cX2_isUnder 41 = .ok (.iinc 3 1, 3) := by decide +kernel
theorem dX2_isUnder_44 : decode cX2_isUnder 44 = .ok (.goto (-40), 3) := by decide +kernel
theorem dX2_isUnder_47 : decode cX2_isUnder 47 = .ok (.iconst 0, 1) := by decide +kernel
theorem dX2_isUnder_48 : decode cX2_isUnder 48 = .ok (.ireturn, 1) := by decide +kernel
theorem dX2_mirroredTo_0 : decode cX2_mirroredTo 0 = .ok (.iload_n 0, 1) := by decide +kernel
theorem dX2_mirroredTo_1 : decode cX2_mirroredTo 1 = .ok (.lookupswitch 33 #[(9, 27), (10, 30)], 27) := by decide +kernel
theorem dX2_mirroredTo_28 : decode cX2_mirroredTo 28 = .ok (.bipush 10, 2) := by decide +kernel
theorem dX2_mirroredTo_30 : decode cX2_mirroredTo 30 = .ok (.ireturn, 1) := by decide +kernel
theorem dX2_mirroredTo_31 : decode cX2_mirroredTo 31 = .ok (.bipush 9, 2) := by decide +kernel
theorem dX2_mirroredTo_33 : decode cX2_mirroredTo 33 = .ok (.ireturn, 1) := by decide +kernel
theorem dX2_mirroredTo_34 : decode cX2_mirroredTo 34 = .ok (.iload_n 0, 1) := by decide +kernel
theorem dX2_mirroredTo_35 : decode cX2_mirroredTo 35 = .ok (.ireturn, 1) := by decide +kernel
theorem dX2_turnedTo_0 : decode cX2_turnedTo 0 = .ok (.iload_n 0, 1) := by decide +kernel
theorem dX2_turnedTo_1 : decode cX2_turnedTo 1 = .ok (.lookupswitch 31 #[(4, 27), (5, 29)], 27) := by decide +kernel
theorem dX2_turnedTo_28 : decode cX2_turnedTo 28 = .ok (.iconst 5, 1) := by decide +kernel
theorem dX2_turnedTo_29 : decode cX2_turnedTo 29 = .ok (.ireturn, 1) := by decide +kernel
theorem dX2_turnedTo_30 : decode cX2_turnedTo 30 = .ok (.iconst 4, 1) := by decide +kernel
theorem dX2_turnedTo_31 : decode cX2_turnedTo 31 = .ok (.ireturn, 1) := by decide +kernel
theorem dX2_turnedTo_32 : decode cX2_turnedTo 32 = .ok (.iload_n 0, 1) := by decide +kernel
theorem dX2_turnedTo_33 : decode cX2_turnedTo 33 = .ok (.invokestatic 28, 3) := by decide +kernel
theorem dX2_turnedTo_36 : decode cX2_turnedTo 36 = .ok (.ireturn, 1) := by decide +kernel
theorem dX2_saying_0 : decode cX2_saying 0 = .ok (.iload_n 1, 1) := by decide +kernel
theorem dX2_saying_1 : decode cX2_saying 1 = .ok (.tableswitch 97 0 12 #[67, 72, 74, 79, 97, 97, 89, 91, 91, 97, 97, 93, 95], 67) := by decide +kernel
theorem dX2_saying_68 : decode cX2_saying 68 = .ok (.iload_n 0, 1) := by decide +kernel
theorem dX2_saying_69 : decode cX2_saying 69 = .ok (.invokestatic 32, 3) := by decide +kernel
theorem dX2_saying_72 : decode cX2_saying 72 = .ok (.ireturn, 1) := by decide +kernel
theorem dX2_saying_73 : decode cX2_saying 73 = .ok (.iconst 1, 1) := by decide +kernel
theorem dX2_saying_74 : decode cX2_saying 74 = .ok (.ireturn, 1) := by decide +kernel
theorem dX2_saying_75 : decode cX2_saying 75 = .ok (.iload_n 0, 1) := by decide +kernel
theorem dX2_saying_76 : decode cX2_saying 76 = .ok (.invokestatic 35, 3) := by decide +kernel
theorem dX2_saying_79 : decode cX2_saying 79 = .ok (.ireturn, 1) := by decide +kernel
theorem dX2_saying_80 : decode cX2_saying 80 = .ok (.iload_n 0, 1) := by decide +kernel
theorem dX2_saying_81 : decode cX2_saying 81 = .ok (.invokestatic 38, 3) := by decide +kernel
theorem dX2_saying_84 : decode cX2_saying 84 = .ok (.iload_n 0, 1) := by decide +kernel
theorem dX2_saying_85 : decode cX2_saying 85 = .ok (.invokestatic 35, 3) := by decide +kernel
theorem dX2_saying_88 : decode cX2_saying 88 = .ok (.isub, 1) := by decide +kernel
theorem dX2_saying_89 : decode cX2_saying 89 = .ok (.ireturn, 1) := by decide +kernel
theorem dX2_saying_90 : decode cX2_saying 90 = .ok (.iconst 4, 1) := by decide +kernel
theorem dX2_saying_91 : decode cX2_saying 91 = .ok (.ireturn, 1) := by decide +kernel
theorem dX2_saying_92 : decode cX2_saying 92 = .ok (.iload_n 0, 1) := by decide +kernel
theorem dX2_saying_93 : decode cX2_saying 93 = .ok (.ireturn, 1) := by decide +kernel
theorem dX2_saying_94 : decode cX2_saying 94 = .ok (.iconst 0, 1) := by decide +kernel
theorem dX2_saying_95 : decode cX2_saying 95 = .ok (.ireturn, 1) := by decide +kernel
theorem dX2_saying_96 : decode cX2_saying 96 = .ok (.iconst 2, 1) := by decide +kernel
theorem dX2_saying_97 : decode cX2_saying 97 = .ok (.ireturn, 1) := by decide +kernel
theorem dX2_saying_98 : decode cX2_saying 98 = .ok (.iload_n 0, 1) := by decide +kernel
theorem dX2_saying_99 : decode cX2_saying 99 = .ok (.invokestatic 41, 3) := by decide +kernel
theorem dX2_saying_102 : decode cX2_saying 102 = .ok (.ireturn, 1) := by decide +kernel
theorem dX2_wordOf_0 : decode cX2_wordOf 0 = .ok (.iload_n 0, 1) := by decide +kernel
theorem dX2_wordOf_1 : decode cX2_wordOf 1 = .ok (.tableswitch 78 4 12 #[51, 54, 57, 60, 63, 66, 69, 72, 75], 51) := by decide +kernel
theorem dX2_wordOf_52 : decode cX2_wordOf 52 = .ok (.ldc 44, 2) := by decide +kernel
theorem dX2_wordOf_54 : decode cX2_wordOf 54 = .ok (.areturn, 1) := by decide +kernel
theorem dX2_wordOf_55 : decode cX2_wordOf 55 = .ok (.ldc 46, 2) := by decide +kernel
theorem dX2_wordOf_57 : decode cX2_wordOf 57 = .ok (.areturn, 1) := by decide +kernel
theorem dX2_wordOf_58 : decode cX2_wordOf 58 = .ok (.ldc 48, 2) := by decide +kernel
theorem dX2_wordOf_60 : decode cX2_wordOf 60 = .ok (.areturn, 1) := by decide +kernel
theorem dX2_wordOf_61 : decode cX2_wordOf 61 = .ok (.ldc 50, 2) := by decide +kernel
theorem dX2_wordOf_63 : decode cX2_wordOf 63 = .ok (.areturn, 1) := by decide +kernel
theorem dX2_wordOf_64 : decode cX2_wordOf 64 = .ok (.ldc 52, 2) := by decide +kernel
theorem dX2_wordOf_66 : decode cX2_wordOf 66 = .ok (.areturn, 1) := by decide +kernel
theorem dX2_wordOf_67 : decode cX2_wordOf 67 = .ok (.ldc 54, 2) := by decide +kernel
theorem dX2_wordOf_69 : decode cX2_wordOf 69 = .ok (.areturn, 1) := by decide +kernel
theorem dX2_wordOf_70 : decode cX2_wordOf 70 = .ok (.ldc 56, 2) := by decide +kernel
theorem dX2_wordOf_72 : decode cX2_wordOf 72 = .ok (.areturn, 1) := by decide +kernel
theorem dX2_wordOf_73 : decode cX2_wordOf 73 = .ok (.ldc 58, 2) := by decide +kernel
theorem dX2_wordOf_75 : decode cX2_wordOf 75 = .ok (.areturn, 1) := by decide +kernel
theorem dX2_wordOf_76 : decode cX2_wordOf 76 = .ok (.ldc 60, 2) := by decide +kernel
theorem dX2_wordOf_78 : decode cX2_wordOf 78 = .ok (.areturn, 1) := by decide +kernel
theorem dX2_wordOf_79 : decode cX2_wordOf 79 = .ok (.ldc 62, 2) := by decide +kernel
theorem dX2_wordOf_81 : decode cX2_wordOf 81 = .ok (.areturn, 1) := by decide +kernel
theorem dX3_init_0 : decode cX3_init 0 = .ok (.aload_n 0, 1) := by decide +kernel
theorem dX3_init_1 : decode cX3_init 1 = .ok (.invokespecial 3, 3) := by decide +kernel
theorem dX3_init_4 : decode cX3_init 4 = .ok (.aload_n 0, 1) := by decide +kernel
theorem dX3_init_5 : decode cX3_init 5 = .ok (.iconst (-1), 1) := by decide +kernel
theorem dX3_init_6 : decode cX3_init 6 = .ok (.putfield 9, 3) := by decide +kernel
theorem dX3_init_9 : decode cX3_init 9 = .ok (.iconst 0, 1) := by decide +kernel
theorem dX3_init_10 : decode cX3_init 10 = .ok (.iload_n 2, 1) := by decide +kernel
theorem dX3_init_11 : decode cX3_init 11 = .ok (.aload_n 1, 1) := by decide +kernel
theorem dX3_init_12 : decode cX3_init 12 = .ok (.arraylength, 1) := by decide +kernel
theorem dX3_init_13 : decode cX3_init 13 = .ok (.invokestatic 15, 3) := by decide +kernel
theorem dX3_init_16 : decode cX3_init 16 = .ok (.invokestatic 21, 3) := by decide +kernel
theorem dX3_init_19 : decode cX3_init 19 = .ok (.istore_n 3, 1) := by decide +kernel
theorem dX3_init_20 : decode cX3_init 20 = .ok (.aload_n 0, 1) := by decide +kernel
theorem dX3_init_21 : decode cX3_init 21 = .ok (.aload_n 1, 1) := by decide +kernel
theorem dX3_init_22 : decode cX3_init 22 = .ok (.iload_n 3, 1) := by decide +kernel
theorem dX3_init_23 : decode cX3_init 23 = .ok (.invokestatic 24, 3) := by decide +kernel
theorem dX3_init_26 : decode cX3_init 26 = .ok (.putfield 30, 3) := by decide +kernel
theorem dX3_init_29 : decode cX3_init 29 = .ok (.aload_n 0, 1) := by decide +kernel
theorem dX3_init_30 : decode cX3_init 30 = .ok (.iload_n 3, 1) := by decide +kernel
theorem dX3_init_31 : decode cX3_init 31 = .ok (.newarray .int, 2) := by decide +kernel
theorem dX3_init_33 : decode cX3_init 33 = .ok (.putfield 34, 3) := by decide +kernel
theorem dX3_init_36 : decode cX3_init 36 = .ok (.aload_n 0, 1) := by decide +kernel
theorem dX3_init_37 : decode cX3_init 37 = .ok (.iload_n 3, 1) := by decide +kernel
theorem dX3_init_38 : decode cX3_init 38 = .ok (.newarray .int, 2) := by decide +kernel
theorem dX3_init_40 : decode cX3_init 40 = .ok (.putfield 37, 3) := by decide +kernel
theorem dX3_init_43 : decode cX3_init 43 = .ok (.aload_n 0, 1) := by decide +kernel
theorem dX3_init_44 : decode cX3_init 44 = .ok (.iload_n 3, 1) := by decide +kernel
theorem dX3_init_45 : decode cX3_init 45 = .ok (.newarray .int, 2) := by decide +kernel
theorem dX3_init_47 : decode cX3_init 47 = .ok (.putfield 40, 3) := by decide +kernel
theorem dX3_init_50 : decode cX3_init 50 = .ok (.aload_n 0, 1) := by decide +kernel
theorem dX3_init_51 : decode cX3_init 51 = .ok (.iload_n 3, 1) := by decide +kernel
theorem dX3_init_52 : decode cX3_init 52 = .ok (.newarray .int, 2) := by decide +kernel
theorem dX3_init_54 : decode cX3_init 54 = .ok (.putfield 43, 3) := by decide +kernel
theorem dX3_init_57 : decode cX3_init 57 = .ok (.return_, 1) := by decide +kernel
theorem dX3_size_0 : decode cX3_size 0 = .ok (.aload_n 0, 1) := by decide +kernel
theorem dX3_size_1 : decode cX3_size 1 = .ok (.getfield 30, 3) := by decide +kernel
theorem dX3_size_4 : decode cX3_size 4 = .ok (.arraylength, 1) := by decide +kernel
theorem dX3_size_5 : decode cX3_size 5 = .ok (.ireturn, 1) := by decide +kernel
theorem dX3_byteAt_0 : decode cX3_byteAt 0 = .ok (.iload_n 1, 1) := by decide +kernel
theorem dX3_byteAt_1 : decode cX3_byteAt 1 = .ok (.ifCond .lt 21, 3) := by decide +kernel
theorem dX3_byteAt_4 : decode cX3_byteAt 4 = .ok (.iload_n 1, 1) := by decide +kernel
theorem dX3_byteAt_5 : decode cX3_byteAt 5 = .ok (.aload_n 0, 1) := by decide +kernel
theorem dX3_byteAt_6 : decode cX3_byteAt 6 = .ok (.getfield 30, 3) := by decide +kernel
theorem dX3_byteAt_9 : decode cX3_byteAt 9 = .ok (.arraylength, 1) := by decide +kernel
theorem dX3_byteAt_10 : decode cX3_byteAt 10 = .ok (.if_icmp .ge 12, 3) := by decide +kernel
theorem dX3_byteAt_13 : decode cX3_byteAt 13 = .ok (.aload_n 0, 1) := by decide +kernel
theorem dX3_byteAt_14 : decode cX3_byteAt 14 = .ok (.getfield 30, 3) := by decide +kernel
theorem dX3_byteAt_17 : decode cX3_byteAt 17 = .ok (.iload_n 1, 1) := by decide +kernel
theorem dX3_byteAt_18 : decode cX3_byteAt 18 = .ok (.iaload, 1) := by decide +kernel
theorem dX3_byteAt_19 : decode cX3_byteAt 19 = .ok (.goto 4, 3) := by decide +kernel
theorem dX3_byteAt_22 : decode cX3_byteAt 22 = .ok (.iconst (-1), 1) := by decide +kernel
theorem dX3_byteAt_23 : decode cX3_byteAt 23 = .ok (.ireturn, 1) := by decide +kernel
theorem dX3_sortOf_0 : decode cX3_sortOf 0 = .ok (.iload_n 1, 1) := by decide +kernel
theorem dX3_sortOf_1 : decode cX3_sortOf 1 = .ok (.ifCond .lt 21, 3) := by decide +kernel
theorem dX3_sortOf_4 : decode cX3_sortOf 4 = .ok (.iload_n 1, 1) := by decide +kernel
theorem dX3_sortOf_5 : decode cX3_sortOf 5 = .ok (.aload_n 0, 1) := by decide +kernel
theorem dX3_sortOf_6 : decode cX3_sortOf 6 = .ok (.getfield 34, 3) := by decide +kernel
theorem dX3_sortOf_9 : decode cX3_sortOf 9 = .ok (.arraylength, 1) := by decide +kernel
theorem dX3_sortOf_10 : decode cX3_sortOf 10 = .ok (.if_icmp .ge 12, 3) := by decide +kernel
theorem dX3_sortOf_13 : decode cX3_sortOf 13 = .ok (.aload_n 0, 1) := by decide +kernel
theorem dX3_sortOf_14 : decode cX3_sortOf 14 = .ok (.getfield 34, 3) := by decide +kernel
theorem dX3_sortOf_17 : decode cX3_sortOf 17 = .ok (.iload_n 1, 1) := by decide +kernel
theorem dX3_sortOf_18 : decode cX3_sortOf 18 = .ok (.iaload, 1) := by decide +kernel
theorem dX3_sortOf_19 : decode cX3_sortOf 19 = .ok (.goto 4, 3) := by decide +kernel
theorem dX3_sortOf_22 : decode cX3_sortOf 22 = .ok (.iconst (-1), 1) := by decide +kernel
theorem dX3_sortOf_23 : decode cX3_sortOf 23 = .ok (.ireturn, 1) := by decide +kernel
theorem dX3_placeOf_0 : decode cX3_placeOf 0 = .ok (.iload_n 1, 1) := by decide +kernel
theorem dX3_placeOf_1 : decode cX3_placeOf 1 = .ok (.ifCond .lt 21, 3) := by decide +kernel
theorem dX3_placeOf_4 : decode cX3_placeOf 4 = .ok (.iload_n 1, 1) := by decide +kernel
theorem dX3_placeOf_5 : decode cX3_placeOf 5 = .ok (.aload_n 0, 1) := by decide +kernel
theorem dX3_placeOf_6 : decode cX3_placeOf 6 = .ok (.getfield 37, 3) := by decide +kernel
theorem dX3_placeOf_9 : decode cX3_placeOf 9 = .ok (.arraylength, 1) := by decide +kernel
theorem dX3_placeOf_10 : decode cX3_placeOf 10 = .ok (.if_icmp .ge 12, 3) := by decide +kernel
theorem dX3_placeOf_13 : decode cX3_placeOf 13 = .ok (.aload_n 0, 1) := by decide +kernel
theorem dX3_placeOf_14 : decode cX3_placeOf 14 = .ok (.getfield 37, 3) := by decide +kernel
theorem dX3_placeOf_17 : decode cX3_placeOf 17 = .ok (.iload_n 1, 1) := by decide +kernel
theorem dX3_placeOf_18 : decode cX3_placeOf 18 = .ok (.iaload, 1) := by decide +kernel
theorem dX3_placeOf_19 : decode cX3_placeOf 19 = .ok (.goto 4, 3) := by decide +kernel
theorem dX3_placeOf_22 : decode cX3_placeOf 22 = .ok (.iconst 0, 1) := by decide +kernel
theorem dX3_placeOf_23 : decode cX3_placeOf 23 = .ok (.ireturn, 1) := by decide +kernel
theorem dX3_numberOf_0 : decode cX3_numberOf 0 = .ok (.iload_n 1, 1) := by decide +kernel
theorem dX3_numberOf_1 : decode cX3_numberOf 1 = .ok (.ifCond .lt 21, 3) := by decide +kernel
theorem dX3_numberOf_4 : decode cX3_numberOf 4 = .ok (.iload_n 1, 1) := by decide +kernel
theorem dX3_numberOf_5 : decode cX3_numberOf 5 = .ok (.aload_n 0, 1) := by decide +kernel
theorem dX3_numberOf_6 : decode cX3_numberOf 6 = .ok (.getfield 40, 3) := by decide +kernel
theorem dX3_numberOf_9 : decode cX3_numberOf 9 = .ok (.arraylength, 1) := by decide +kernel
theorem dX3_numberOf_10 : decode cX3_numberOf 10 = .ok (.if_icmp .ge 12, 3) := by decide +kernel
theorem dX3_numberOf_13 : decode cX3_numberOf 13 = .ok (.aload_n 0, 1) := by decide +kernel
theorem dX3_numberOf_14 : decode cX3_numberOf 14 = .ok (.getfield 40, 3) := by decide +kernel
theorem dX3_numberOf_17 : decode cX3_numberOf 17 = .ok (.iload_n 1, 1) := by decide +kernel
theorem dX3_numberOf_18 : decode cX3_numberOf 18 = .ok (.iaload, 1) := by decide +kernel
theorem dX3_numberOf_19 : decode cX3_numberOf 19 = .ok (.goto 4, 3) := by decide +kernel
theorem dX3_numberOf_22 : decode cX3_numberOf 22 = .ok (.iconst 0, 1) := by decide +kernel
theorem dX3_numberOf_23 : decode cX3_numberOf 23 = .ok (.ireturn, 1) := by decide +kernel
theorem dX3_endOf_0 : decode cX3_endOf 0 = .ok (.iload_n 1, 1) := by decide +kernel
theorem dX3_endOf_1 : decode cX3_endOf 1 = .ok (.ifCond .lt 21, 3) := by decide +kernel
theorem dX3_endOf_4 : decode cX3_endOf 4 = .ok (.iload_n 1, 1) := by decide +kernel
theorem dX3_endOf_5 : decode cX3_endOf 5 = .ok (.aload_n 0, 1) := by decide +kernel
theorem dX3_endOf_6 : decode cX3_endOf 6 = .ok (.getfield 43, 3) := by decide +kernel
theorem dX3_endOf_9 : decode cX3_endOf 9 = .ok (.arraylength, 1) := by decide +kernel
theorem dX3_endOf_10 : decode cX3_endOf 10 = .ok (.if_icmp .ge 12, 3) := by decide +kernel
theorem dX3_endOf_13 : decode cX3_endOf 13 = .ok (.aload_n 0, 1) := by decide +kernel
theorem dX3_endOf_14 : decode cX3_endOf 14 = .ok (.getfield 43, 3) := by decide +kernel
theorem dX3_endOf_17 : decode cX3_endOf 17 = .ok (.iload_n 1, 1) := by decide +kernel
theorem dX3_endOf_18 : decode cX3_endOf 18 = .ok (.iaload, 1) := by decide +kernel
theorem dX3_endOf_19 : decode cX3_endOf 19 = .ok (.goto 7, 3) := by decide +kernel
theorem dX3_endOf_22 : decode cX3_endOf 22 = .ok (.aload_n 0, 1) := by decide +kernel
theorem dX3_endOf_23 : decode cX3_endOf 23 = .ok (.getfield 46, 3) := by decide +kernel
theorem dX3_endOf_26 : decode cX3_endOf 26 = .ok (.ireturn, 1) := by decide +kernel
theorem dX3_readText_0 : decode cX3_readText 0 = .ok (.aload_n 0, 1) := by decide +kernel
theorem dX3_readText_1 : decode cX3_readText 1 = .ok (.iconst 0, 1) := by decide +kernel
theorem dX3_readText_2 : decode cX3_readText 2 = .ok (.invokevirtual 49, 3) := by decide +kernel
theorem dX3_readText_5 : decode cX3_readText 5 = .ok (.aload_n 0, 1) := by decide +kernel
theorem dX3_readText_6 : decode cX3_readText 6 = .ok (.getfield 9, 3) := by decide +kernel
theorem dX3_readText_9 : decode cX3_readText 9 = .ok (.iconst (-1), 1) := by decide +kernel
theorem dX3_readText_10 : decode cX3_readText 10 = .ok (.if_icmp .ne 23, 3) := by decide +kernel
theorem dX3_readText_13 : decode cX3_readText 13 = .ok (.aload_n 0, 1) := by decide +kernel
theorem dX3_readText_14 : decode cX3_readText 14 = .ok (.getfield 53, 3) := by decide +kernel
theorem dX3_readText_17 : decode cX3_readText 17 = .ok (.aload_n 0, 1) := by decide +kernel
theorem dX3_readText_18 : decode cX3_readText 18 = .ok (.getfield 30, 3) := by decide +kernel
theorem dX3_readText_21 : decode cX3_readText 21 = .ok (.arraylength, 1) := by decide +kernel
theorem dX3_readText_22 : decode cX3_readText 22 = .ok (.if_icmp .ge 11, 3) := by decide +kernel
theorem dX3_readText_25 : decode cX3_readText 25 = .ok (.aload_n 0, 1) := by decide +kernel
theorem dX3_readText_26 : decode cX3_readText 26 = .ok (.aload_n 0, 1) := by decide +kernel
theorem dX3_readText_27 : decode cX3_readText 27 = .ok (.getfield 53, 3) := by decide +kernel
theorem dX3_readText_30 : decode cX3_readText 30 = .ok (.putfield 9, 3) := by decide +kernel
theorem dX3_readText_33 : decode cX3_readText 33 = .ok (.return_, 1) := by decide +kernel
theorem dX3_readParts_0 : decode cX3_readParts 0 = .ok (.aload_n 0, 1) := by decide +kernel
theorem dX3_readParts_1 : decode cX3_readParts 1 = .ok (.iload_n 1, 1) := by decide +kernel
theorem dX3_readParts_2 : decode cX3_readParts 2 = .ok (.invokevirtual 56, 3) := by decide +kernel
theorem dX3_readParts_5 : decode cX3_readParts 5 = .ok (.iconst 0, 1) := by decide +kernel
theorem dX3_readParts_6 : decode cX3_readParts 6 = .ok (.istore_n 2, 1) := by decide +kernel
theorem dX3_readParts_7 : decode cX3_readParts 7 = .ok (.iload_n 2, 1) := by decide +kernel
theorem dX3_readParts_8 : decode cX3_readParts 8 = .ok (.aload_n 0, 1) := by decide +kernel
theorem dX3_readParts_9 : decode cX3_readParts 9 = .ok (.getfield 30, 3) := by decide +kernel
theorem dX3_readParts_12 : decode cX3_readParts 12 = .ok (.arraylength, 1) := by decide +kernel
theorem dX3_readParts_13 : decode cX3_readParts 13 = .ok (.if_icmp .ge 46, 3) := by decide +kernel
theorem dX3_readParts_16 : decode cX3_readParts 16 = .ok (.aload_n 0, 1) := by decide +kernel
theorem dX3_readParts_17 : decode cX3_readParts 17 = .ok (.getfield 9, 3) := by decide +kernel
theorem dX3_readParts_20 : decode cX3_readParts 20 = .ok (.iconst (-1), 1) := by decide +kernel
theorem dX3_readParts_21 : decode cX3_readParts 21 = .ok (.if_icmp .ne 16, 3) := by decide +kernel
theorem dX3_readParts_24 : decode cX3_readParts 24 = .ok (.aload_n 0, 1) := by decide +kernel
theorem dX3_readParts_25 : decode cX3_readParts 25 = .ok (.aload_n 0, 1) := by decide +kernel
theorem dX3_readParts_26 : decode cX3_readParts 26 = .ok (.getfield 53, 3) := by decide +kernel
theorem dX3_readParts_29 : decode cX3_readParts 29 = .ok (.invokevirtual 59, 3) := by decide +kernel
theorem dX3_readParts_32 : decode cX3_readParts 32 = .ok (.bipush 44, 2) := by decide +kernel
theorem dX3_readParts_34 : decode cX3_readParts 34 = .ok (.if_icmp .eq 4, 3) := by decide +kernel
theorem dX3_readParts_37 : decode cX3_readParts 37 = .ok (.return_, 1) := by decide +kernel
theorem dX3_readParts_38 : decode cX3_readParts 38 = .ok (.aload_n 0, 1) := by decide +kernel
theorem dX3_readParts_39 : decode cX3_readParts 39 = .ok (.dup, 1) := by decide +kernel
theorem dX3_readParts_40 : decode cX3_readParts 40 = .ok (.getfield 53, 3) := by decide +kernel
theorem dX3_readParts_43 : decode cX3_readParts 43 = .ok (.iconst 1, 1) := by decide +kernel
theorem dX3_readParts_44 : decode cX3_readParts 44 = .ok (.iadd, 1) := by decide +kernel
theorem dX3_readParts_45 : decode cX3_readParts 45 = .ok (.putfield 53, 3) := by decide +kernel
theorem dX3_readParts_48 : decode cX3_readParts 48 = .ok (.aload_n 0, 1) := by decide +kernel
theorem dX3_readParts_49 : decode cX3_readParts 49 = .ok (.iload_n 1, 1) := by decide +kernel
theorem dX3_readParts_50 : decode cX3_readParts 50 = .ok (.invokevirtual 56, 3) := by decide +kernel
theorem dX3_readParts_53 : decode cX3_readParts 53 = .ok (.iinc 2 1, 3) := by decide +kernel
theorem dX3_readParts_56 : decode cX3_readParts 56 = .ok (.goto (-49), 3) := by decide +kernel
theorem dX3_readParts_59 : decode cX3_readParts 59 = .ok (.return_, 1) := by decide +kernel
theorem dX3_readPart_0 : decode cX3_readPart 0 = .ok (.aload_n 0, 1) := by decide +kernel
theorem dX3_readPart_1 : decode cX3_readPart 1 = .ok (.aload_n 0, 1) := by decide +kernel
theorem dX3_readPart_2 : decode cX3_readPart 2 = .ok (.getfield 53, 3) := by decide +kernel
theorem dX3_readPart_5 : decode cX3_readPart 5 = .ok (.invokevirtual 59, 3) := by decide +kernel
theorem dX3_readPart_8 : decode cX3_readPart 8 = .ok (.istore_n 2, 1) := by decide +kernel
theorem dX3_readPart_9 : decode cX3_readPart 9 = .ok (.iload_n 2, 1) := by decide +kernel
theorem dX3_readPart_10 : decode cX3_readPart 10 = .ok (.invokestatic 63, 3) := by decide +kernel
theorem dX3_readPart_13 : decode cX3_readPart 13 = .ok (.ifCond .eq 11, 3) := by decide +kernel
theorem dX3_readPart_16 : decode cX3_readPart 16 = .ok (.aload_n 0, 1) := by decide +kernel
theorem dX3_readPart_17 : decode cX3_readPart 17 = .ok (.iload_n 1, 1) := by decide +kernel
theorem dX3_readPart_18 : decode cX3_readPart 18 = .ok (.invokevirtual 67, 3) := by decide +kernel
theorem dX3_readPart_21 : decode cX3_readPart 21 = .ok (.goto 52, 3) := by decide +kernel
theorem dX3_readPart_24 : decode cX3_readPart 24 = .ok (.iload_n 2, 1) := by decide +kernel
theorem dX3_readPart_25 : decode cX3_readPart 25 = .ok (.bipush 40, 2) := by decide +kernel
theorem dX3_readPart_27 : decode cX3_readPart 27 = .ok (.if_icmp .ne 15, 3) := by decide +kernel
theorem dX3_readPart_30 : decode cX3_readPart 30 = .ok (.aload_n 0, 1) := by decide +kernel
theorem dX3_readPart_31 : decode cX3_readPart 31 = .ok (.iconst 1, 1) := by decide +kernel
theorem dX3_readPart_32 : decode cX3_readPart 32 = .ok (.bipush 41, 2) := by decide +kernel
theorem dX3_readPart_34 : decode cX3_readPart 34 = .ok (.iconst 1, 1) := by decide +kernel
theorem dX3_readPart_35 : decode cX3_readPart 35 = .ok (.iload_n 1, 1) := by decide +kernel
theorem dX3_readPart_36 : decode cX3_readPart 36 = .ok (.invokevirtual 70, 3) := by decide +kernel
theorem dX3_readPart_39 : decode cX3_readPart 39 = .ok (.goto 34, 3) := by decide +kernel
theorem dX3_readPart_42 : decode cX3_readPart 42 = .ok (.iload_n 2, 1) := by decide +kernel
theorem dX3_readPart_43 : decode cX3_readPart 43 = .ok (.bipush 60, 2) := by decide +kernel
theorem dX3_readPart_45 : decode cX3_readPart 45 = .ok (.if_icmp .ne 20, 3) := by decide +kernel
theorem dX3_readPart_48 : decode cX3_readPart 48 = .ok (.aload_n 0, 1) := by decide +kernel
theorem dX3_readPart_49 : decode cX3_readPart 49 = .ok (.iconst 1, 1) := by decide +kernel
theorem dX3_readPart_50 : decode cX3_readPart 50 = .ok (.putfield 74, 3) := by decide +kernel
theorem dX3_readPart_53 : decode cX3_readPart 53 = .ok (.aload_n 0, 1) := by decide +kernel
theorem dX3_readPart_54 : decode cX3_readPart 54 = .ok (.iconst 2, 1) := by decide +kernel
theorem dX3_readPart_55 : decode cX3_readPart 55 = .ok (.bipush 62, 2) := by decide +kernel
theorem dX3_readPart_57 : decode cX3_readPart 57 = .ok (.iconst 0, 1) := by decide +kernel
theorem dX3_readPart_58 : decode cX3_readPart 58 = .ok (.iload_n 1, 1) := by decide +kernel
theorem dX3_readPart_59 : decode cX3_readPart 59 = .ok (.invokevirtual 70, 3) := by decide +kernel
theorem dX3_readPart_62 : decode cX3_readPart 62 = .ok (.goto 11, 3) := by decide +kernel
theorem dX3_readPart_65 : decode cX3_readPart 65 = .ok (.aload_n 0, 1) := by decide +kernel
theorem dX3_readPart_66 : decode cX3_readPart 66 = .ok (.aload_n 0, 1) := by decide +kernel
theorem dX3_readPart_67 : decode cX3_readPart 67 = .ok (.getfield 53, 3) := by decide +kernel
theorem dX3_readPart_70 : decode cX3_readPart 70 = .ok (.putfield 9, 3) := by decide +kernel
theorem dX3_readPart_73 : decode cX3_readPart 73 = .ok (.return_, 1) := by decide +kernel
theorem dX3_readWord_0 : decode cX3_readWord 0 = .ok (.aload_n 0, 1) := by decide +kernel
theorem dX3_readWord_1 : decode cX3_readWord 1 = .ok (.getfield 53, 3) := by decide +kernel
theorem dX3_readWord_4 : decode cX3_readWord 4 = .ok (.istore_n 2, 1) := by decide +kernel
theorem dX3_readWord_5 : decode cX3_readWord 5 = .ok (.aload_n 0, 1) := by decide +kernel
theorem dX3_readWord_6 : decode cX3_readWord 6 = .ok (.getfield 53, 3) := by decide +kernel
theorem dX3_readWord_9 : decode cX3_readWord 9 = .ok (.aload_n 0, 1) := by decide +kernel
theorem dX3_readWord_10 : decode cX3_readWord 10 = .ok (.getfield 30, 3) := by decide +kernel
theorem dX3_readWord_13 : decode cX3_readWord 13 = .ok (.arraylength, 1) := by decide +kernel
theorem dX3_readWord_14 : decode cX3_readWord 14 = .ok (.if_icmp .ge 30, 3) := by decide +kernel
theorem dX3_readWord_17 : decode cX3_readWord 17 = .ok (.aload_n 0, 1) := by decide +kernel
theorem dX3_readWord_18 : decode cX3_readWord 18 = .ok (.aload_n 0, 1) := by decide +kernel
theorem dX3_readWord_19 : decode cX3_readWord 19 = .ok (.getfield 53, 3) := by decide +kernel
theorem dX3_readWord_22 : decode cX3_readWord 22 = .ok (.invokevirtual 59, 3) := by decide +kernel
theorem dX3_readWord_25 : decode cX3_readWord 25 = .ok (.invokestatic 63, 3) := by decide +kernel
theorem dX3_readWord_28 : decode cX3_readWord 28 = .ok (.ifCond .eq 16, 3) := by decide +kernel
theorem dX3_readWord_31 : decode cX3_readWord 31 = .ok (.aload_n 0, 1) := by decide +kernel
theorem dX3_readWord_32 : decode cX3_readWord 32 = .ok (.dup, 1) := by decide +kernel
theorem dX3_readWord_33 : decode cX3_readWord 33 = .ok (.getfield 53, 3) := by decide +kernel
theorem dX3_readWord_36 : decode cX3_readWord 36 = .ok (.iconst 1, 1) := by decide +kernel
theorem dX3_readWord_37 : decode cX3_readWord 37 = .ok (.iadd, 1) := by decide +kernel
theorem dX3_readWord_38 : decode cX3_readWord 38 = .ok (.putfield 53, 3) := by decide +kernel
theorem dX3_readWord_41 : decode cX3_readWord 41 = .ok (.goto (-36), 3) := by decide +kernel
theorem dX3_readWord_44 : decode cX3_readWord 44 = .ok (.aload_n 0, 1) := by decide +kernel
theorem dX3_readWord_45 : decode cX3_readWord 45 = .ok (.iload_n 2, 1) := by decide +kernel
theorem dX3_readWord_46 : decode cX3_readWord 46 = .ok (.aload_n 0, 1) := by decide +kernel
theorem dX3_readWord_47 : decode cX3_readWord 47 = .ok (.getfield 53, 3) := by decide +kernel
theorem dX3_readWord_50 : decode cX3_readWord 50 = .ok (.invokevirtual 78, 3) := by decide +kernel
theorem dX3_readWord_53 : decode cX3_readWord 53 = .ok (.istore_n 3, 1) := by decide +kernel
theorem dX3_readWord_54 : decode cX3_readWord 54 = .ok (.iload_n 3, 1) := by decide +kernel
theorem dX3_readWord_55 : decode cX3_readWord 55 = .ok (.iconst (-1), 1) := by decide +kernel
theorem dX3_readWord_56 : decode cX3_readWord 56 = .ok (.if_icmp .ne 9, 3) := by decide +kernel
theorem dX3_readWord_59 : decode cX3_readWord 59 = .ok (.aload_n 0, 1) := by decide +kernel
theorem dX3_readWord_60 : decode cX3_readWord 60 = .ok (.iload_n 2, 1) := by decide +kernel
theorem dX3_readWord_61 : decode cX3_readWord 61 = .ok (.putfield 9, 3) := by decide +kernel
theorem dX3_readWord_64 : decode cX3_readWord 64 = .ok (.return_, 1) := by decide +kernel
theorem dX3_readWord_65 : decode cX3_readWord 65 = .ok (.aload_n 0, 1) := by decide +kernel
theorem dX3_readWord_66 : decode cX3_readWord 66 = .ok (.iload_n 3, 1) := by decide +kernel
theorem dX3_readWord_67 : decode cX3_readWord 67 = .ok (.iload_n 2, 1) := by decide +kernel
theorem dX3_readWord_68 : decode cX3_readWord 68 = .ok (.iload_n 1, 1) := by decide +kernel
theorem dX3_readWord_69 : decode cX3_readWord 69 = .ok (.invokevirtual 81, 3) := by decide +kernel
theorem dX3_readWord_72 : decode cX3_readWord 72 = .ok (.istore 4, 2) := by decide +kernel
theorem dX3_readWord_74 : decode cX3_readWord 74 = .ok (.aload_n 0, 1) := by decide +kernel
theorem dX3_readWord_75 : decode cX3_readWord 75 = .ok (.iload 4, 2) := by decide +kernel
theorem dX3_readWord_77 : decode cX3_readWord 77 = .ok (.aload_n 0, 1) := by decide +kernel
theorem dX3_readWord_78 : decode cX3_readWord 78 = .ok (.aload_n 0, 1) := by decide +kernel
theorem dX3_readWord_79 : decode cX3_readWord 79 = .ok (.getfield 53, 3) := by decide +kernel
theorem dX3_readWord_82 : decode cX3_readWord 82 = .ok (.invokevirtual 59, 3) := by decide +kernel
theorem dX3_readWord_85 : decode cX3_readWord 85 = .ok (.invokestatic 85, 3) := by decide +kernel
theorem dX3_readWord_88 : decode cX3_readWord 88 = .ok (.ifCond .eq 11, 3) := by decide +kernel
theorem dX3_readWord_91 : decode cX3_readWord 91 = .ok (.aload_n 0, 1) := by decide +kernel
theorem dX3_readWord_92 : decode cX3_readWord 92 = .ok (.iconst 1, 1) := by decide +kernel
theorem dX3_readWord_93 : decode cX3_readWord 93 = .ok (.invokevirtual 88, 3) := by decide +kernel
theorem dX3_readWord_96 : decode cX3_readWord 96 = .ok (.goto 4, 3) := by decide +kernel
theorem dX3_readWord_99 : decode cX3_readWord 99 = .ok (.iconst 1, 1) := by decide +kernel
theorem dX3_readWord_100 : decode cX3_readWord 100 = .ok (.invokevirtual 91, 3) := by decide +kernel
theorem dX3_readWord_103 : decode cX3_readWord 103 = .ok (.return_, 1) := by decide +kernel
theorem dX3_readGroup_0 : decode cX3_readGroup 0 = .ok (.iload 4, 2) := by decide +kernel
theorem dX3_readGroup_2 : decode cX3_readGroup 2 = .ok (.iconst 4, 1) := by decide +kernel
theorem dX3_readGroup_3 : decode cX3_readGroup 3 = .ok (.if_icmp .le 12, 3) := by decide +kernel
theorem dX3_readGroup_6 : decode cX3_readGroup 6 = .ok (.aload_n 0, 1) := by decide +kernel
theorem dX3_readGroup_7 : decode cX3_readGroup 7 = .ok (.aload_n 0, 1) := by decide +kernel
theorem dX3_readGroup_8 : decode cX3_readGroup 8 = .ok (.getfield 53, 3) := by decide +kernel
theorem dX3_readGroup_11 : decode cX3_readGroup 11 = .ok (.putfield 9, 3) := by decide +kernel
theorem dX3_readGroup_14 : decode cX3_readGroup 14 = .ok (.return_, 1) := by decide +kernel
theorem dX3_readGroup_15 : decode cX3_readGroup 15 = .ok (.aload_n 0, 1) := by decide +kernel
theorem dX3_readGroup_16 : decode cX3_readGroup 16 = .ok (.iload_n 1, 1) := by decide +kernel
theorem dX3_readGroup_17 : decode cX3_readGroup 17 = .ok (.aload_n 0, 1) := by decide +kernel
theorem dX3_readGroup_18 : decode cX3_readGroup 18 = .ok (.getfield 53, 3) := by decide +kernel
theorem dX3_readGroup_21 : decode cX3_readGroup 21 = .ok (.iload 4, 2) := by decide +kernel
theorem dX3_readGroup_23 : decode cX3_readGroup 23 = .ok (.invokevirtual 81, 3) := by decide +kernel
theorem dX3_readGroup_26 : decode cX3_readGroup 26 = .ok (.istore 5, 2) := by decide +kernel
theorem dX3_readGroup_28 : decode cX3_readGroup 28 = .ok (.aload_n 0, 1) := by decide +kernel
theorem dX3_readGroup_29 : decode cX3_readGroup 29 = .ok (.dup, 1) := by decide +kernel
theorem dX3_readGroup_30 : decode cX3_readGroup 30 = .ok (.getfield 53, 3) := by decide +kernel
theorem dX3_readGroup_33 : decode cX3_readGroup 33 = .ok (.iconst 1, 1) := by decide +kernel
theorem dX3_readGroup_34 : decode cX3_readGroup 34 = .ok (.iadd, 1) := by decide +kernel
theorem dX3_readGroup_35 : decode cX3_readGroup 35 = .ok (.putfield 53, 3) := by decide +kernel
theorem dX3_readGroup_38 : decode cX3_readGroup 38 = .ok (.aload_n 0, 1) := by decide +kernel
theorem dX3_readGroup_39 : decode cX3_readGroup 39 = .ok (.iload 4, 2) := by decide +kernel
theorem dX3_readGroup_41 : decode cX3_readGroup 41 = .ok (.iconst 1, 1) := by decide +kernel
theorem dX3_readGroup_42 : decode cX3_readGroup 42 = .ok (.iadd, 1) := by decide +kernel
theorem dX3_readGroup_43 : decode cX3_readGroup 43 = .ok (.invokevirtual 49, 3) := by decide +kernel
theorem dX3_readGroup_46 : decode cX3_readGroup 46 = .ok (.aload_n 0, 1) := by decide +kernel
theorem dX3_readGroup_47 : decode cX3_readGroup 47 = .ok (.getfield 9, 3) := by decide +kernel
theorem dX3_readGroup_50 : decode cX3_readGroup 50 = .ok (.iconst (-1), 1) := by decide +kernel
theorem dX3_readGroup_51 : decode cX3_readGroup 51 = .ok (.if_icmp .eq 4, 3) := by decide +kernel
theorem dX3_readGroup_54 : decode cX3_readGroup 54 = .ok (.return_, 1) := by decide +kernel
theorem dX3_readGroup_55 : decode cX3_readGroup 55 = .ok (.aload_n 0, 1) := by decide +kernel
theorem dX3_readGroup_56 : decode cX3_readGroup 56 = .ok (.aload_n 0, 1) := by decide +kernel
theorem dX3_readGroup_57 : decode cX3_readGroup 57 = .ok (.getfield 53, 3) := by decide +kernel
theorem dX3_readGroup_60 : decode cX3_readGroup 60 = .ok (.invokevirtual 59, 3) := by decide +kernel
theorem dX3_readGroup_63 : decode cX3_readGroup 63 = .ok (.iload_n 2, 1) := by decide +kernel
theorem dX3_readGroup_64 : decode cX3_readGroup 64 = .ok (.if_icmp .eq 12, 3) := by decide +kernel
theorem dX3_readGroup_67 : decode cX3_readGroup 67 = .ok (.aload_n 0, 1) := by decide +kernel
theorem dX3_readGroup_68 : decode cX3_readGroup 68 = .ok (.aload_n 0, 1) := by decide +kernel
theorem dX3_readGroup_69 : decode cX3_readGroup 69 = .ok (.getfield 53, 3) := by decide +kernel
theorem dX3_readGroup_72 : decode cX3_readGroup 72 = .ok (.putfield 9, 3) := by decide +kernel
theorem dX3_readGroup_75 : decode cX3_readGroup 75 = .ok (.return_, 1) := by decide +kernel
theorem dX3_readGroup_76 : decode cX3_readGroup 76 = .ok (.aload_n 0, 1) := by decide +kernel
theorem dX3_readGroup_77 : decode cX3_readGroup 77 = .ok (.dup, 1) := by decide +kernel
theorem dX3_readGroup_78 : decode cX3_readGroup 78 = .ok (.getfield 53, 3) := by decide +kernel
theorem dX3_readGroup_81 : decode cX3_readGroup 81 = .ok (.iconst 1, 1) := by decide +kernel
theorem dX3_readGroup_82 : decode cX3_readGroup 82 = .ok (.iadd, 1) := by decide +kernel
theorem dX3_readGroup_83 : decode cX3_readGroup 83 = .ok (.putfield 53, 3) := by decide +kernel
theorem dX3_readGroup_86 : decode cX3_readGroup 86 = .ok (.aload_n 0, 1) := by decide +kernel
theorem dX3_readGroup_87 : decode cX3_readGroup 87 = .ok (.iload 5, 2) := by decide +kernel
theorem dX3_readGroup_89 : decode cX3_readGroup 89 = .ok (.aload_n 0, 1) := by decide +kernel
theorem dX3_readGroup_90 : decode cX3_readGroup 90 = .ok (.iload_n 3, 1) := by decide +kernel
theorem dX3_readGroup_91 : decode cX3_readGroup 91 = .ok (.invokevirtual 88, 3) := by decide +kernel
theorem dX3_readGroup_94 : decode cX3_readGroup 94 = .ok (.invokevirtual 91, 3) := by decide +kernel
theorem dX3_readGroup_97 : decode cX3_readGroup 97 = .ok (.return_, 1) := by decide +kernel
theorem dX3_readNumber_0 : decode cX3_readNumber 0 = .ok (.aload_n 0, 1) := by decide +kernel
theorem dX3_readNumber_1 : decode cX3_readNumber 1 = .ok (.getfield 53, 3) := by decide +kernel
theorem dX3_readNumber_4 : decode cX3_readNumber 4 = .ok (.istore_n 2, 1) := by decide +kernel
theorem dX3_readNumber_5 : decode cX3_readNumber 5 = .ok (.iconst 0, 1) := by decide +kernel
theorem dX3_readNumber_6 : decode cX3_readNumber 6 = .ok (.istore_n 3, 1) := by decide +kernel
theorem dX3_readNumber_7 : decode cX3_readNumber 7 = .ok (.aload_n 0, 1) := by decide +kernel
theorem dX3_readNumber_8 : decode cX3_readNumber 8 = .ok (.getfield 53, 3) := by decide +kernel
theorem dX3_readNumber_11 : decode cX3_readNumber 11 = .ok (.iload_n 2, 1) := by decide +kernel
theorem dX3_readNumber_12 : decode cX3_readNumber 12 = .ok (.iconst 2, 1) := by decide +kernel
theorem dX3_readNumber_13 : decode cX3_readNumber 13 = .ok (.iadd, 1) := by decide +kernel
theorem dX3_readNumber_14 : decode cX3_readNumber 14 = .ok (.if_icmp .ge 47, 3) := by decide +kernel
theorem dX3_readNumber_17 : decode cX3_readNumber 17 = .ok (.aload_n 0, 1) := by decide +kernel
theorem dX3_readNumber_18 : decode cX3_readNumber 18 = .ok (.aload_n 0, 1) := by decide +kernel
theorem dX3_readNumber_19 : decode cX3_readNumber 19 = .ok (.getfield 53, 3) := by decide +kernel
theorem dX3_readNumber_22 : decode cX3_readNumber 22 = .ok (.invokevirtual 59, 3) := by decide +kernel
theorem dX3_readNumber_25 : decode cX3_readNumber 25 = .ok (.invokestatic 85, 3) := by decide +kernel
theorem dX3_readNumber_28 : decode cX3_readNumber 28 = .ok (.ifCond .eq 33, 3) := by decide +kernel
theorem dX3_readNumber_31 : decode cX3_readNumber 31 = .ok (.iload_n 3, 1) := by decide +kernel
theorem dX3_readNumber_32 : decode cX3_readNumber 32 = .ok (.bipush 10, 2) := by decide +kernel
theorem dX3_readNumber_34 : decode cX3_readNumber 34 = .ok (.imul, 1) := by decide +kernel
theorem dX3_readNumber_35 : decode cX3_readNumber 35 = .ok (.aload_n 0, 1) := by decide +kernel
theorem dX3_readNumber_36 : decode cX3_readNumber 36 = .ok (.aload_n 0, 1) := by decide +kernel
theorem dX3_readNumber_37 : decode cX3_readNumber 37 = .ok (.getfield 53, 3) := by decide +kernel
theorem dX3_readNumber_40 : decode cX3_readNumber 40 = .ok (.invokevirtual 59, 3) := by decide +kernel
theorem dX3_readNumber_43 : decode cX3_readNumber 43 = .ok (.iadd, 1) := by decide +kernel
theorem dX3_readNumber_44 : decode cX3_readNumber 44 = .ok (.bipush 48, 2) := by decide +kernel
theorem dX3_readNumber_46 : decode cX3_readNumber 46 = .ok (.isub, 1) := by decide +kernel
theorem dX3_readNumber_47 : decode cX3_readNumber 47 = .ok (.istore_n 3, 1) := by decide +kernel
theorem dX3_readNumber_48 : decode cX3_readNumber 48 = .ok (.aload_n 0, 1) := by decide +kernel
theorem dX3_readNumber_49 : decode cX3_readNumber 49 = .ok (.dup, 1) := by decide +kernel
theorem dX3_readNumber_50 : decode cX3_readNumber 50 = .ok (.getfield 53, 3) := by decide +kernel
theorem dX3_readNumber_53 : decode cX3_readNumber 53 = .ok (.iconst 1, 1) := by decide +kernel
theorem dX3_readNumber_54 : decode cX3_readNumber 54 = .ok (.iadd, 1) := by decide +kernel
theorem dX3_readNumber_55 : decode cX3_readNumber 55 = .ok (.putfield 53, 3) := by decide +kernel
theorem dX3_readNumber_58 : decode cX3_readNumber 58 = .ok (.goto (-51), 3) := by decide +kernel
theorem dX3_readNumber_61 : decode cX3_readNumber 61 = .ok (.aload_n 0, 1) := by decide +kernel
theorem dX3_readNumber_62 : decode cX3_readNumber 62 = .ok (.getfield 53, 3) := by decide +kernel
theorem dX3_readNumber_65 : decode cX3_readNumber 65 = .ok (.iload_n 2, 1) := by decide +kernel
theorem dX3_readNumber_66 : decode cX3_readNumber 66 = .ok (.if_icmp .eq 14, 3) := by decide +kernel
theorem dX3_readNumber_69 : decode cX3_readNumber 69 = .ok (.iload_n 3, 1) := by decide +kernel
theorem dX3_readNumber_70 : decode cX3_readNumber 70 = .ok (.iload_n 1, 1) := by decide +kernel
theorem dX3_readNumber_71 : decode cX3_readNumber 71 = .ok (.if_icmp .lt 9, 3) := by decide +kernel
theorem dX3_readNumber_74 : decode cX3_readNumber 74 = .ok (.iload_n 3, 1) := by decide +kernel
theorem dX3_readNumber_75 : decode cX3_readNumber 75 = .ok (.bipush 60, 2) := by decide +kernel
theorem dX3_readNumber_77 : decode cX3_readNumber 77 = .ok (.if_icmp .le 8, 3) := by decide +kernel
theorem dX3_readNumber_80 : decode cX3_readNumber 80 = .ok (.aload_n 0, 1) := by decide +kernel
theorem dX3_readNumber_81 : decode cX3_readNumber 81 = .ok (.iload_n 2, 1) := by decide +kernel
theorem dX3_readNumber_82 : decode cX3_readNumber 82 = .ok (.putfield 9, 3) := by decide +kernel
theorem dX3_readNumber_85 : decode cX3_readNumber 85 = .ok (.iload_n 3, 1) := by decide +kernel
theorem dX3_readNumber_86 : decode cX3_readNumber 86 = .ok (.ireturn, 1) := by decide +kernel
theorem dX3_openPart_0 : decode cX3_openPart 0 = .ok (.aload_n 0, 1) := by decide +kernel
theorem dX3_openPart_1 : decode cX3_openPart 1 = .ok (.getfield 46, 3) := by decide +kernel
theorem dX3_openPart_4 : decode cX3_openPart 4 = .ok (.istore 4, 2) := by decide +kernel
theorem dX3_openPart_6 : decode cX3_openPart 6 = .ok (.iload 4, 2) := by decide +kernel
theorem dX3_openPart_8 : decode cX3_openPart 8 = .ok (.ifCond .lt 49, 3) := by decide +kernel
theorem dX3_openPart_11 : decode cX3_openPart 11 = .ok (.iload 4, 2) := by decide +kernel
theorem dX3_openPart_13 : decode cX3_openPart 13 = .ok (.aload_n 0, 1) := by decide +kernel
theorem dX3_openPart_14 : decode cX3_openPart 14 = .ok (.getfield 34, 3) := by decide +kernel
theorem dX3_openPart_17 : decode cX3_openPart 17 = .ok (.arraylength, 1) := by decide +kernel
theorem dX3_openPart_18 : decode cX3_openPart 18 = .ok (.if_icmp .ge 39, 3) := by decide +kernel
theorem dX3_openPart_21 : decode cX3_openPart 21 = .ok (.iload 4, 2) := by decide +kernel
theorem dX3_openPart_23 : decode cX3_openPart 23 = .ok (.aload_n 0, 1) := by decide +kernel
theorem dX3_openPart_24 : decode cX3_openPart 24 = .ok (.getfield 37, 3) := by decide +kernel
theorem dX3_openPart_27 : decode cX3_openPart 27 = .ok (.arraylength, 1) := by decide +kernel
theorem dX3_openPart_28 : decode cX3_openPart 28 = .ok (.if_icmp .ge 29, 3) := by decide +kernel
theorem dX3_openPart_31 : decode cX3_openPart 31 = .ok (.aload_n 0, 1) := by decide +kernel
theorem dX3_openPart_32 : decode cX3_openPart 32 = .ok (.getfield 34, 3) := by decide +kernel
theorem dX3_openPart_35 : decode cX3_openPart 35 = .ok (.iload 4, 2) := by decide +kernel
theorem dX3_openPart_37 : decode cX3_openPart 37 = .ok (.iload_n 1, 1) := by decide +kernel
theorem dX3_openPart_38 : decode cX3_openPart 38 = .ok (.iastore, 1) := by decide +kernel
theorem dX3_openPart_39 : decode cX3_openPart 39 = .ok (.aload_n 0, 1) := by decide +kernel
theorem dX3_openPart_40 : decode cX3_openPart 40 = .ok (.getfield 37, 3) := by decide +kernel
theorem dX3_openPart_43 : decode cX3_openPart 43 = .ok (.iload 4, 2) := by decide +kernel
theorem dX3_openPart_45 : decode cX3_openPart 45 = .ok (.iload_n 2, 1) := by decide +kernel
theorem dX3_openPart_46 : decode cX3_openPart 46 = .ok (.iastore, 1) := by decide +kernel
theorem dX3_openPart_47 : decode cX3_openPart 47 = .ok (.aload_n 0, 1) := by decide +kernel
theorem dX3_openPart_48 : decode cX3_openPart 48 = .ok (.dup, 1) := by decide +kernel
theorem dX3_openPart_49 : decode cX3_openPart 49 = .ok (.getfield 46, 3) := by decide +kernel
theorem dX3_openPart_52 : decode cX3_openPart 52 = .ok (.iconst 1, 1) := by decide +kernel
theorem dX3_openPart_53 : decode cX3_openPart 53 = .ok (.iadd, 1) := by decide +kernel
theorem dX3_openPart_54 : decode cX3_openPart 54 = .ok (.putfield 46, 3) := by decide +kernel
theorem dX3_openPart_57 : decode cX3_openPart 57 = .ok (.aload_n 0, 1) := by decide +kernel
theorem dX3_openPart_58 : decode cX3_openPart 58 = .ok (.aload_n 0, 1) := by decide +kernel
theorem dX3_openPart_59 : decode cX3_openPart 59 = .ok (.getfield 95, 3) := by decide +kernel
theorem dX3_openPart_62 : decode cX3_openPart 62 = .ok (.iload_n 3, 1) := by decide +kernel
theorem dX3_openPart_63 : decode cX3_openPart 63 = .ok (.invokestatic 21, 3) := by decide +kernel
theorem dX3_openPart_66 : decode cX3_openPart 66 = .ok (.putfield 95, 3) := by decide +kernel
theorem dX3_openPart_69 : decode cX3_openPart 69 = .ok (.iload 4, 2) := by decide +kernel
theorem dX3_openPart_71 : decode cX3_openPart 71 = .ok (.ireturn, 1) := by decide +kernel
theorem dX3_closePart_0 : decode cX3_closePart 0 = .ok (.iload_n 1, 1) := by decide +kernel
theorem dX3_closePart_1 : decode cX3_closePart 1 = .ok (.ifCond .lt 38, 3) := by decide +kernel
theorem dX3_closePart_4 : decode cX3_closePart 4 = .ok (.iload_n 1, 1) := by decide +kernel
theorem dX3_closePart_5 : decode cX3_closePart 5 = .ok (.aload_n 0, 1) := by decide +kernel
theorem dX3_closePart_6 : decode cX3_closePart 6 = .ok (.getfield 40, 3) := by decide +kernel
theorem dX3_closePart_9 : decode cX3_closePart 9 = .ok (.arraylength, 1) := by decide +kernel
theorem dX3_closePart_10 : decode cX3_closePart 10 = .ok (.if_icmp .ge 29, 3) := by decide +kernel
theorem dX3_closePart_13 : decode cX3_closePart 13 = .ok (.iload_n 1, 1) := by decide +kernel
theorem dX3_closePart_14 : decode cX3_closePart 14 = .ok (.aload_n 0, 1) := by decide +kernel
theorem dX3_closePart_15 : decode cX3_closePart 15 = .ok (.getfield 43, 3) := by decide +kernel
theorem dX3_closePart_18 : decode cX3_closePart 18 = .ok (.arraylength, 1) := by decide +kernel
theorem dX3_closePart_19 : decode cX3_closePart 19 = .ok (.if_icmp .ge 20, 3) := by decide +kernel
theorem dX3_closePart_22 : decode cX3_closePart 22 = .ok (.aload_n 0, 1) := by decide +kernel
theorem dX3_closePart_23 : decode cX3_closePart 23 = .ok (.getfield 40, 3) := by decide +kernel
theorem dX3_closePart_26 : decode cX3_closePart 26 = .ok (.iload_n 1, 1) := by decide +kernel
theorem dX3_closePart_27 : decode cX3_closePart 27 = .ok (.iload_n 2, 1) := by decide +kernel
theorem dX3_closePart_28 : decode cX3_closePart 28 = .ok (.iastore, 1) := by decide +kernel
theorem dX3_closePart_29 : decode cX3_closePart 29 = .ok (.aload_n 0, 1) := by decide +kernel
theorem dX3_closePart_30 : decode cX3_closePart 30 = .ok (.getfield 43, 3) := by decide +kernel
theorem dX3_closePart_33 : decode cX3_closePart 33 = .ok (.iload_n 1, 1) := by decide +kernel
theorem dX3_closePart_34 : decode cX3_closePart 34 = .ok (.aload_n 0, 1) := by decide +kernel
theorem dX3_closePart_35 : decode cX3_closePart 35 = .ok (.getfield 46, 3) := by decide +kernel
theorem dX3_closePart_38 : decode cX3_closePart 38 = .ok (.iastore, 1) := by decide +kernel
theorem dX3_closePart_39 : decode cX3_closePart 39 = .ok (.return_, 1) := by decide +kernel
theorem dX3_kindSpelled_0 : decode cX3_kindSpelled 0 = .ok (.iconst 4, 1) := by decide +kernel
theorem dX3_kindSpelled_1 : decode cX3_kindSpelled 1 = .ok (.istore_n 3, 1) := by decide +kernel
theorem dX3_kindSpelled_2 : decode cX3_kindSpelled 2 = .ok (.iload_n 3, 1) := by decide +kernel
theorem dX3_kindSpelled_3 : decode cX3_kindSpelled 3 = .ok (.bipush 12, 2) := by decide +kernel
theorem dX3_kindSpelled_5 : decode cX3_kindSpelled 5 = .ok (.if_icmp .gt 24, 3) := by decide +kernel
theorem dX3_kindSpelled_8 : decode cX3_kindSpelled 8 = .ok (.aload_n 0, 1) := by decide +kernel
theorem dX3_kindSpelled_9 : decode cX3_kindSpelled 9 = .ok (.iload_n 3, 1) := by decide +kernel
theorem dX3_kindSpelled_10 : decode cX3_kindSpelled 10 = .ok (.invokestatic 100, 3) := by decide +kernel
theorem dX3_kindSpelled_13 : decode cX3_kindSpelled 13 = .ok (.iload_n 1, 1) := by decide +kernel
theorem dX3_kindSpelled_14 : decode cX3_kindSpelled 14 = .ok (.iload_n 2, 1) := by decide +kernel
theorem dX3_kindSpelled_15 : decode cX3_kindSpelled 15 = .ok (.invokevirtual 104, 3) := by decide +kernel
theorem dX3_kindSpelled_18 : decode cX3_kindSpelled 18 = .ok (.ifCond .eq 5, 3) := by decide +kernel
theorem dX3_kindSpelled_21 : decode cX3_kindSpelled 21 = .ok (.iload_n 3, 1) := by decide +kernel
theorem dX3_kindSpelled_22 : decode cX3_kindSpelled 22 = .ok (.ireturn, 1) := by decide +kernel
theorem dX3_kindSpelled_23 : decode cX3_kindSpelled 23 = .ok (.iinc 3 1, 3) := by decide +kernel
theorem dX3_kindSpelled_26 : decode cX3_kindSpelled 26 = .ok (.goto (-24), 3) := by decide +kernel
theorem dX3_kindSpelled_29 : decode cX3_kindSpelled 29 = .ok (.iconst (-1), 1) := by decide +kernel
theorem dX3_kindSpelled_30 : decode cX3_kindSpelled 30 = .ok (.ireturn, 1) := by decide +kernel
theorem dX3_isSpelled_0 : decode cX3_isSpelled 0 = .ok (.aload_n 1, 1) := by decide +kernel
theorem dX3_isSpelled_1 : decode cX3_isSpelled 1 = .ok (.invokevirtual 108, 3) := by decide +kernel
theorem dX3_isSpelled_4 : decode cX3_isSpelled 4 = .ok (.iload_n 3, 1) := by decide +kernel
theorem dX3_isSpelled_5 : decode cX3_isSpelled 5 = .ok (.iload_n 2, 1) := by decide +kernel
theorem dX3_isSpelled_6 : decode cX3_isSpelled 6 = .ok (.isub, 1) := by decide +kernel
theorem dX3_isSpelled_7 : decode cX3_isSpelled 7 = .ok (.if_icmp .ne 16, 3) := by decide +kernel
theorem dX3_isSpelled_10 : decode cX3_isSpelled 10 = .ok (.iload_n 2, 1) := by decide +kernel
theorem dX3_isSpelled_11 : decode cX3_isSpelled 11 = .ok (.ifCond .lt 12, 3) := by decide +kernel
theorem dX3_isSpelled_14 : decode cX3_isSpelled 14 = .ok (.iload_n 3, 1) := by decide +kernel
theorem dX3_isSpelled_15 : decode cX3_isSpelled 15 = .ok (.aload_n 0, 1) := by decide +kernel
theorem dX3_isSpelled_16 : decode cX3_isSpelled 16 = .ok (.getfield 30, 3) := by decide +kernel
theorem dX3_isSpelled_19 : decode cX3_isSpelled 19 = .ok (.arraylength, 1) := by decide +kernel
theorem dX3_isSpelled_20 : decode cX3_isSpelled 20 = .ok (.if_icmp .le 5, 3) := by decide +kernel
theorem dX3_isSpelled_23 : decode cX3_isSpelled 23 = .ok (.iconst 0, 1) := by decide +kernel
theorem dX3_isSpelled_24 : decode cX3_isSpelled 24 = .ok (.ireturn, 1) := by decide +kernel
theorem dX3_isSpelled_25 : decode cX3_isSpelled 25 = .ok (.iconst 0, 1) := by decide +kernel
theorem dX3_isSpelled_26 : decode cX3_isSpelled 26 = .ok (.istore 4, 2) := by decide +kernel
theorem dX3_isSpelled_28 : decode cX3_isSpelled 28 = .ok (.iload 4, 2) := by decide +kernel
theorem dX3_isSpelled_30 : decode cX3_isSpelled 30 = .ok (.aload_n 1, 1) := by decide +kernel
theorem dX3_isSpelled_31 : decode cX3_isSpelled 31 = .ok (.invokevirtual 108, 3) := by decide +kernel
theorem dX3_isSpelled_34 : decode cX3_isSpelled 34 = .ok (.if_icmp .ge 29, 3) := by decide +kernel
theorem dX3_isSpelled_37 : decode cX3_isSpelled 37 = .ok (.aload_n 1, 1) := by decide +kernel
theorem dX3_isSpelled_38 : decode cX3_isSpelled 38 = .ok (.iload 4, 2) := by decide +kernel
theorem dX3_isSpelled_40 : decode cX3_isSpelled 40 = .ok (.invokevirtual 114, 3) := by decide +kernel
theorem dX3_isSpelled_43 : decode cX3_isSpelled 43 = .ok (.aload_n 0, 1) := by decide +kernel
theorem dX3_isSpelled_44 : decode cX3_isSpelled 44 = .ok (.getfield 30, 3) := by decide +kernel
theorem dX3_isSpelled_47 : decode cX3_isSpelled 47 = .ok (.iload_n 2, 1) := by decide +kernel
theorem dX3_isSpelled_48 : decode cX3_isSpelled 48 = .ok (.iload 4, 2) := by decide +kernel
theorem dX3_isSpelled_50 : decode cX3_isSpelled 50 = .ok (.iadd, 1) := by decide +kernel
theorem dX3_isSpelled_51 : decode cX3_isSpelled 51 = .ok (.iaload, 1) := by decide +kernel
theorem dX3_isSpelled_52 : decode cX3_isSpelled 52 = .ok (.if_icmp .eq 5, 3) := by decide +kernel
theorem dX3_isSpelled_55 : decode cX3_isSpelled 55 = .ok (.iconst 0, 1) := by decide +kernel
theorem dX3_isSpelled_56 : decode cX3_isSpelled 56 = .ok (.ireturn, 1) := by decide +kernel
theorem dX3_isSpelled_57 : decode cX3_isSpelled 57 = .ok (.iinc 4 1, 3) := by decide +kernel
theorem dX3_isSpelled_60 : decode cX3_isSpelled 60 = .ok (.goto (-32), 3) := by decide +kernel
theorem dX3_isSpelled_63 : decode cX3_isSpelled 63 = .ok (.iconst 1, 1) := by decide +kernel
theorem dX3_isSpelled_64 : decode cX3_isSpelled 64 = .ok (.ireturn, 1) := by decide +kernel
theorem dX3_isLetter_0 : decode cX3_isLetter 0 = .ok (.iload_n 0, 1) := by decide +kernel
theorem dX3_isLetter_1 : decode cX3_isLetter 1 = .ok (.bipush 97, 2) := by decide +kernel
theorem dX3_isLetter_3 : decode cX3_isLetter 3 = .ok (.if_icmp .lt 13, 3) := by decide +kernel
theorem dX3_isLetter_6 : decode cX3_isLetter 6 = .ok (.iload_n 0, 1) := by decide +kernel
theorem dX3_isLetter_7 : decode cX3_isLetter 7 = .ok (.bipush 122, 2) := by decide +kernel
theorem dX3_isLetter_9 : decode cX3_isLetter 9 = .ok (.if_icmp .gt 7, 3) := by decide +kernel
theorem dX3_isLetter_12 : decode cX3_isLetter 12 = .ok (.iconst 1, 1) := by decide +kernel
theorem dX3_isLetter_13 : decode cX3_isLetter 13 = .ok (.goto 4, 3) := by decide +kernel
theorem dX3_isLetter_16 : decode cX3_isLetter 16 = .ok (.iconst 0, 1) := by decide +kernel
theorem dX3_isLetter_17 : decode cX3_isLetter 17 = .ok (.ireturn, 1) := by decide +kernel
theorem dX3_isDigit_0 : decode cX3_isDigit 0 = .ok (.iload_n 0, 1) := by decide +kernel
theorem dX3_isDigit_1 : decode cX3_isDigit 1 = .ok (.bipush 48, 2) := by decide +kernel
theorem dX3_isDigit_3 : decode cX3_isDigit 3 = .ok (.if_icmp .lt 13, 3) := by decide +kernel
theorem dX3_isDigit_6 : decode cX3_isDigit 6 = .ok (.iload_n 0, 1) := by decide +kernel
theorem dX3_isDigit_7 : decode cX3_isDigit 7 = .ok (.bipush 57, 2) := by decide +kernel
theorem dX3_isDigit_9 : decode cX3_isDigit 9 = .ok (.if_icmp .gt 7, 3) := by decide +kernel
theorem dX3_isDigit_12 : decode cX3_isDigit 12 = .ok (.iconst 1, 1) := by decide +kernel
theorem dX3_isDigit_13 : decode cX3_isDigit 13 = .ok (.goto 4, 3) := by decide +kernel
theorem dX3_isDigit_16 : decode cX3_isDigit 16 = .ok (.iconst 0, 1) := by decide +kernel
theorem dX3_isDigit_17 : decode cX3_isDigit 17 = .ok (.ireturn, 1) := by decide +kernel
theorem dX4_init_0 : decode cX4_init 0 = .ok (.aload_n 0, 1) := by decide +kernel
theorem dX4_init_1 : decode cX4_init 1 = .ok (.invokespecial 3, 3) := by decide +kernel
theorem dX4_init_4 : decode cX4_init 4 = .ok (.aload_n 0, 1) := by decide +kernel
theorem dX4_init_5 : decode cX4_init 5 = .ok (.new 9, 3) := by decide +kernel
theorem dX4_init_8 : decode cX4_init 8 = .ok (.dup, 1) := by decide +kernel
theorem dX4_init_9 : decode cX4_init 9 = .ok (.invokespecial 11, 3) := by decide +kernel
theorem dX4_init_12 : decode cX4_init 12 = .ok (.putfield 12, 3) := by decide +kernel
theorem dX4_init_15 : decode cX4_init 15 = .ok (.aload_n 0, 1) := by decide +kernel
theorem dX4_init_16 : decode cX4_init 16 = .ok (.iconst 5, 1) := by decide +kernel
theorem dX4_init_17 : decode cX4_init 17 = .ok (.newarray .int, 2) := by decide +kernel
theorem dX4_init_19 : decode cX4_init 19 = .ok (.putfield 18, 3) := by decide +kernel
theorem dX4_init_22 : decode cX4_init 22 = .ok (.aload_n 0, 1) := by decide +kernel
theorem dX4_init_23 : decode cX4_init 23 = .ok (.iconst 5, 1) := by decide +kernel
theorem dX4_init_24 : decode cX4_init 24 = .ok (.newarray .int, 2) := by decide +kernel
theorem dX4_init_26 : decode cX4_init 26 = .ok (.putfield 22, 3) := by decide +kernel
theorem dX4_init_29 : decode cX4_init 29 = .ok (.return_, 1) := by decide +kernel
theorem dX4_isHitched_0 : decode cX4_isHitched 0 = .ok (.aload_n 0, 1) := by decide +kernel
theorem dX4_isHitched_1 : decode cX4_isHitched 1 = .ok (.getfield 25, 3) := by decide +kernel
theorem dX4_isHitched_4 : decode cX4_isHitched 4 = .ok (.ifCond .eq 7, 3) := by decide +kernel
theorem dX4_isHitched_7 : decode cX4_isHitched 7 = .ok (.iconst 1, 1) := by decide +kernel
theorem dX4_isHitched_8 : decode cX4_isHitched 8 = .ok (.goto 4, 3) := by decide +kernel
theorem dX4_isHitched_11 : decode cX4_isHitched 11 = .ok (.iconst 0, 1) := by decide +kernel
theorem dX4_isHitched_12 : decode cX4_isHitched 12 = .ok (.ireturn, 1) := by decide +kernel
theorem dX4_groupPlaceAt_0 : decode cX4_groupPlaceAt 0 = .ok (.iload_n 1, 1) := by decide +kernel
theorem dX4_groupPlaceAt_1 : decode cX4_groupPlaceAt 1 = .ok (.ifCond .lt 21, 3) := by decide +kernel
theorem dX4_groupPlaceAt_4 : decode cX4_groupPlaceAt 4 = .ok (.iload_n 1, 1) := by decide +kernel
theorem dX4_groupPlaceAt_5 : decode cX4_groupPlaceAt 5 = .ok (.aload_n 0, 1) := by decide +kernel
theorem dX4_groupPlaceAt_6 : decode cX4_groupPlaceAt 6 = .ok (.getfield 18, 3) := by decide +kernel
theorem dX4_groupPlaceAt_9 : decode cX4_groupPlaceAt 9 = .ok (.arraylength, 1) := by decide +kernel
theorem dX4_groupPlaceAt_10 : decode cX4_groupPlaceAt 10 = .ok (.if_icmp .ge 12, 3) := by decide +kernel
theorem dX4_groupPlaceAt_13 : decode cX4_groupPlaceAt 13 = .ok (.aload_n 0, 1) := by decide +kernel
theorem dX4_groupPlaceAt_14 : decode cX4_groupPlaceAt 14 = .ok (.getfield 18, 3) := by decide +kernel
theorem dX4_groupPlaceAt_17 : decode cX4_groupPlaceAt 17 = .ok (.iload_n 1, 1) := by decide +kernel
theorem dX4_groupPlaceAt_18 : decode cX4_groupPlaceAt 18 = .ok (.iaload, 1) := by decide +kernel
theorem dX4_groupPlaceAt_19 : decode cX4_groupPlaceAt 19 = .ok (.goto 4, 3) := by decide +kernel
theorem dX4_groupPlaceAt_22 : decode cX4_groupPlaceAt 22 = .ok (.iconst 0, 1) := by decide +kernel
theorem dX4_groupPlaceAt_23 : decode cX4_groupPlaceAt 23 = .ok (.ireturn, 1) := by decide +kernel
theorem dX4_groupTimeAt_0 : decode cX4_groupTimeAt 0 = .ok (.iload_n 1, 1) := by decide +kernel
theorem dX4_groupTimeAt_1 : decode cX4_groupTimeAt 1 = .ok (.ifCond .lt 21, 3) := by decide +kernel
theorem dX4_groupTimeAt_4 : decode cX4_groupTimeAt 4 = .ok (.iload_n 1, 1) := by decide +kernel
theorem dX4_groupTimeAt_5 : decode cX4_groupTimeAt 5 = .ok (.aload_n 0, 1) := by decide +kernel
theorem dX4_groupTimeAt_6 : decode cX4_groupTimeAt 6 = .ok (.getfield 22, 3) := by decide +kernel
theorem dX4_groupTimeAt_9 : decode cX4_groupTimeAt 9 = .ok (.arraylength, 1) := by decide +kernel
theorem dX4_groupTimeAt_10 : decode cX4_groupTimeAt 10 = .ok (.if_icmp .ge 12, 3) := by decide +kernel
theorem dX4_groupTimeAt_13 : decode cX4_groupTimeAt 13 = .ok (.aload_n 0, 1) := by decide +kernel
theorem dX4_groupTimeAt_14 : decode cX4_groupTimeAt 14 = .ok (.getfield 22, 3) := by decide +kernel
theorem dX4_groupTimeAt_17 : decode cX4_groupTimeAt 17 = .ok (.iload_n 1, 1) := by decide +kernel
theorem dX4_groupTimeAt_18 : decode cX4_groupTimeAt 18 = .ok (.iaload, 1) := by decide +kernel
theorem dX4_groupTimeAt_19 : decode cX4_groupTimeAt 19 = .ok (.goto 4, 3) := by decide +kernel
theorem dX4_groupTimeAt_22 : decode cX4_groupTimeAt 22 = .ok (.iconst 0, 1) := by decide +kernel
theorem dX4_groupTimeAt_23 : decode cX4_groupTimeAt 23 = .ok (.ireturn, 1) := by decide +kernel
theorem dX4_stopFilled_0 : decode cX4_stopFilled 0 = .ok (.aload_n 0, 1) := by decide +kernel
theorem dX4_stopFilled_1 : decode cX4_stopFilled 1 = .ok (.iload_n 1, 1) := by decide +kernel
theorem dX4_stopFilled_2 : decode cX4_stopFilled 2 = .ok (.invokevirtual 29, 3) := by decide +kernel
theorem dX4_stopFilled_5 : decode cX4_stopFilled 5 = .ok (.aload_n 0, 1) := by decide +kernel
theorem dX4_stopFilled_6 : decode cX4_stopFilled 6 = .ok (.bipush 7, 2) := by decide +kernel
theorem dX4_stopFilled_8 : decode cX4_stopFilled 8 = .ok (.iconst 0, 1) := by decide +kernel
theorem dX4_stopFilled_9 : decode cX4_stopFilled 9 = .ok (.iconst 0, 1) := by decide +kernel
theorem dX4_stopFilled_10 : decode cX4_stopFilled 10 = .ok (.invokevirtual 33, 3) := by decide +kernel
theorem dX4_stopFilled_13 : decode cX4_stopFilled 13 = .ok (.return_, 1) := by decide +kernel
theorem dX4_workLine_0 : decode cX4_workLine 0 = .ok (.aload_n 0, 1) := by decide +kernel
theorem dX4_workLine_1 : decode cX4_workLine 1 = .ok (.iload_n 2, 1) := by decide +kernel
theorem dX4_workLine_2 : decode cX4_workLine 2 = .ok (.invokevirtual 29, 3) := by decide +kernel
theorem dX4_workLine_5 : decode cX4_workLine 5 = .ok (.aload_n 0, 1) := by decide +kernel
theorem dX4_workLine_6 : decode cX4_workLine 6 = .ok (.aload_n 1, 1) := by decide +kernel
theorem dX4_workLine_7 : decode cX4_workLine 7 = .ok (.iconst 0, 1) := by decide +kernel
theorem dX4_workLine_8 : decode cX4_workLine 8 = .ok (.aload_n 1, 1) := by decide +kernel
theorem dX4_workLine_9 : decode cX4_workLine 9 = .ok (.getfield 37, 3) := by decide +kernel
theorem dX4_workLine_12 : decode cX4_workLine 12 = .ok (.iconst 0, 1) := by decide +kernel
theorem dX4_workLine_13 : decode cX4_workLine 13 = .ok (.invokevirtual 42, 3) := by decide +kernel
theorem dX4_workLine_16 : decode cX4_workLine 16 = .ok (.aload_n 0, 1) := by decide +kernel
theorem dX4_workLine_17 : decode cX4_workLine 17 = .ok (.getfield 25, 3) := by decide +kernel
theorem dX4_workLine_20 : decode cX4_workLine 20 = .ok (.ifCond .ne 21, 3) := by decide +kernel
theorem dX4_workLine_23 : decode cX4_workLine 23 = .ok (.aload_n 0, 1) := by decide +kernel
theorem dX4_workLine_24 : decode cX4_workLine 24 = .ok (.getfield 46, 3) := by decide +kernel
theorem dX4_workLine_27 : decode cX4_workLine 27 = .ok (.ifCond .le 14, 3) := by decide +kernel
theorem dX4_workLine_30 : decode cX4_workLine 30 = .ok (.aload_n 0, 1) := by decide +kernel
theorem dX4_workLine_31 : decode cX4_workLine 31 = .ok (.bipush 6, 2) := by decide +kernel
theorem dX4_workLine_33 : decode cX4_workLine 33 = .ok (.aload_n 1, 1) := by decide +kernel
theorem dX4_workLine_34 : decode cX4_workLine 34 = .ok (.invokevirtual 49, 3) := by decide +kernel
theorem dX4_workLine_37 : decode cX4_workLine 37 = .ok (.iconst 0, 1) := by decide +kernel
theorem dX4_workLine_38 : decode cX4_workLine 38 = .ok (.invokevirtual 33, 3) := by decide +kernel
theorem dX4_workLine_41 : decode cX4_workLine 41 = .ok (.return_, 1) := by decide +kernel
theorem dX4_begin_0 : decode cX4_begin 0 = .ok (.aload_n 0, 1) := by decide +kernel
theorem dX4_begin_1 : decode cX4_begin 1 = .ok (.getfield 12, 3) := by decide +kernel
theorem dX4_begin_4 : decode cX4_begin 4 = .ok (.iconst 0, 1) := by decide +kernel
theorem dX4_begin_5 : decode cX4_begin 5 = .ok (.putfield 53, 3) := by decide +kernel
theorem dX4_begin_8 : decode cX4_begin 8 = .ok (.aload_n 0, 1) := by decide +kernel
theorem dX4_begin_9 : decode cX4_begin 9 = .ok (.iload_n 1, 1) := by decide +kernel
theorem dX4_begin_10 : decode cX4_begin 10 = .ok (.putfield 46, 3) := by decide +kernel
theorem dX4_begin_13 : decode cX4_begin 13 = .ok (.aload_n 0, 1) := by decide +kernel
theorem dX4_begin_14 : decode cX4_begin 14 = .ok (.iconst 0, 1) := by decide +kernel
theorem dX4_begin_15 : decode cX4_begin 15 = .ok (.putfield 55, 3) := by decide +kernel
theorem dX4_begin_18 : decode cX4_begin 18 = .ok (.aload_n 0, 1) := by decide +kernel
theorem dX4_begin_19 : decode cX4_begin 19 = .ok (.iconst 0, 1) := by decide +kernel
theorem dX4_begin_20 : decode cX4_begin 20 = .ok (.putfield 25, 3) := by decide +kernel
theorem dX4_begin_23 : decode cX4_begin 23 = .ok (.aload_n 0, 1) := by decide +kernel
theorem dX4_begin_24 : decode cX4_begin 24 = .ok (.iconst 0, 1) := by decide +kernel
theorem dX4_begin_25 : decode cX4_begin 25 = .ok (.putfield 58, 3) := by decide +kernel
theorem dX4_begin_28 : decode cX4_begin 28 = .ok (.aload_n 0, 1) := by decide +kernel
theorem dX4_begin_29 : decode cX4_begin 29 = .ok (.iconst 0, 1) := by decide +kernel
theorem dX4_begin_30 : decode cX4_begin 30 = .ok (.putfield 61, 3) := by decide +kernel
theorem dX4_begin_33 : decode cX4_begin 33 = .ok (.return_, 1) := by decide +kernel
theorem dX4_stop_0 : decode cX4_stop 0 = .ok (.aload_n 0, 1) := by decide +kernel
theorem dX4_stop_1 : decode cX4_stop 1 = .ok (.iload_n 1, 1) := by decide +kernel
theorem dX4_stop_2 : decode cX4_stop 2 = .ok (.putfield 25, 3) := by decide +kernel
theorem dX4_stop_5 : decode cX4_stop 5 = .ok (.aload_n 0, 1) := by decide +kernel
theorem dX4_stop_6 : decode cX4_stop 6 = .ok (.iload_n 2, 1) := by decide +kernel
theorem dX4_stop_7 : decode cX4_stop 7 = .ok (.putfield 58, 3) := by decide +kernel
theorem dX4_stop_10 : decode cX4_stop 10 = .ok (.aload_n 0, 1) := by decide +kernel
theorem dX4_stop_11 : decode cX4_stop 11 = .ok (.iload_n 3, 1) := by decide +kernel
theorem dX4_stop_12 : decode cX4_stop 12 = .ok (.putfield 61, 3) := by decide +kernel
theorem dX4_stop_15 : decode cX4_stop 15 = .ok (.return_, 1) := by decide +kernel
theorem dX4_workParts_0 : decode cX4_workParts 0 = .ok (.iload 4, 2) := by decide +kernel
theorem dX4_workParts_2 : decode cX4_workParts 2 = .ok (.iconst 5, 1) := by decide +kernel
theorem dX4_workParts_3 : decode cX4_workParts 3 = .ok (.if_icmp .le 4, 3) := by decide +kernel
theorem dX4_workParts_6 : decode cX4_workParts 6 = .ok (.return_, 1) := by decide +kernel
theorem dX4_workParts_7 : decode cX4_workParts 7 = .ok (.iload_n 2, 1) := by decide +kernel
theorem dX4_workParts_8 : decode cX4_workParts 8 = .ok (.istore 5, 2) := by decide +kernel
theorem dX4_workParts_10 : decode cX4_workParts 10 = .ok (.iload 5, 2) := by decide +kernel
theorem dX4_workParts_12 : decode cX4_workParts 12 = .ok (.iload_n 3, 1) := by decide +kernel
theorem dX4_workParts_13 : decode cX4_workParts 13 = .ok (.if_icmp .ge 94, 3) := by decide +kernel
theorem dX4_workParts_16 : decode cX4_workParts 16 = .ok (.aload_n 0, 1) := by decide +kernel
theorem dX4_workParts_17 : decode cX4_workParts 17 = .ok (.getfield 25, 3) := by decide +kernel
theorem dX4_workParts_20 : decode cX4_workParts 20 = .ok (.ifCond .ne 87, 3) := by decide +kernel
theorem dX4_workParts_23 : decode cX4_workParts 23 = .ok (.aload_n 1, 1) := by decide +kernel
theorem dX4_workParts_24 : decode cX4_workParts 24 = .ok (.iload 5, 2) := by decide +kernel
theorem dX4_workParts_26 : decode cX4_workParts 26 = .ok (.invokevirtual 64, 3) := by decide +kernel
theorem dX4_workParts_29 : decode cX4_workParts 29 = .ok (.lookupswitch 51 #[(1, 27), (2, 39)], 27) := by decide +kernel
theorem dX4_workParts_56 : decode cX4_workParts 56 = .ok (.aload_n 0, 1) := by decide +kernel
theorem dX4_workParts_57 : decode cX4_workParts 57 = .ok (.aload_n 1, 1) := by decide +kernel
theorem dX4_workParts_58 : decode cX4_workParts 58 = .ok (.iload 5, 2) := by decide +kernel
theorem dX4_workParts_60 : decode cX4_workParts 60 = .ok (.iload 4, 2) := by decide +kernel
theorem dX4_workParts_62 : decode cX4_workParts 62 = .ok (.invokevirtual 68, 3) := by decide +kernel
theorem dX4_workParts_65 : decode cX4_workParts 65 = .ok (.goto 24, 3) := by decide +kernel
theorem dX4_workParts_68 : decode cX4_workParts 68 = .ok (.aload_n 0, 1) := by decide +kernel
theorem dX4_workParts_69 : decode cX4_workParts 69 = .ok (.aload_n 1, 1) := by decide +kernel
theorem dX4_workParts_70 : decode cX4_workParts 70 = .ok (.iload 5, 2) := by decide +kernel
theorem dX4_workParts_72 : decode cX4_workParts 72 = .ok (.iload 4, 2) := by decide +kernel
theorem dX4_workParts_74 : decode cX4_workParts 74 = .ok (.invokevirtual 72, 3) := by decide +kernel
theorem dX4_workParts_77 : decode cX4_workParts 77 = .ok (.goto 12, 3) := by decide +kernel
theorem dX4_workParts_80 : decode cX4_workParts 80 = .ok (.aload_n 0, 1) := by decide +kernel
theorem dX4_workParts_81 : decode cX4_workParts 81 = .ok (.aload_n 1, 1) := by decide +kernel
theorem dX4_workParts_82 : decode cX4_workParts 82 = .ok (.iload 5, 2) := by decide +kernel
theorem dX4_workParts_84 : decode cX4_workParts 84 = .ok (.iload 4, 2) := by decide +kernel
theorem dX4_workParts_86 : decode cX4_workParts 86 = .ok (.invokevirtual 75, 3) := by decide +kernel
theorem dX4_workParts_89 : decode cX4_workParts 89 = .ok (.iload 5, 2) := by decide +kernel
theorem dX4_workParts_91 : decode cX4_workParts 91 = .ok (.iconst 1, 1) := by decide +kernel
theorem dX4_workParts_92 : decode cX4_workParts 92 = .ok (.iadd, 1) := by decide +kernel
theorem dX4_workParts_93 : decode cX4_workParts 93 = .ok (.aload_n 1, 1) := by decide +kernel
theorem dX4_workParts_94 : decode cX4_workParts 94 = .ok (.iload 5, 2) := by decide +kernel
theorem dX4_workParts_96 : decode cX4_workParts 96 = .ok (.invokevirtual 78, 3) := by decide +kernel
theorem dX4_workParts_99 : decode cX4_workParts 99 = .ok (.invokestatic 81, 3) := by decide +kernel
theorem dX4_workParts_102 : decode cX4_workParts 102 = .ok (.istore 5, 2) := by decide +kernel
theorem dX4_workParts_104 : decode cX4_workParts 104 = .ok (.goto (-94), 3) := by decide +kernel
theorem dX4_workParts_107 : decode cX4_workParts 107 = .ok (.return_, 1) := by decide +kernel
theorem dX4_workTimes_0 : decode cX4_workTimes 0 = .ok (.aload_n 1, 1) := by decide +kernel
theorem dX4_workTimes_1 : decode cX4_workTimes 1 = .ok (.iload_n 2, 1) := by decide +kernel
theorem dX4_workTimes_2 : decode cX4_workTimes 2 = .ok (.invokevirtual 87, 3) := by decide +kernel
theorem dX4_workTimes_5 : decode cX4_workTimes 5 = .ok (.istore 4, 2) := by decide +kernel
theorem dX4_workTimes_7 : decode cX4_workTimes 7 = .ok (.iconst 1, 1) := by decide +kernel
theorem dX4_workTimes_8 : decode cX4_workTimes 8 = .ok (.istore 5, 2) := by decide +kernel
theorem dX4_workTimes_10 : decode cX4_workTimes 10 = .ok (.iload 5, 2) := by decide +kernel
theorem dX4_workTimes_12 : decode cX4_workTimes 12 = .ok (.iload 4, 2) := by decide +kernel
theorem dX4_workTimes_14 : decode cX4_workTimes 14 = .ok (.if_icmp .gt 66, 3) := by decide +kernel
theorem dX4_workTimes_17 : decode cX4_workTimes 17 = .ok (.aload_n 0, 1) := by decide +kernel
theorem dX4_workTimes_18 : decode cX4_workTimes 18 = .ok (.getfield 12, 3) := by decide +kernel
theorem dX4_workTimes_21 : decode cX4_workTimes 21 = .ok (.getfield 53, 3) := by decide +kernel
theorem dX4_workTimes_24 : decode cX4_workTimes 24 = .ok (.istore 6, 2) := by decide +kernel
theorem dX4_workTimes_26 : decode cX4_workTimes 26 = .ok (.aload_n 0, 1) := by decide +kernel
theorem dX4_workTimes_27 : decode cX4_workTimes 27 = .ok (.aload_n 1, 1) := by decide +kernel
theorem dX4_workTimes_28 : decode cX4_workTimes 28 = .ok (.iload_n 2, 1) := by decide +kernel
theorem dX4_workTimes_29 : decode cX4_workTimes 29 = .ok (.invokevirtual 90, 3) := by decide +kernel
theorem dX4_workTimes_32 : decode cX4_workTimes 32 = .ok (.iload 5, 2) := by decide +kernel
theorem dX4_workTimes_34 : decode cX4_workTimes 34 = .ok (.iload_n 3, 1) := by decide +kernel
theorem dX4_workTimes_35 : decode cX4_workTimes 35 = .ok (.invokevirtual 93, 3) := by decide +kernel
theorem dX4_workTimes_38 : decode cX4_workTimes 38 = .ok (.aload_n 0, 1) := by decide +kernel
theorem dX4_workTimes_39 : decode cX4_workTimes 39 = .ok (.aload_n 1, 1) := by decide +kernel
theorem dX4_workTimes_40 : decode cX4_workTimes 40 = .ok (.iload_n 2, 1) := by decide +kernel
theorem dX4_workTimes_41 : decode cX4_workTimes 41 = .ok (.iconst 1, 1) := by decide +kernel
theorem dX4_workTimes_42 : decode cX4_workTimes 42 = .ok (.iadd, 1) := by decide +kernel
theorem dX4_workTimes_43 : decode cX4_workTimes 43 = .ok (.aload_n 1, 1) := by decide +kernel
theorem dX4_workTimes_44 : decode cX4_workTimes 44 = .ok (.iload_n 2, 1) := by decide +kernel
theorem dX4_workTimes_45 : decode cX4_workTimes 45 = .ok (.invokevirtual 78, 3) := by decide +kernel
theorem dX4_workTimes_48 : decode cX4_workTimes 48 = .ok (.iload_n 3, 1) := by decide +kernel
theorem dX4_workTimes_49 : decode cX4_workTimes 49 = .ok (.iconst 1, 1) := by decide +kernel
theorem dX4_workTimes_50 : decode cX4_workTimes 50 = .ok (.iadd, 1) := by decide +kernel
theorem dX4_workTimes_51 : decode cX4_workTimes 51 = .ok (.invokevirtual 42, 3) := by decide +kernel
theorem dX4_workTimes_54 : decode cX4_workTimes 54 = .ok (.aload_n 0, 1) := by decide +kernel
theorem dX4_workTimes_55 : decode cX4_workTimes 55 = .ok (.getfield 25, 3) := by decide +kernel
theorem dX4_workTimes_58 : decode cX4_workTimes 58 = .ok (.ifCond .ne 15, 3) := by decide +kernel
theorem dX4_workTimes_61 : decode cX4_workTimes 61 = .ok (.aload_n 0, 1) := by decide +kernel
theorem dX4_workTimes_62 : decode cX4_workTimes 62 = .ok (.getfield 12, 3) := by decide +kernel
theorem dX4_workTimes_65 : decode cX4_workTimes 65 = .ok (.getfield 53, 3) := by decide +kernel
theorem dX4_workTimes_68 : decode cX4_workTimes 68 = .ok (.iload 6, 2) := by decide +kernel
theorem dX4_workTimes_70 : decode cX4_workTimes 70 = .ok (.if_icmp .ne 4, 3) := by decide +kernel
theorem dX4_workTimes_73 : decode cX4_workTimes 73 = .ok (.return_, 1) := by decide +kernel
theorem dX4_workTimes_74 : decode cX4_workTimes 74 = .ok (.iinc 5 1, 3) := by decide +kernel
theorem dX4_workTimes_77 : decode cX4_workTimes 77 = .ok (.goto (-67), 3) := by decide +kernel
theorem dX4_workTimes_80 : decode cX4_workTimes 80 = .ok (.return_, 1) := by decide +kernel
theorem dX4_workTill_0 : decode cX4_workTill 0 = .ok (.aload_n 1, 1) := by decide +kernel
theorem dX4_workTill_1 : decode cX4_workTill 1 = .ok (.iload_n 2, 1) := by decide +kernel
theorem dX4_workTill_2 : decode cX4_workTill 2 = .ok (.invokevirtual 87, 3) := by decide +kernel
theorem dX4_workTill_5 : decode cX4_workTill 5 = .ok (.istore 4, 2) := by decide +kernel
theorem dX4_workTill_7 : decode cX4_workTill 7 = .ok (.iconst 1, 1) := by decide +kernel
theorem dX4_workTill_8 : decode cX4_workTill 8 = .ok (.istore 5, 2) := by decide +kernel
theorem dX4_workTill_10 : decode cX4_workTill 10 = .ok (.iload 5, 2) := by decide +kernel
theorem dX4_workTill_12 : decode cX4_workTill 12 = .ok (.bipush 60, 2) := by decide +kernel
theorem dX4_workTill_14 : decode cX4_workTill 14 = .ok (.if_icmp .gt 81, 3) := by decide +kernel
theorem dX4_workTill_17 : decode cX4_workTill 17 = .ok (.aload_n 0, 1) := by decide +kernel
theorem dX4_workTill_18 : decode cX4_workTill 18 = .ok (.getfield 46, 3) := by decide +kernel
theorem dX4_workTill_21 : decode cX4_workTill 21 = .ok (.iload 4, 2) := by decide +kernel
theorem dX4_workTill_23 : decode cX4_workTill 23 = .ok (.if_icmp .le 72, 3) := by decide +kernel
theorem dX4_workTill_26 : decode cX4_workTill 26 = .ok (.aload_n 0, 1) := by decide +kernel
theorem dX4_workTill_27 : decode cX4_workTill 27 = .ok (.getfield 46, 3) := by decide +kernel
theorem dX4_workTill_30 : decode cX4_workTill 30 = .ok (.istore 6, 2) := by decide +kernel
theorem dX4_workTill_32 : decode cX4_workTill 32 = .ok (.aload_n 0, 1) := by decide +kernel
theorem dX4_workTill_33 : decode cX4_workTill 33 = .ok (.aload_n 1, 1) := by decide +kernel
theorem dX4_workTill_34 : decode cX4_workTill 34 = .ok (.iload_n 2, 1) := by decide +kernel
theorem dX4_workTill_35 : decode cX4_workTill 35 = .ok (.invokevirtual 90, 3) := by decide +kernel
theorem dX4_workTill_38 : decode cX4_workTill 38 = .ok (.iload 5, 2) := by decide +kernel
theorem dX4_workTill_40 : decode cX4_workTill 40 = .ok (.iload_n 3, 1) := by decide +kernel
theorem dX4_workTill_41 : decode cX4_workTill 41 = .ok (.invokevirtual 93, 3) := by decide +kernel
theorem dX4_workTill_44 : decode cX4_workTill 44 = .ok (.aload_n 0, 1) := by decide +kernel
theorem dX4_workTill_45 : decode cX4_workTill 45 = .ok (.aload_n 1, 1) := by decide +kernel
theorem dX4_workTill_46 : decode cX4_workTill 46 = .ok (.iload_n 2, 1) := by decide +kernel
theorem dX4_workTill_47 : decode cX4_workTill 47 = .ok (.iconst 1, 1) := by decide +kernel
theorem dX4_workTill_48 : decode cX4_workTill 48 = .ok (.iadd, 1) := by decide +kernel
theorem dX4_workTill_49 : decode cX4_workTill 49 = .ok (.aload_n 1, 1) := by decide +kernel
theorem dX4_workTill_50 : decode cX4_workTill 50 = .ok (.iload_n 2, 1) := by decide +kernel
theorem dX4_workTill_51 : decode cX4_workTill 51 = .ok (.invokevirtual 78, 3) := by decide +kernel
theorem dX4_workTill_54 : decode cX4_workTill 54 = .ok (.iload_n 3, 1) := by decide +kernel
theorem dX4_workTill_55 : decode cX4_workTill 55 = .ok (.iconst 1, 1) := by decide +kernel
theorem dX4_workTill_56 : decode cX4_workTill 56 = .ok (.iadd, 1) := by decide +kernel
theorem dX4_workTill_57 : decode cX4_workTill 57 = .ok (.invokevirtual 42, 3) := by decide +kernel
theorem dX4_workTill_60 : decode cX4_workTill 60 = .ok (.aload_n 0, 1) := by decide +kernel
theorem dX4_workTill_61 : decode cX4_workTill 61 = .ok (.getfield 25, 3) := by decide +kernel
theorem dX4_workTill_64 : decode cX4_workTill 64 = .ok (.ifCond .eq 4, 3) := by decide +kernel
theorem dX4_workTill_67 : decode cX4_workTill 67 = .ok (.return_, 1) := by decide +kernel
theorem dX4_workTill_68 : decode cX4_workTill 68 = .ok (.aload_n 0, 1) := by decide +kernel
theorem dX4_workTill_69 : decode cX4_workTill 69 = .ok (.getfield 46, 3) := by decide +kernel
theorem dX4_workTill_72 : decode cX4_workTill 72 = .ok (.iload 6, 2) := by decide +kernel
theorem dX4_workTill_74 : decode cX4_workTill 74 = .ok (.if_icmp .ne 15, 3) := by decide +kernel
theorem dX4_workTill_77 : decode cX4_workTill 77 = .ok (.aload_n 0, 1) := by decide +kernel
theorem dX4_workTill_78 : decode cX4_workTill 78 = .ok (.iconst 4, 1) := by decide +kernel
theorem dX4_workTill_79 : decode cX4_workTill 79 = .ok (.aload_n 1, 1) := by decide +kernel
theorem dX4_workTill_80 : decode cX4_workTill 80 = .ok (.iload_n 2, 1) := by decide +kernel
theorem dX4_workTill_81 : decode cX4_workTill 81 = .ok (.invokevirtual 90, 3) := by decide +kernel
theorem dX4_workTill_84 : decode cX4_workTill 84 = .ok (.iload_n 3, 1) := by decide +kernel
theorem dX4_workTill_85 : decode cX4_workTill 85 = .ok (.invokevirtual 33, 3) := by decide +kernel
theorem dX4_workTill_88 : decode cX4_workTill 88 = .ok (.return_, 1) := by decide +kernel
theorem dX4_workTill_89 : decode cX4_workTill 89 = .ok (.iinc 5 1, 3) := by decide +kernel
theorem dX4_workTill_92 : decode cX4_workTill 92 = .ok (.goto (-82), 3) := by decide +kernel
theorem dX4_workTill_95 : decode cX4_workTill 95 = .ok (.aload_n 0, 1) := by decide +kernel
theorem dX4_workTill_96 : decode cX4_workTill 96 = .ok (.getfield 46, 3) := by decide +kernel
theorem dX4_workTill_99 : decode cX4_workTill 99 = .ok (.iload 4, 2) := by decide +kernel
theorem dX4_workTill_101 : decode cX4_workTill 101 = .ok (.if_icmp .ge 14, 3) := by decide +kernel
theorem dX4_workTill_104 : decode cX4_workTill 104 = .ok (.aload_n 0, 1) := by decide +kernel
theorem dX4_workTill_105 : decode cX4_workTill 105 = .ok (.iconst 5, 1) := by decide +kernel
theorem dX4_workTill_106 : decode cX4_workTill 106 = .ok (.aload_n 1, 1) := by decide +kernel
theorem dX4_workTill_107 : decode cX4_workTill 107 = .ok (.iload_n 2, 1) := by decide +kernel
theorem dX4_workTill_108 : decode cX4_workTill 108 = .ok (.invokevirtual 90, 3) := by decide +kernel
theorem dX4_workTill_111 : decode cX4_workTill 111 = .ok (.iload_n 3, 1) := by decide +kernel
theorem dX4_workTill_112 : decode cX4_workTill 112 = .ok (.invokevirtual 33, 3) := by decide +kernel
theorem dX4_workTill_115 : decode cX4_workTill 115 = .ok (.return_, 1) := by decide +kernel
theorem dX4_enter_0 : decode cX4_enter 0 = .ok (.iload_n 3, 1) := by decide +kernel
theorem dX4_enter_1 : decode cX4_enter 1 = .ok (.ifCond .lt 35, 3) := by decide +kernel
theorem dX4_enter_4 : decode cX4_enter 4 = .ok (.iload_n 3, 1) := by decide +kernel
theorem dX4_enter_5 : decode cX4_enter 5 = .ok (.aload_n 0, 1) := by decide +kernel
theorem dX4_enter_6 : decode cX4_enter 6 = .ok (.getfield 18, 3) := by decide +kernel
theorem dX4_enter_9 : decode cX4_enter 9 = .ok (.arraylength, 1) := by decide +kernel
theorem dX4_enter_10 : decode cX4_enter 10 = .ok (.if_icmp .ge 26, 3) := by decide +kernel
theorem dX4_enter_13 : decode cX4_enter 13 = .ok (.iload_n 3, 1) := by decide +kernel
theorem dX4_enter_14 : decode cX4_enter 14 = .ok (.aload_n 0, 1) := by decide +kernel
theorem dX4_enter_15 : decode cX4_enter 15 = .ok (.getfield 22, 3) := by decide +kernel
theorem dX4_enter_18 : decode cX4_enter 18 = .ok (.arraylength, 1) := by decide +kernel
theorem dX4_enter_19 : decode cX4_enter 19 = .ok (.if_icmp .ge 17, 3) := by decide +kernel
theorem dX4_enter_22 : decode cX4_enter 22 = .ok (.aload_n 0, 1) := by decide +kernel
theorem dX4_enter_23 : decode cX4_enter 23 = .ok (.getfield 18, 3) := by decide +kernel
theorem dX4_enter_26 : decode cX4_enter 26 = .ok (.iload_n 3, 1) := by decide +kernel
theorem dX4_enter_27 : decode cX4_enter 27 = .ok (.iload_n 1, 1) := by decide +kernel
theorem dX4_enter_28 : decode cX4_enter 28 = .ok (.iastore, 1) := by decide +kernel
theorem dX4_enter_29 : decode cX4_enter 29 = .ok (.aload_n 0, 1) := by decide +kernel
theorem dX4_enter_30 : decode cX4_enter 30 = .ok (.getfield 22, 3) := by decide +kernel
theorem dX4_enter_33 : decode cX4_enter 33 = .ok (.iload_n 3, 1) := by decide +kernel
theorem dX4_enter_34 : decode cX4_enter 34 = .ok (.iload_n 2, 1) := by decide +kernel
theorem dX4_enter_35 : decode cX4_enter 35 = .ok (.iastore, 1) := by decide +kernel
theorem dX4_enter_36 : decode cX4_enter 36 = .ok (.return_, 1) := by decide +kernel
theorem dX4_workWord_0 : decode cX4_workWord 0 = .ok (.aload_n 1, 1) := by decide +kernel
theorem dX4_workWord_1 : decode cX4_workWord 1 = .ok (.iload_n 2, 1) := by decide +kernel
theorem dX4_workWord_2 : decode cX4_workWord 2 = .ok (.invokevirtual 64, 3) := by decide +kernel
theorem dX4_workWord_5 : decode cX4_workWord 5 = .ok (.istore 4, 2) := by decide +kernel
theorem dX4_workWord_7 : decode cX4_workWord 7 = .ok (.iload 4, 2) := by decide +kernel
theorem dX4_workWord_9 : decode cX4_workWord 9 = .ok (.invokestatic 96, 3) := by decide +kernel
theorem dX4_workWord_12 : decode cX4_workWord 12 = .ok (.istore 5, 2) := by decide +kernel
theorem dX4_workWord_14 : decode cX4_workWord 14 = .ok (.iload 4, 2) := by decide +kernel
theorem dX4_workWord_16 : decode cX4_workWord 16 = .ok (.invokestatic 101, 3) := by decide +kernel
theorem dX4_workWord_19 : decode cX4_workWord 19 = .ok (.istore 6, 2) := by decide +kernel
theorem dX4_workWord_21 : decode cX4_workWord 21 = .ok (.aload_n 1, 1) := by decide +kernel
theorem dX4_workWord_22 : decode cX4_workWord 22 = .ok (.iload_n 2, 1) := by decide +kernel
theorem dX4_workWord_23 : decode cX4_workWord 23 = .ok (.invokevirtual 87, 3) := by decide +kernel
theorem dX4_workWord_26 : decode cX4_workWord 26 = .ok (.istore 7, 2) := by decide +kernel
theorem dX4_workWord_28 : decode cX4_workWord 28 = .ok (.iconst 0, 1) := by decide +kernel
theorem dX4_workWord_29 : decode cX4_workWord 29 = .ok (.istore 8, 2) := by decide +kernel
theorem dX4_workWord_31 : decode cX4_workWord 31 = .ok (.iload 8, 2) := by decide +kernel
theorem dX4_workWord_33 : decode cX4_workWord 33 = .ok (.iload 7, 2) := by decide +kernel
theorem dX4_workWord_35 : decode cX4_workWord 35 = .ok (.if_icmp .ge 68, 3) := by decide +kernel
theorem dX4_workWord_38 : decode cX4_workWord 38 = .ok (.aload_n 0, 1) := by decide +kernel
theorem dX4_workWord_39 : decode cX4_workWord 39 = .ok (.iload 5, 2) := by decide +kernel
theorem dX4_workWord_41 : decode cX4_workWord 41 = .ok (.iload 6, 2) := by decide +kernel
theorem dX4_workWord_43 : decode cX4_workWord 43 = .ok (.invokevirtual 104, 3) := by decide +kernel
theorem dX4_workWord_46 : decode cX4_workWord 46 = .ok (.istore 9, 2) := by decide +kernel
theorem dX4_workWord_48 : decode cX4_workWord 48 = .ok (.iload 9, 2) := by decide +kernel
theorem dX4_workWord_50 : decode cX4_workWord 50 = .ok (.ifCond .eq 16, 3) := by decide +kernel
theorem dX4_workWord_53 : decode cX4_workWord 53 = .ok (.aload_n 0, 1) := by decide +kernel
theorem dX4_workWord_54 : decode cX4_workWord 54 = .ok (.iload 9, 2) := by decide +kernel
theorem dX4_workWord_56 : decode cX4_workWord 56 = .ok (.aload_n 1, 1) := by decide +kernel
theorem dX4_workWord_57 : decode cX4_workWord 57 = .ok (.iload_n 2, 1) := by decide +kernel
theorem dX4_workWord_58 : decode cX4_workWord 58 = .ok (.invokevirtual 90, 3) := by decide +kernel
theorem dX4_workWord_61 : decode cX4_workWord 61 = .ok (.iload_n 3, 1) := by decide +kernel
theorem dX4_workWord_62 : decode cX4_workWord 62 = .ok (.invokevirtual 33, 3) := by decide +kernel
theorem dX4_workWord_65 : decode cX4_workWord 65 = .ok (.return_, 1) := by decide +kernel
theorem dX4_workWord_66 : decode cX4_workWord 66 = .ok (.aload_n 0, 1) := by decide +kernel
theorem dX4_workWord_67 : decode cX4_workWord 67 = .ok (.getfield 12, 3) := by decide +kernel
theorem dX4_workWord_70 : decode cX4_workWord 70 = .ok (.iload 4, 2) := by decide +kernel
theorem dX4_workWord_72 : decode cX4_workWord 72 = .ok (.invokevirtual 107, 3) := by decide +kernel
theorem dX4_workWord_75 : decode cX4_workWord 75 = .ok (.aload_n 0, 1) := by decide +kernel
theorem dX4_workWord_76 : decode cX4_workWord 76 = .ok (.dup, 1) := by decide +kernel
theorem dX4_workWord_77 : decode cX4_workWord 77 = .ok (.getfield 46, 3) := by decide +kernel
theorem dX4_workWord_80 : decode cX4_workWord 80 = .ok (.iload 5, 2) := by decide +kernel
theorem dX4_workWord_82 : decode cX4_workWord 82 = .ok (.isub, 1) := by decide +kernel
theorem dX4_workWord_83 : decode cX4_workWord 83 = .ok (.putfield 46, 3) := by decide +kernel
theorem dX4_workWord_86 : decode cX4_workWord 86 = .ok (.aload_n 0, 1) := by decide +kernel
theorem dX4_workWord_87 : decode cX4_workWord 87 = .ok (.dup, 1) := by decide +kernel
theorem dX4_workWord_88 : decode cX4_workWord 88 = .ok (.getfield 55, 3) := by decide +kernel
theorem dX4_workWord_91 : decode cX4_workWord 91 = .ok (.iload 6, 2) := by decide +kernel
theorem dX4_workWord_93 : decode cX4_workWord 93 = .ok (.iadd, 1) := by decide +kernel
theorem dX4_workWord_94 : decode cX4_workWord 94 = .ok (.putfield 55, 3) := by decide +kernel
theorem dX4_workWord_97 : decode cX4_workWord 97 = .ok (.iinc 8 1, 3) := by decide +kernel
theorem dX4_workWord_100 : decode cX4_workWord 100 = .ok (.goto (-69), 3) := by decide +kernel
theorem dX4_workWord_103 : decode cX4_workWord 103 = .ok (.return_, 1) := by decide +kernel
theorem dX4_hitchOf_0 : decode cX4_hitchOf 0 = .ok (.iload_n 1, 1) := by decide +kernel
theorem dX4_hitchOf_1 : decode cX4_hitchOf 1 = .ok (.aload_n 0, 1) := by decide +kernel
theorem dX4_hitchOf_2 : decode cX4_hitchOf 2 = .ok (.getfield 46, 3) := by decide +kernel
theorem dX4_hitchOf_5 : decode cX4_hitchOf 5 = .ok (.if_icmp .le 5, 3) := by decide +kernel
theorem dX4_hitchOf_8 : decode cX4_hitchOf 8 = .ok (.iconst 1, 1) := by decide +kernel
theorem dX4_hitchOf_9 : decode cX4_hitchOf 9 = .ok (.ireturn, 1) := by decide +kernel
theorem dX4_hitchOf_10 : decode cX4_hitchOf 10 = .ok (.aload_n 0, 1) := by decide +kernel
theorem dX4_hitchOf_11 : decode cX4_hitchOf 11 = .ok (.getfield 55, 3) := by decide +kernel
theorem dX4_hitchOf_14 : decode cX4_hitchOf 14 = .ok (.iload_n 2, 1) := by decide +kernel
theorem dX4_hitchOf_15 : decode cX4_hitchOf 15 = .ok (.iadd, 1) := by decide +kernel
theorem dX4_hitchOf_16 : decode cX4_hitchOf 16 = .ok (.bipush 60, 2) := by decide +kernel
theorem dX4_hitchOf_18 : decode cX4_hitchOf 18 = .ok (.if_icmp .le 5, 3) := by decide +kernel
theorem dX4_hitchOf_21 : decode cX4_hitchOf 21 = .ok (.iconst 2, 1) := by decide +kernel
theorem dX4_hitchOf_22 : decode cX4_hitchOf 22 = .ok (.ireturn, 1) := by decide +kernel
theorem dX4_hitchOf_23 : decode cX4_hitchOf 23 = .ok (.aload_n 0, 1) := by decide +kernel
theorem dX4_hitchOf_24 : decode cX4_hitchOf 24 = .ok (.getfield 12, 3) := by decide +kernel
theorem dX4_hitchOf_27 : decode cX4_hitchOf 27 = .ok (.getfield 53, 3) := by decide +kernel
theorem dX4_hitchOf_30 : decode cX4_hitchOf 30 = .ok (.sipush 200, 3) := by decide +kernel
theorem dX4_hitchOf_33 : decode cX4_hitchOf 33 = .ok (.if_icmp .lt 7, 3) := by decide +kernel
theorem dX4_hitchOf_36 : decode cX4_hitchOf 36 = .ok (.iconst 3, 1) := by decide +kernel
theorem dX4_hitchOf_37 : decode cX4_hitchOf 37 = .ok (.goto 4, 3) := by decide +kernel
theorem dX4_hitchOf_40 : decode cX4_hitchOf 40 = .ok (.iconst 0, 1) := by decide +kernel
theorem dX4_hitchOf_41 : decode cX4_hitchOf 41 = .ok (.ireturn, 1) := by decide +kernel
theorem dX5_init_0 : decode cX5_init 0 = .ok (.aload_n 0, 1) := by decide +kernel
theorem dX5_init_1 : decode cX5_init 1 = .ok (.invokespecial 3, 3) := by decide +kernel
theorem dX5_init_4 : decode cX5_init 4 = .ok (.aload_n 0, 1) := by decide +kernel
theorem dX5_init_5 : decode cX5_init 5 = .ok (.bipush 40, 2) := by decide +kernel
theorem dX5_init_7 : decode cX5_init 7 = .ok (.newarray .long, 2) := by decide +kernel
theorem dX5_init_9 : decode cX5_init 9 = .ok (.putfield 9, 3) := by decide +kernel
theorem dX5_init_12 : decode cX5_init 12 = .ok (.aload_n 0, 1) := by decide +kernel
theorem dX5_init_13 : decode cX5_init 13 = .ok (.iconst (-1), 1) := by decide +kernel
theorem dX5_init_14 : decode cX5_init 14 = .ok (.putfield 15, 3) := by decide +kernel
theorem dX5_init_17 : decode cX5_init 17 = .ok (.return_, 1) := by decide +kernel
theorem dX5_isSort_0 : decode cX5_isSort 0 = .ok (.iload_n 0, 1) := by decide +kernel
theorem dX5_isSort_1 : decode cX5_isSort 1 = .ok (.ifCond .lt 12, 3) := by decide +kernel
theorem dX5_isSort_4 : decode cX5_isSort 4 = .ok (.iload_n 0, 1) := by decide +kernel
theorem dX5_isSort_5 : decode cX5_isSort 5 = .ok (.iconst 4, 1) := by decide +kernel
theorem dX5_isSort_6 : decode cX5_isSort 6 = .ok (.if_icmp .gt 7, 3) := by decide +kernel
theorem dX5_isSort_9 : decode cX5_isSort 9 = .ok (.iconst 1, 1) := by decide +kernel
theorem dX5_isSort_10 : decode cX5_isSort 10 = .ok (.goto 4, 3) := by decide +kernel
theorem dX5_isSort_13 : decode cX5_isSort 13 = .ok (.iconst 0, 1) := by decide +kernel
theorem dX5_isSort_14 : decode cX5_isSort 14 = .ok (.ireturn, 1) := by decide +kernel
theorem dX5_isBare_0 : decode cX5_isBare 0 = .ok (.aload_n 0, 1) := by decide +kernel
theorem dX5_isBare_1 : decode cX5_isBare 1 = .ok (.getfield 15, 3) := by decide +kernel
theorem dX5_isBare_4 : decode cX5_isBare 4 = .ok (.iconst (-1), 1) := by decide +kernel
theorem dX5_isBare_5 : decode cX5_isBare 5 = .ok (.if_icmp .ne 7, 3) := by decide +kernel
theorem dX5_isBare_8 : decode cX5_isBare 8 = .ok (.iconst 1, 1) := by decide +kernel
theorem dX5_isBare_9 : decode cX5_isBare 9 = .ok (.goto 4, 3) := by decide +kernel
theorem dX5_isBare_12 : decode cX5_isBare 12 = .ok (.iconst 0, 1) := by decide +kernel
theorem dX5_isBare_13 : decode cX5_isBare 13 = .ok (.ireturn, 1) := by decide +kernel
theorem dX5_hasRow_0 : decode cX5_hasRow 0 = .ok (.aload_n 0, 1) := by decide +kernel
theorem dX5_hasRow_1 : decode cX5_hasRow 1 = .ok (.getfield 15, 3) := by decide +kernel
theorem dX5_hasRow_4 : decode cX5_hasRow 4 = .ok (.invokestatic 19, 3) := by decide +kernel
theorem dX5_hasRow_7 : decode cX5_hasRow 7 = .ok (.ireturn, 1) := by decide +kernel
theorem dX5_hasStitch_0 : decode cX5_hasStitch 0 = .ok (.aload_n 0, 1) := by decide +kernel
theorem dX5_hasStitch_1 : decode cX5_hasStitch 1 = .ok (.getfield 15, 3) := by decide +kernel
theorem dX5_hasStitch_4 : decode cX5_hasStitch 4 = .ok (.bipush 10, 2) := by decide +kernel
theorem dX5_hasStitch_6 : decode cX5_hasStitch 6 = .ok (.if_icmp .lt 7, 3) := by decide +kernel
theorem dX5_hasStitch_9 : decode cX5_hasStitch 9 = .ok (.iconst 1, 1) := by decide +kernel
theorem dX5_hasStitch_10 : decode cX5_hasStitch 10 = .ok (.goto 4, 3) := by decide +kernel
theorem dX5_hasStitch_13 : decode cX5_hasStitch 13 = .ok (.iconst 0, 1) := by decide +kernel
theorem dX5_hasStitch_14 : decode cX5_hasStitch 14 = .ok (.ireturn, 1) := by decide +kernel
theorem dX5_stitchKind_0 : decode cX5_stitchKind 0 = .ok (.aload_n 0, 1) := by decide +kernel
theorem dX5_stitchKind_1 : decode cX5_stitchKind 1 = .ok (.invokevirtual 23, 3) := by decide +kernel
theorem dX5_stitchKind_4 : decode cX5_stitchKind 4 = .ok (.ifCond .eq 13, 3) := by decide +kernel
theorem dX5_stitchKind_7 : decode cX5_stitchKind 7 = .ok (.aload_n 0, 1) := by decide +kernel
theorem dX5_stitchKind_8 : decode cX5_stitchKind 8 = .ok (.getfield 15, 3) := by decide +kernel
theorem dX5_stitchKind_11 : decode cX5_stitchKind 11 = .ok (.bipush 10, 2) := by decide +kernel
theorem dX5_stitchKind_13 : decode cX5_stitchKind 13 = .ok (.isub, 1) := by decide +kernel
theorem dX5_stitchKind_14 : decode cX5_stitchKind 14 = .ok (.goto 4, 3) := by decide +kernel
theorem dX5_stitchKind_17 : decode cX5_stitchKind 17 = .ok (.iconst (-1), 1) := by decide +kernel
theorem dX5_stitchKind_18 : decode cX5_stitchKind 18 = .ok (.ireturn, 1) := by decide +kernel
theorem dX5_putNothing_0 : decode cX5_putNothing 0 = .ok (.aload_n 0, 1) := by decide +kernel
theorem dX5_putNothing_1 : decode cX5_putNothing 1 = .ok (.iconst (-1), 1) := by decide +kernel
theorem dX5_putNothing_2 : decode cX5_putNothing 2 = .ok (.putfield 15, 3) := by decide +kernel
theorem dX5_putNothing_5 : decode cX5_putNothing 5 = .ok (.aload_n 0, 1) := by decide +kernel
theorem dX5_putNothing_6 : decode cX5_putNothing 6 = .ok (.iconst 0, 1) := by decide +kernel
theorem dX5_putNothing_7 : decode cX5_putNothing 7 = .ok (.putfield 27, 3) := by decide +kernel
theorem dX5_putNothing_10 : decode cX5_putNothing 10 = .ok (.return_, 1) := by decide +kernel
theorem dX5_putStitch_0 : decode cX5_putStitch 0 = .ok (.aload_n 0, 1) := by decide +kernel
theorem dX5_putStitch_1 : decode cX5_putStitch 1 = .ok (.bipush 10, 2) := by decide +kernel
theorem dX5_putStitch_3 : decode cX5_putStitch 3 = .ok (.iload_n 1, 1) := by decide +kernel
theorem dX5_putStitch_4 : decode cX5_putStitch 4 = .ok (.iadd, 1) := by decide +kernel
theorem dX5_putStitch_5 : decode cX5_putStitch 5 = .ok (.putfield 15, 3) := by decide +kernel
theorem dX5_putStitch_8 : decode cX5_putStitch 8 = .ok (.aload_n 0, 1) := by decide +kernel
theorem dX5_putStitch_9 : decode cX5_putStitch 9 = .ok (.iconst 0, 1) := by decide +kernel
theorem dX5_putStitch_10 : decode cX5_putStitch 10 = .ok (.putfield 27, 3) := by decide +kernel
theorem dX5_putStitch_13 : decode cX5_putStitch 13 = .ok (.return_, 1) := by decide +kernel
theorem dX5_putRow_0 : decode cX5_putRow 0 = .ok (.aload_n 0, 1) := by decide +kernel
theorem dX5_putRow_1 : decode cX5_putRow 1 = .ok (.iload_n 1, 1) := by decide +kernel
theorem dX5_putRow_2 : decode cX5_putRow 2 = .ok (.putfield 15, 3) := by decide +kernel
theorem dX5_putRow_5 : decode cX5_putRow 5 = .ok (.aload_n 0, 1) := by decide +kernel
theorem dX5_putRow_6 : decode cX5_putRow 6 = .ok (.iload_n 2, 1) := by decide +kernel
theorem dX5_putRow_7 : decode cX5_putRow 7 = .ok (.putfield 27, 3) := by decide +kernel
theorem dX5_putRow_10 : decode cX5_putRow 10 = .ok (.aload_n 0, 1) := by decide +kernel
theorem dX5_putRow_11 : decode cX5_putRow 11 = .ok (.getfield 9, 3) := by decide +kernel
theorem dX5_putRow_14 : decode cX5_putRow 14 = .ok (.lconst 0, 1) := by decide +kernel
theorem dX5_putRow_15 : decode cX5_putRow 15 = .ok (.invokestatic 30, 3) := by decide +kernel
theorem dX5_putRow_18 : decode cX5_putRow 18 = .ok (.return_, 1) := by decide +kernel
theorem dX5_hasElement_0 : decode cX5_hasElement 0 = .ok (.aload_n 0, 1) := by decide +kernel
theorem dX5_hasElement_1 : decode cX5_hasElement 1 = .ok (.invokevirtual 36, 3) := by decide +kernel
theorem dX5_hasElement_4 : decode cX5_hasElement 4 = .ok (.ifCond .eq 28, 3) := by decide +kernel
theorem dX5_hasElement_7 : decode cX5_hasElement 7 = .ok (.iload_n 1, 1) := by decide +kernel
theorem dX5_hasElement_8 : decode cX5_hasElement 8 = .ok (.ifCond .lt 24, 3) := by decide +kernel
theorem dX5_hasElement_11 : decode cX5_hasElement 11 = .ok (.iload_n 1, 1) := by decide +kernel
theorem dX5_hasElement_12 : decode cX5_hasElement 12 = .ok (.aload_n 0, 1) := by decide +kernel
theorem dX5_hasElement_13 : decode cX5_hasElement 13 = .ok (.getfield 27, 3) := by decide +kernel
theorem dX5_hasElement_16 : decode cX5_hasElement 16 = .ok (.if_icmp .ge 16, 3) := by decide +kernel
theorem dX5_hasElement_19 : decode cX5_hasElement 19 = .ok (.iload_n 1, 1) := by decide +kernel
theorem dX5_hasElement_20 : decode cX5_hasElement 20 = .ok (.aload_n 0, 1) := by decide +kernel
theorem dX5_hasElement_21 : decode cX5_hasElement 21 = .ok (.getfield 9, 3) := by decide +kernel
theorem dX5_hasElement_24 : decode cX5_hasElement 24 = .ok (.arraylength, 1) := by decide +kernel
theorem dX5_hasElement_25 : decode cX5_hasElement 25 = .ok (.if_icmp .ge 7, 3) := by decide +kernel
theorem dX5_hasElement_28 : decode cX5_hasElement 28 = .ok (.iconst 1, 1) := by decide +kernel
theorem dX5_hasElement_29 : decode cX5_hasElement 29 = .ok (.goto 4, 3) := by decide +kernel
theorem dX5_hasElement_32 : decode cX5_hasElement 32 = .ok (.iconst 0, 1) := by decide +kernel
theorem dX5_hasElement_33 : decode cX5_hasElement 33 = .ok (.ireturn, 1) := by decide +kernel
theorem dX5_putElement_0 : decode cX5_putElement 0 = .ok (.aload_n 0, 1) := by decide +kernel
theorem dX5_putElement_1 : decode cX5_putElement 1 = .ok (.iload_n 1, 1) := by decide +kernel
theorem dX5_putElement_2 : decode cX5_putElement 2 = .ok (.invokevirtual 39, 3) := by decide +kernel
theorem dX5_putElement_5 : decode cX5_putElement 5 = .ok (.ifCond .ne 5, 3) := by decide +kernel
theorem dX5_putElement_8 : decode cX5_putElement 8 = .ok (.iconst 0, 1) := by decide +kernel
theorem dX5_putElement_9 : decode cX5_putElement 9 = .ok (.ireturn, 1) := by decide +kernel
theorem dX5_putElement_10 : decode cX5_putElement 10 = .ok (.aload_n 0, 1) := by decide +kernel
theorem dX5_putElement_11 : decode cX5_putElement 11 = .ok (.getfield 9, 3) := by decide +kernel
theorem dX5_putElement_14 : decode cX5_putElement 14 = .ok (.iload_n 1, 1) := by decide +kernel
theorem dX5_putElement_15 : decode cX5_putElement 15 = .ok (.aload_n 0, 1) := by decide +kernel
theorem dX5_putElement_16 : decode cX5_putElement 16 = .ok (.lload_n 2, 1) := by decide +kernel
theorem dX5_putElement_17 : decode cX5_putElement 17 = .ok (.invokevirtual 42, 3) := by decide +kernel
theorem dX5_putElement_20 : decode cX5_putElement 20 = .ok (.lastore, 1) := by decide +kernel
theorem dX5_putElement_21 : decode cX5_putElement 21 = .ok (.iconst 1, 1) := by decide +kernel
theorem dX5_putElement_22 : decode cX5_putElement 22 = .ok (.ireturn, 1) := by decide +kernel
theorem dX5_elementAt_0 : decode cX5_elementAt 0 = .ok (.aload_n 0, 1) := by decide +kernel
theorem dX5_elementAt_1 : decode cX5_elementAt 1 = .ok (.iload_n 1, 1) := by decide +kernel
theorem dX5_elementAt_2 : decode cX5_elementAt 2 = .ok (.invokevirtual 39, 3) := by decide +kernel
theorem dX5_elementAt_5 : decode cX5_elementAt 5 = .ok (.ifCond .eq 12, 3) := by decide +kernel
theorem dX5_elementAt_8 : decode cX5_elementAt 8 = .ok (.aload_n 0, 1) := by decide +kernel
theorem dX5_elementAt_9 : decode cX5_elementAt 9 = .ok (.getfield 9, 3) := by decide +kernel
theorem dX5_elementAt_12 : decode cX5_elementAt 12 = .ok (.iload_n 1, 1) := by decide +kernel
theorem dX5_elementAt_13 : decode cX5_elementAt 13 = .ok (.laload, 1) := by decide +kernel
theorem dX5_elementAt_14 : decode cX5_elementAt 14 = .ok (.goto 4, 3) := by decide +kernel
theorem dX5_elementAt_17 : decode cX5_elementAt 17 = .ok (.lconst 0, 1) := by decide +kernel
theorem dX5_elementAt_18 : decode cX5_elementAt 18 = .ok (.lreturn, 1) := by decide +kernel
theorem dX5_giveElements_0 : decode cX5_giveElements 0 = .ok (.iload 4, 2) := by decide +kernel
theorem dX5_giveElements_2 : decode cX5_giveElements 2 = .ok (.ifCond .lt 33, 3) := by decide +kernel
theorem dX5_giveElements_5 : decode cX5_giveElements 5 = .ok (.iload_n 1, 1) := by decide +kernel
theorem dX5_giveElements_6 : decode cX5_giveElements 6 = .ok (.ifCond .lt 29, 3) := by decide +kernel
theorem dX5_giveElements_9 : decode cX5_giveElements 9 = .ok (.iload_n 1, 1) := by decide +kernel
theorem dX5_giveElements_10 : decode cX5_giveElements 10 = .ok (.aload_n 0, 1) := by decide +kernel
theorem dX5_giveElements_11 : decode cX5_giveElements 11 = .ok (.getfield 27, 3) := by decide +kernel
theorem dX5_giveElements_14 : decode cX5_giveElements 14 = .ok (.iload 4, 2) := by decide +kernel
theorem dX5_giveElements_16 : decode cX5_giveElements 16 = .ok (.isub, 1) := by decide +kernel
theorem dX5_giveElements_17 : decode cX5_giveElements 17 = .ok (.if_icmp .gt 18, 3) := by decide +kernel
theorem dX5_giveElements_20 : decode cX5_giveElements 20 = .ok (.iload_n 3, 1) := by decide +kernel
theorem dX5_giveElements_21 : decode cX5_giveElements 21 = .ok (.ifCond .lt 14, 3) := by decide +kernel
theorem dX5_giveElements_24 : decode cX5_giveElements 24 = .ok (.iload_n 3, 1) := by decide +kernel
theorem dX5_giveElements_25 : decode cX5_giveElements 25 = .ok (.aload_n 2, 1) := by decide +kernel
theorem dX5_giveElements_26 : decode cX5_giveElements 26 = .ok (.getfield 27, 3) := by decide +kernel
theorem dX5_giveElements_29 : decode cX5_giveElements 29 = .ok (.iload 4, 2) := by decide +kernel
theorem dX5_giveElements_31 : decode cX5_giveElements 31 = .ok (.isub, 1) := by decide +kernel
theorem dX5_giveElements_32 : decode cX5_giveElements 32 = .ok (.if_icmp .le 5, 3) := by decide +kernel
theorem dX5_giveElements_35 : decode cX5_giveElements 35 = .ok (.iconst 0, 1) := by decide +kernel
theorem dX5_giveElements_36 : decode cX5_giveElements 36 = .ok (.ireturn, 1) := by decide +kernel
theorem dX5_giveElements_37 : decode cX5_giveElements 37 = .ok (.aload_n 0, 1) := by decide +kernel
theorem dX5_giveElements_38 : decode cX5_giveElements 38 = .ok (.getfield 9, 3) := by decide +kernel
theorem dX5_giveElements_41 : decode cX5_giveElements 41 = .ok (.iload_n 1, 1) := by decide +kernel
theorem dX5_giveElements_42 : decode cX5_giveElements 42 = .ok (.aload_n 2, 1) := by decide +kernel
theorem dX5_giveElements_43 : decode cX5_giveElements 43 = .ok (.getfield 9, 3) := by decide +kernel
theorem dX5_giveElements_46 : decode cX5_giveElements 46 = .ok (.iload_n 3, 1) := by decide +kernel
theorem dX5_giveElements_47 : decode cX5_giveElements 47 = .ok (.iload 4, 2) := by decide +kernel
theorem dX5_giveElements_49 : decode cX5_giveElements 49 = .ok (.invokestatic 46, 3) := by decide +kernel
theorem dX5_giveElements_52 : decode cX5_giveElements 52 = .ok (.iconst 1, 1) := by decide +kernel
theorem dX5_giveElements_53 : decode cX5_giveElements 53 = .ok (.ireturn, 1) := by decide +kernel
theorem dX5_lowestBits_0 : decode cX5_lowestBits 0 = .ok (.aload_n 0, 1) := by decide +kernel
theorem dX5_lowestBits_1 : decode cX5_lowestBits 1 = .ok (.getfield 15, 3) := by decide +kernel
theorem dX5_lowestBits_4 : decode cX5_lowestBits 4 = .ok (.tableswitch 62 0 4 #[36, 41, 46, 62, 50], 36) := by decide +kernel
theorem dX5_lowestBits_40 : decode cX5_lowestBits 40 = .ok (.lload_n 1, 1) := by decide +kernel
theorem dX5_lowestBits_41 : decode cX5_lowestBits 41 = .ok (.l2i, 1) := by decide +kernel
theorem dX5_lowestBits_42 : decode cX5_lowestBits 42 = .ok (.i2b, 1) := by decide +kernel
theorem dX5_lowestBits_43 : decode cX5_lowestBits 43 = .ok (.i2l, 1) := by decide +kernel
theorem dX5_lowestBits_44 : decode cX5_lowestBits 44 = .ok (.lreturn, 1) := by decide +kernel
theorem dX5_lowestBits_45 : decode cX5_lowestBits 45 = .ok (.lload_n 1, 1) := by decide +kernel
theorem dX5_lowestBits_46 : decode cX5_lowestBits 46 = .ok (.l2i, 1) := by decide +kernel
theorem dX5_lowestBits_47 : decode cX5_lowestBits 47 = .ok (.i2s, 1) := by decide +kernel
theorem dX5_lowestBits_48 : decode cX5_lowestBits 48 = .ok (.i2l, 1) := by decide +kernel
theorem dX5_lowestBits_49 : decode cX5_lowestBits 49 = .ok (.lreturn, 1) := by decide +kernel
theorem dX5_lowestBits_50 : decode cX5_lowestBits 50 = .ok (.lload_n 1, 1) := by decide +kernel
theorem dX5_lowestBits_51 : decode cX5_lowestBits 51 = .ok (.l2i, 1) := by decide +kernel
theorem dX5_lowestBits_52 : decode cX5_lowestBits 52 = .ok (.i2l, 1) := by decide +kernel
theorem dX5_lowestBits_53 : decode cX5_lowestBits 53 = .ok (.lreturn, 1) := by decide +kernel
theorem dX5_lowestBits_54 : decode cX5_lowestBits 54 = .ok (.lload_n 1, 1) := by decide +kernel
theorem dX5_lowestBits_55 : decode cX5_lowestBits 55 = .ok (.lconst 0, 1) := by decide +kernel
theorem dX5_lowestBits_56 : decode cX5_lowestBits 56 = .ok (.lcmp, 1) := by decide +kernel
theorem dX5_lowestBits_57 : decode cX5_lowestBits 57 = .ok (.ifCond .ne 7, 3) := by decide +kernel
theorem dX5_lowestBits_60 : decode cX5_lowestBits 60 = .ok (.lconst 0, 1) := by decide +kernel
theorem dX5_lowestBits_61 : decode cX5_lowestBits 61 = .ok (.goto 4, 3) := by decide +kernel
theorem dX5_lowestBits_64 : decode cX5_lowestBits 64 = .ok (.lconst 1, 1) := by decide +kernel
theorem dX5_lowestBits_65 : decode cX5_lowestBits 65 = .ok (.lreturn, 1) := by decide +kernel
theorem dX5_lowestBits_66 : decode cX5_lowestBits 66 = .ok (.lload_n 1, 1) := by decide +kernel
theorem dX5_lowestBits_67 : decode cX5_lowestBits 67 = .ok (.lreturn, 1) := by decide +kernel
theorem dX6_init_0 : decode cX6_init 0 = .ok (.aload_n 0, 1) := by decide +kernel
theorem dX6_init_1 : decode cX6_init 1 = .ok (.invokespecial 3, 3) := by decide +kernel
theorem dX6_init_4 : decode cX6_init 4 = .ok (.aload_n 0, 1) := by decide +kernel
theorem dX6_init_5 : decode cX6_init 5 = .ok (.bipush 20, 2) := by decide +kernel
theorem dX6_init_7 : decode cX6_init 7 = .ok (.anewarray 9, 3) := by decide +kernel
theorem dX6_init_10 : decode cX6_init 10 = .ok (.putfield 11, 3) := by decide +kernel
theorem dX6_init_13 : decode cX6_init 13 = .ok (.aload_n 0, 1) := by decide +kernel
theorem dX6_init_14 : decode cX6_init 14 = .ok (.bipush 50, 2) := by decide +kernel
theorem dX6_init_16 : decode cX6_init 16 = .ok (.anewarray 17, 3) := by decide +kernel
theorem dX6_init_19 : decode cX6_init 19 = .ok (.putfield 19, 3) := by decide +kernel
theorem dX6_init_22 : decode cX6_init 22 = .ok (.aload_n 0, 1) := by decide +kernel
theorem dX6_init_23 : decode cX6_init 23 = .ok (.iconst 0, 1) := by decide +kernel
theorem dX6_init_24 : decode cX6_init 24 = .ok (.putfield 23, 3) := by decide +kernel
theorem dX6_init_27 : decode cX6_init 27 = .ok (.aload_n 0, 1) := by decide +kernel
theorem dX6_init_28 : decode cX6_init 28 = .ok (.iconst 0, 1) := by decide +kernel
theorem dX6_init_29 : decode cX6_init 29 = .ok (.putfield 27, 3) := by decide +kernel
theorem dX6_init_32 : decode cX6_init 32 = .ok (.aload_n 0, 1) := by decide +kernel
theorem dX6_init_33 : decode cX6_init 33 = .ok (.iconst 1, 1) := by decide +kernel
theorem dX6_init_34 : decode cX6_init 34 = .ok (.putfield 30, 3) := by decide +kernel
theorem dX6_init_37 : decode cX6_init 37 = .ok (.iconst 0, 1) := by decide +kernel
theorem dX6_init_38 : decode cX6_init 38 = .ok (.istore_n 1, 1) := by decide +kernel
theorem dX6_init_39 : decode cX6_init 39 = .ok (.iload_n 1, 1) := by decide +kernel
theorem dX6_init_40 : decode cX6_init 40 = .ok (.aload_n 0, 1) := by decide +kernel
theorem dX6_init_41 : decode cX6_init 41 = .ok (.getfield 19, 3) := by decide +kernel
theorem dX6_init_44 : decode cX6_init 44 = .ok (.arraylength, 1) := by decide +kernel
theorem dX6_init_45 : decode cX6_init 45 = .ok (.if_icmp .ge 22, 3) := by decide +kernel
theorem dX6_init_48 : decode cX6_init 48 = .ok (.aload_n 0, 1) := by decide +kernel
theorem dX6_init_49 : decode cX6_init 49 = .ok (.getfield 19, 3) := by decide +kernel
theorem dX6_init_52 : decode cX6_init 52 = .ok (.iload_n 1, 1) := by decide +kernel
theorem dX6_init_53 : decode cX6_init 53 = .ok (.new 17, 3) := by decide +kernel
theorem dX6_init_56 : decode cX6_init 56 = .ok (.dup, 1) := by decide +kernel
theorem dX6_init_57 : decode cX6_init 57 = .ok (.invokespecial 33, 3) := by decide +kernel
theorem dX6_init_60 : decode cX6_init 60 = .ok (.aastore, 1) := by decide +kernel
theorem dX6_init_61 : decode cX6_init 61 = .ok (.iinc 1 1, 3) := by decide +kernel
theorem dX6_init_64 : decode cX6_init 64 = .ok (.goto (-25), 3) := by decide +kernel
theorem dX6_init_67 : decode cX6_init 67 = .ok (.return_, 1) := by decide +kernel
theorem dX6_takeFrom_0 : decode cX6_takeFrom 0 = .ok (.iconst 0, 1) := by decide +kernel
theorem dX6_takeFrom_1 : decode cX6_takeFrom 1 = .ok (.istore_n 2, 1) := by decide +kernel
theorem dX6_takeFrom_2 : decode cX6_takeFrom 2 = .ok (.iload_n 2, 1) := by decide +kernel
theorem dX6_takeFrom_3 : decode cX6_takeFrom 3 = .ok (.aload_n 0, 1) := by decide +kernel
theorem dX6_takeFrom_4 : decode cX6_takeFrom 4 = .ok (.getfield 11, 3) := by decide +kernel
theorem dX6_takeFrom_7 : decode cX6_takeFrom 7 = .ok (.arraylength, 1) := by decide +kernel
theorem dX6_takeFrom_8 : decode cX6_takeFrom 8 = .ok (.if_icmp .ge 30, 3) := by decide +kernel
theorem dX6_takeFrom_11 : decode cX6_takeFrom 11 = .ok (.iload_n 2, 1) := by decide +kernel
theorem dX6_takeFrom_12 : decode cX6_takeFrom 12 = .ok (.aload_n 1, 1) := by decide +kernel
theorem dX6_takeFrom_13 : decode cX6_takeFrom 13 = .ok (.getfield 11, 3) := by decide +kernel
theorem dX6_takeFrom_16 : decode cX6_takeFrom 16 = .ok (.arraylength, 1) := by decide +kernel
theorem dX6_takeFrom_17 : decode cX6_takeFrom 17 = .ok (.if_icmp .ge 21, 3) := by decide +kernel
theorem dX6_takeFrom_20 : decode cX6_takeFrom 20 = .ok (.aload_n 0, 1) := by decide +kernel
theorem dX6_takeFrom_21 : decode cX6_takeFrom 21 = .ok (.getfield 11, 3) := by decide +kernel
theorem dX6_takeFrom_24 : decode cX6_takeFrom 24 = .ok (.iload_n 2, 1) := by decide +kernel
theorem dX6_takeFrom_25 : decode cX6_takeFrom 25 = .ok (.aload_n 1, 1) := by decide +kernel
theorem dX6_takeFrom_26 : decode cX6_takeFrom 26 = .ok (.getfield 11, 3) := by decide +kernel
theorem dX6_takeFrom_29 : decode cX6_takeFrom 29 = .ok (.iload_n 2, 1) := by decide +kernel
theorem dX6_takeFrom_30 : decode cX6_takeFrom 30 = .ok (.aaload, 1) := by decide +kernel
theorem dX6_takeFrom_31 : decode cX6_takeFrom 31 = .ok (.aastore, 1) := by decide +kernel
theorem dX6_takeFrom_32 : decode cX6_takeFrom 32 = .ok (.iinc 2 1, 3) := by decide +kernel
theorem dX6_takeFrom_35 : decode cX6_takeFrom 35 = .ok (.goto (-33), 3) := by decide +kernel
theorem dX6_takeFrom_38 : decode cX6_takeFrom 38 = .ok (.aload_n 0, 1) := by decide +kernel
theorem dX6_takeFrom_39 : decode cX6_takeFrom 39 = .ok (.aload_n 1, 1) := by decide +kernel
theorem dX6_takeFrom_40 : decode cX6_takeFrom 40 = .ok (.getfield 34, 3) := by decide +kernel
theorem dX6_takeFrom_43 : decode cX6_takeFrom 43 = .ok (.putfield 34, 3) := by decide +kernel
theorem dX6_takeFrom_46 : decode cX6_takeFrom 46 = .ok (.iconst 0, 1) := by decide +kernel
theorem dX6_takeFrom_47 : decode cX6_takeFrom 47 = .ok (.istore_n 2, 1) := by decide +kernel
theorem dX6_takeFrom_48 : decode cX6_takeFrom 48 = .ok (.iload_n 2, 1) := by decide +kernel
theorem dX6_takeFrom_49 : decode cX6_takeFrom 49 = .ok (.aload_n 0, 1) := by decide +kernel
theorem dX6_takeFrom_50 : decode cX6_takeFrom 50 = .ok (.getfield 34, 3) := by decide +kernel
theorem dX6_takeFrom_53 : decode cX6_takeFrom 53 = .ok (.if_icmp .ge 37, 3) := by decide +kernel
theorem dX6_takeFrom_56 : decode cX6_takeFrom 56 = .ok (.aload_n 0, 1) := by decide +kernel
theorem dX6_takeFrom_57 : decode cX6_takeFrom 57 = .ok (.iload_n 2, 1) := by decide +kernel
theorem dX6_takeFrom_58 : decode cX6_takeFrom 58 = .ok (.invokevirtual 37, 3) := by decide +kernel
theorem dX6_takeFrom_61 : decode cX6_takeFrom 61 = .ok (.astore_n 3, 1) := by decide +kernel
theorem dX6_takeFrom_62 : decode cX6_takeFrom 62 = .ok (.aload_n 1, 1) := by decide +kernel
theorem dX6_takeFrom_63 : decode cX6_takeFrom 63 = .ok (.iload_n 2, 1) := by decide +kernel
theorem dX6_takeFrom_64 : decode cX6_takeFrom 64 = .ok (.invokevirtual 37, 3) := by decide +kernel
theorem dX6_takeFrom_67 : decode cX6_takeFrom 67 = .ok (.astore 4, 2) := by decide +kernel
theorem dX6_takeFrom_69 : decode cX6_takeFrom 69 = .ok (.aload_n 3, 1) := by decide +kernel
theorem dX6_takeFrom_70 : decode cX6_takeFrom 70 = .ok (.ifnull 14, 3) := by decide +kernel
theorem dX6_takeFrom_73 : decode cX6_takeFrom 73 = .ok (.aload 4, 2) := by decide +kernel
theorem dX6_takeFrom_75 : decode cX6_takeFrom 75 = .ok (.ifnull 9, 3) := by decide +kernel
theorem dX6_takeFrom_78 : decode cX6_takeFrom 78 = .ok (.aload_n 3, 1) := by decide +kernel
theorem dX6_takeFrom_79 : decode cX6_takeFrom 79 = .ok (.aload 4, 2) := by decide +kernel
theorem dX6_takeFrom_81 : decode cX6_takeFrom 81 = .ok (.invokevirtual 41, 3) := by decide +kernel
theorem dX6_takeFrom_84 : decode cX6_takeFrom 84 = .ok (.iinc 2 1, 3) := by decide +kernel
theorem dX6_takeFrom_87 : decode cX6_takeFrom 87 = .ok (.goto (-39), 3) := by decide +kernel
theorem dX6_takeFrom_90 : decode cX6_takeFrom 90 = .ok (.aload_n 0, 1) := by decide +kernel
theorem dX6_takeFrom_91 : decode cX6_takeFrom 91 = .ok (.aload_n 1, 1) := by decide +kernel
theorem dX6_takeFrom_92 : decode cX6_takeFrom 92 = .ok (.getfield 45, 3) := by decide +kernel
theorem dX6_takeFrom_95 : decode cX6_takeFrom 95 = .ok (.putfield 45, 3) := by decide +kernel
theorem dX6_takeFrom_98 : decode cX6_takeFrom 98 = .ok (.aload_n 0, 1) := by decide +kernel
theorem dX6_takeFrom_99 : decode cX6_takeFrom 99 = .ok (.aload_n 1, 1) := by decide +kernel
theorem dX6_takeFrom_100 : decode cX6_takeFrom 100 = .ok (.getfield 48, 3) := by decide +kernel
theorem dX6_takeFrom_103 : decode cX6_takeFrom 103 = .ok (.putfield 48, 3) := by decide +kernel
theorem dX6_takeFrom_106 : decode cX6_takeFrom 106 = .ok (.aload_n 0, 1) := by decide +kernel
theorem dX6_takeFrom_107 : decode cX6_takeFrom 107 = .ok (.aload_n 1, 1) := by decide +kernel
theorem dX6_takeFrom_108 : decode cX6_takeFrom 108 = .ok (.getfield 23, 3) := by decide +kernel
theorem dX6_takeFrom_111 : decode cX6_takeFrom 111 = .ok (.putfield 23, 3) := by decide +kernel
theorem dX6_takeFrom_114 : decode cX6_takeFrom 114 = .ok (.aload_n 0, 1) := by decide +kernel
theorem dX6_takeFrom_115 : decode cX6_takeFrom 115 = .ok (.aload_n 1, 1) := by decide +kernel
theorem dX6_takeFrom_116 : decode cX6_takeFrom 116 = .ok (.getfield 27, 3) := by decide +kernel
theorem dX6_takeFrom_119 : decode cX6_takeFrom 119 = .ok (.putfield 27, 3) := by decide +kernel
theorem dX6_takeFrom_122 : decode cX6_takeFrom 122 = .ok (.aload_n 0, 1) := by decide +kernel
theorem dX6_takeFrom_123 : decode cX6_takeFrom 123 = .ok (.aload_n 1, 1) := by decide +kernel
theorem dX6_takeFrom_124 : decode cX6_takeFrom 124 = .ok (.getfield 30, 3) := by decide +kernel
theorem dX6_takeFrom_127 : decode cX6_takeFrom 127 = .ok (.putfield 30, 3) := by decide +kernel
theorem dX6_takeFrom_130 : decode cX6_takeFrom 130 = .ok (.return_, 1) := by decide +kernel
theorem dX6_lineAt_0 : decode cX6_lineAt 0 = .ok (.iload_n 1, 1) := by decide +kernel
theorem dX6_lineAt_1 : decode cX6_lineAt 1 = .ok (.ifCond .lt 29, 3) := by decide +kernel
theorem dX6_lineAt_4 : decode cX6_lineAt 4 = .ok (.iload_n 1, 1) := by decide +kernel
theorem dX6_lineAt_5 : decode cX6_lineAt 5 = .ok (.aload_n 0, 1) := by decide +kernel
theorem dX6_lineAt_6 : decode cX6_lineAt 6 = .ok (.getfield 45, 3) := by decide +kernel
theorem dX6_lineAt_9 : decode cX6_lineAt 9 = .ok (.if_icmp .ge 21, 3) := by decide +kernel
theorem dX6_lineAt_12 : decode cX6_lineAt 12 = .ok (.iload_n 1, 1) := by decide +kernel
theorem dX6_lineAt_13 : decode cX6_lineAt 13 = .ok (.aload_n 0, 1) := by decide +kernel
theorem dX6_lineAt_14 : decode cX6_lineAt 14 = .ok (.getfield 11, 3) := by decide +kernel
theorem dX6_lineAt_17 : decode cX6_lineAt 17 = .ok (.arraylength, 1) := by decide +kernel
theorem dX6_lineAt_18 : decode cX6_lineAt 18 = .ok (.if_icmp .ge 12, 3) := by decide +kernel
theorem dX6_lineAt_21 : decode cX6_lineAt 21 = .ok (.aload_n 0, 1) := by decide +kernel
theorem dX6_lineAt_22 : decode cX6_lineAt 22 = .ok (.getfield 11, 3) := by decide +kernel
theorem dX6_lineAt_25 : decode cX6_lineAt 25 = .ok (.iload_n 1, 1) := by decide +kernel
theorem dX6_lineAt_26 : decode cX6_lineAt 26 = .ok (.aaload, 1) := by decide +kernel
theorem dX6_lineAt_27 : decode cX6_lineAt 27 = .ok (.goto 4, 3) := by decide +kernel
theorem dX6_lineAt_30 : decode cX6_lineAt 30 = .ok (.aconst_null, 1) := by decide +kernel
theorem dX6_lineAt_31 : decode cX6_lineAt 31 = .ok (.areturn, 1) := by decide +kernel
theorem dX6_doneAt_0 : decode cX6_doneAt 0 = .ok (.iload_n 1, 1) := by decide +kernel
theorem dX6_doneAt_1 : decode cX6_doneAt 1 = .ok (.ifCond .lt 29, 3) := by decide +kernel
theorem dX6_doneAt_4 : decode cX6_doneAt 4 = .ok (.iload_n 1, 1) := by decide +kernel
theorem dX6_doneAt_5 : decode cX6_doneAt 5 = .ok (.aload_n 0, 1) := by decide +kernel
theorem dX6_doneAt_6 : decode cX6_doneAt 6 = .ok (.getfield 34, 3) := by decide +kernel
theorem dX6_doneAt_9 : decode cX6_doneAt 9 = .ok (.if_icmp .ge 21, 3) := by decide +kernel
theorem dX6_doneAt_12 : decode cX6_doneAt 12 = .ok (.iload_n 1, 1) := by decide +kernel
theorem dX6_doneAt_13 : decode cX6_doneAt 13 = .ok (.aload_n 0, 1) := by decide +kernel
theorem dX6_doneAt_14 : decode cX6_doneAt 14 = .ok (.getfield 19, 3) := by decide +kernel
theorem dX6_doneAt_17 : decode cX6_doneAt 17 = .ok (.arraylength, 1) := by decide +kernel
theorem dX6_doneAt_18 : decode cX6_doneAt 18 = .ok (.if_icmp .ge 12, 3) := by decide +kernel
theorem dX6_doneAt_21 : decode cX6_doneAt 21 = .ok (.aload_n 0, 1) := by decide +kernel
theorem dX6_doneAt_22 : decode cX6_doneAt 22 = .ok (.getfield 19, 3) := by decide +kernel
theorem dX6_doneAt_25 : decode cX6_doneAt 25 = .ok (.iload_n 1, 1) := by decide +kernel
theorem dX6_doneAt_26 : decode cX6_doneAt 26 = .ok (.aaload, 1) := by decide +kernel
theorem dX6_doneAt_27 : decode cX6_doneAt 27 = .ok (.goto 4, 3) := by decide +kernel
theorem dX6_doneAt_30 : decode cX6_doneAt 30 = .ok (.aconst_null, 1) := by decide +kernel
theorem dX6_doneAt_31 : decode cX6_doneAt 31 = .ok (.areturn, 1) := by decide +kernel
theorem dX6_isSpan_0 : decode cX6_isSpan 0 = .ok (.iload_n 1, 1) := by decide +kernel
theorem dX6_isSpan_1 : decode cX6_isSpan 1 = .ok (.ifCond .lt 20, 3) := by decide +kernel
theorem dX6_isSpan_4 : decode cX6_isSpan 4 = .ok (.iload_n 1, 1) := by decide +kernel
theorem dX6_isSpan_5 : decode cX6_isSpan 5 = .ok (.iload_n 2, 1) := by decide +kernel
theorem dX6_isSpan_6 : decode cX6_isSpan 6 = .ok (.if_icmp .gt 15, 3) := by decide +kernel
theorem dX6_isSpan_9 : decode cX6_isSpan 9 = .ok (.iload_n 2, 1) := by decide +kernel
theorem dX6_isSpan_10 : decode cX6_isSpan 10 = .ok (.aload_n 0, 1) := by decide +kernel
theorem dX6_isSpan_11 : decode cX6_isSpan 11 = .ok (.getfield 45, 3) := by decide +kernel
theorem dX6_isSpan_14 : decode cX6_isSpan 14 = .ok (.if_icmp .ge 7, 3) := by decide +kernel
theorem dX6_isSpan_17 : decode cX6_isSpan 17 = .ok (.iconst 1, 1) := by decide +kernel
theorem dX6_isSpan_18 : decode cX6_isSpan 18 = .ok (.goto 4, 3) := by decide +kernel
theorem dX6_isSpan_21 : decode cX6_isSpan 21 = .ok (.iconst 0, 1) := by decide +kernel
theorem dX6_isSpan_22 : decode cX6_isSpan 22 = .ok (.ireturn, 1) := by decide +kernel
theorem dX6_addLine_0 : decode cX6_addLine 0 = .ok (.aload_n 0, 1) := by decide +kernel
theorem dX6_addLine_1 : decode cX6_addLine 1 = .ok (.getfield 45, 3) := by decide +kernel
theorem dX6_addLine_4 : decode cX6_addLine 4 = .ok (.ifCond .lt 15, 3) := by decide +kernel
theorem dX6_addLine_7 : decode cX6_addLine 7 = .ok (.aload_n 0, 1) := by decide +kernel
theorem dX6_addLine_8 : decode cX6_addLine 8 = .ok (.getfield 45, 3) := by decide +kernel
theorem dX6_addLine_11 : decode cX6_addLine 11 = .ok (.aload_n 0, 1) := by decide +kernel
theorem dX6_addLine_12 : decode cX6_addLine 12 = .ok (.getfield 11, 3) := by decide +kernel
theorem dX6_addLine_15 : decode cX6_addLine 15 = .ok (.arraylength, 1) := by decide +kernel
theorem dX6_addLine_16 : decode cX6_addLine 16 = .ok (.if_icmp .lt 5, 3) := by decide +kernel
theorem dX6_addLine_19 : decode cX6_addLine 19 = .ok (.iconst 0, 1) := by decide +kernel
theorem dX6_addLine_20 : decode cX6_addLine 20 = .ok (.ireturn, 1) := by decide +kernel
theorem dX6_addLine_21 : decode cX6_addLine 21 = .ok (.aload_n 0, 1) := by decide +kernel
theorem dX6_addLine_22 : decode cX6_addLine 22 = .ok (.getfield 11, 3) := by decide +kernel
theorem dX6_addLine_25 : decode cX6_addLine 25 = .ok (.aload_n 0, 1) := by decide +kernel
theorem dX6_addLine_26 : decode cX6_addLine 26 = .ok (.getfield 45, 3) := by decide +kernel
theorem dX6_addLine_29 : decode cX6_addLine 29 = .ok (.aload_n 1, 1) := by decide +kernel
theorem dX6_addLine_30 : decode cX6_addLine 30 = .ok (.aastore, 1) := by decide +kernel
theorem dX6_addLine_31 : decode cX6_addLine 31 = .ok (.aload_n 0, 1) := by decide +kernel
theorem dX6_addLine_32 : decode cX6_addLine 32 = .ok (.dup, 1) := by decide +kernel
theorem dX6_addLine_33 : decode cX6_addLine 33 = .ok (.getfield 45, 3) := by decide +kernel
theorem dX6_addLine_36 : decode cX6_addLine 36 = .ok (.iconst 1, 1) := by decide +kernel
theorem dX6_addLine_37 : decode cX6_addLine 37 = .ok (.iadd, 1) := by decide +kernel
theorem dX6_addLine_38 : decode cX6_addLine 38 = .ok (.putfield 45, 3) := by decide +kernel
theorem dX6_addLine_41 : decode cX6_addLine 41 = .ok (.iconst 1, 1) := by decide +kernel
theorem dX6_addLine_42 : decode cX6_addLine 42 = .ok (.ireturn, 1) := by decide +kernel
theorem dX6_dropLine_0 : decode cX6_dropLine 0 = .ok (.aload_n 0, 1) := by decide +kernel
theorem dX6_dropLine_1 : decode cX6_dropLine 1 = .ok (.getfield 45, 3) := by decide +kernel
theorem dX6_dropLine_4 : decode cX6_dropLine 4 = .ok (.iconst 1, 1) := by decide +kernel
theorem dX6_dropLine_5 : decode cX6_dropLine 5 = .ok (.if_icmp .ge 5, 3) := by decide +kernel
theorem dX6_dropLine_8 : decode cX6_dropLine 8 = .ok (.iconst 0, 1) := by decide +kernel
theorem dX6_dropLine_9 : decode cX6_dropLine 9 = .ok (.ireturn, 1) := by decide +kernel
theorem dX6_dropLine_10 : decode cX6_dropLine 10 = .ok (.aload_n 0, 1) := by decide +kernel
theorem dX6_dropLine_11 : decode cX6_dropLine 11 = .ok (.dup, 1) := by decide +kernel
theorem dX6_dropLine_12 : decode cX6_dropLine 12 = .ok (.getfield 45, 3) := by decide +kernel
theorem dX6_dropLine_15 : decode cX6_dropLine 15 = .ok (.iconst 1, 1) := by decide +kernel
theorem dX6_dropLine_16 : decode cX6_dropLine 16 = .ok (.isub, 1) := by decide +kernel
theorem dX6_dropLine_17 : decode cX6_dropLine 17 = .ok (.putfield 45, 3) := by decide +kernel
theorem dX6_dropLine_20 : decode cX6_dropLine 20 = .ok (.iconst 1, 1) := by decide +kernel
theorem dX6_dropLine_21 : decode cX6_dropLine 21 = .ok (.ireturn, 1) := by decide +kernel
theorem dX6_addDone_0 : decode cX6_addDone 0 = .ok (.aload_n 0, 1) := by decide +kernel
theorem dX6_addDone_1 : decode cX6_addDone 1 = .ok (.getfield 34, 3) := by decide +kernel
theorem dX6_addDone_4 : decode cX6_addDone 4 = .ok (.ifCond .lt 27, 3) := by decide +kernel
theorem dX6_addDone_7 : decode cX6_addDone 7 = .ok (.aload_n 0, 1) := by decide +kernel
theorem dX6_addDone_8 : decode cX6_addDone 8 = .ok (.getfield 34, 3) := by decide +kernel
theorem dX6_addDone_11 : decode cX6_addDone 11 = .ok (.aload_n 0, 1) := by decide +kernel
theorem dX6_addDone_12 : decode cX6_addDone 12 = .ok (.getfield 19, 3) := by decide +kernel
theorem dX6_addDone_15 : decode cX6_addDone 15 = .ok (.arraylength, 1) := by decide +kernel
theorem dX6_addDone_16 : decode cX6_addDone 16 = .ok (.if_icmp .ge 15, 3) := by decide +kernel
theorem dX6_addDone_19 : decode cX6_addDone 19 = .ok (.aload_n 0, 1) := by decide +kernel
theorem dX6_addDone_20 : decode cX6_addDone 20 = .ok (.getfield 19, 3) := by decide +kernel
theorem dX6_addDone_23 : decode cX6_addDone 23 = .ok (.aload_n 0, 1) := by decide +kernel
theorem dX6_addDone_24 : decode cX6_addDone 24 = .ok (.getfield 34, 3) := by decide +kernel
theorem dX6_addDone_27 : decode cX6_addDone 27 = .ok (.aaload, 1) := by decide +kernel
theorem dX6_addDone_28 : decode cX6_addDone 28 = .ok (.goto 4, 3) := by decide +kernel
theorem dX6_addDone_31 : decode cX6_addDone 31 = .ok (.aconst_null, 1) := by decide +kernel
theorem dX6_addDone_32 : decode cX6_addDone 32 = .ok (.astore_n 3, 1) := by decide +kernel
theorem dX6_addDone_33 : decode cX6_addDone 33 = .ok (.aload_n 3, 1) := by decide +kernel
theorem dX6_addDone_34 : decode cX6_addDone 34 = .ok (.ifnonnull 5, 3) := by decide +kernel
theorem dX6_addDone_37 : decode cX6_addDone 37 = .ok (.iconst 0, 1) := by decide +kernel
theorem dX6_addDone_38 : decode cX6_addDone 38 = .ok (.ireturn, 1) := by decide +kernel
theorem dX6_addDone_39 : decode cX6_addDone 39 = .ok (.aload_n 3, 1) := by decide +kernel
theorem dX6_addDone_40 : decode cX6_addDone 40 = .ok (.getfield 51, 3) := by decide +kernel
theorem dX6_addDone_43 : decode cX6_addDone 43 = .ok (.aload_n 1, 1) := by decide +kernel
theorem dX6_addDone_44 : decode cX6_addDone 44 = .ok (.getfield 55, 3) := by decide +kernel
theorem dX6_addDone_47 : decode cX6_addDone 47 = .ok (.invokevirtual 58, 3) := by decide +kernel
theorem dX6_addDone_50 : decode cX6_addDone 50 = .ok (.aload_n 3, 1) := by decide +kernel
theorem dX6_addDone_51 : decode cX6_addDone 51 = .ok (.aload_n 0, 1) := by decide +kernel
theorem dX6_addDone_52 : decode cX6_addDone 52 = .ok (.getfield 23, 3) := by decide +kernel
theorem dX6_addDone_55 : decode cX6_addDone 55 = .ok (.putfield 63, 3) := by decide +kernel
theorem dX6_addDone_58 : decode cX6_addDone 58 = .ok (.aload_n 3, 1) := by decide +kernel
theorem dX6_addDone_59 : decode cX6_addDone 59 = .ok (.iload_n 2, 1) := by decide +kernel
theorem dX6_addDone_60 : decode cX6_addDone 60 = .ok (.putfield 64, 3) := by decide +kernel
theorem dX6_addDone_63 : decode cX6_addDone 63 = .ok (.aload_n 0, 1) := by decide +kernel
theorem dX6_addDone_64 : decode cX6_addDone 64 = .ok (.dup, 1) := by decide +kernel
theorem dX6_addDone_65 : decode cX6_addDone 65 = .ok (.getfield 34, 3) := by decide +kernel
theorem dX6_addDone_68 : decode cX6_addDone 68 = .ok (.iconst 1, 1) := by decide +kernel
theorem dX6_addDone_69 : decode cX6_addDone 69 = .ok (.iadd, 1) := by decide +kernel
theorem dX6_addDone_70 : decode cX6_addDone 70 = .ok (.putfield 34, 3) := by decide +kernel
theorem dX6_addDone_73 : decode cX6_addDone 73 = .ok (.aload_n 0, 1) := by decide +kernel
theorem dX6_addDone_74 : decode cX6_addDone 74 = .ok (.aload_n 1, 1) := by decide +kernel
theorem dX6_addDone_75 : decode cX6_addDone 75 = .ok (.getfield 67, 3) := by decide +kernel
theorem dX6_addDone_78 : decode cX6_addDone 78 = .ok (.putfield 48, 3) := by decide +kernel
theorem dX6_addDone_81 : decode cX6_addDone 81 = .ok (.aload_n 0, 1) := by decide +kernel
theorem dX6_addDone_82 : decode cX6_addDone 82 = .ok (.getfield 27, 3) := by decide +kernel
theorem dX6_addDone_85 : decode cX6_addDone 85 = .ok (.ifCond .ne 19, 3) := by decide +kernel
theorem dX6_addDone_88 : decode cX6_addDone 88 = .ok (.aload_n 0, 1) := by decide +kernel
theorem dX6_addDone_89 : decode cX6_addDone 89 = .ok (.aload_n 0, 1) := by decide +kernel
theorem dX6_addDone_90 : decode cX6_addDone 90 = .ok (.getfield 23, 3) := by decide +kernel
theorem dX6_addDone_93 : decode cX6_addDone 93 = .ok (.ifCond .ne 7, 3) := by decide +kernel
theorem dX6_addDone_96 : decode cX6_addDone 96 = .ok (.iconst 1, 1) := by decide +kernel
theorem dX6_addDone_97 : decode cX6_addDone 97 = .ok (.goto 4, 3) := by decide +kernel
theorem dX6_addDone_100 : decode cX6_addDone 100 = .ok (.iconst 0, 1) := by decide +kernel
theorem dX6_addDone_101 : decode cX6_addDone 101 = .ok (.putfield 23, 3) := by decide +kernel
theorem dX6_addDone_104 : decode cX6_addDone 104 = .ok (.iconst 1, 1) := by decide +kernel
theorem dX6_addDone_105 : decode cX6_addDone 105 = .ok (.ireturn, 1) := by decide +kernel
theorem dX6_ripBack_0 : decode cX6_ripBack 0 = .ok (.aload_n 0, 1) := by decide +kernel
theorem dX6_ripBack_1 : decode cX6_ripBack 1 = .ok (.iconst 0, 1) := by decide +kernel
theorem dX6_ripBack_2 : decode cX6_ripBack 2 = .ok (.aload_n 0, 1) := by decide +kernel
theorem dX6_ripBack_3 : decode cX6_ripBack 3 = .ok (.getfield 34, 3) := by decide +kernel
theorem dX6_ripBack_6 : decode cX6_ripBack 6 = .ok (.iload_n 1, 1) := by decide +kernel
theorem dX6_ripBack_7 : decode cX6_ripBack 7 = .ok (.isub, 1) := by decide +kernel
theorem dX6_ripBack_8 : decode cX6_ripBack 8 = .ok (.invokestatic 70, 3) := by decide +kernel
theorem dX6_ripBack_11 : decode cX6_ripBack 11 = .ok (.invokevirtual 37, 3) := by decide +kernel
theorem dX6_ripBack_14 : decode cX6_ripBack 14 = .ok (.astore_n 2, 1) := by decide +kernel
theorem dX6_ripBack_15 : decode cX6_ripBack 15 = .ok (.aload_n 2, 1) := by decide +kernel
theorem dX6_ripBack_16 : decode cX6_ripBack 16 = .ok (.ifnull 8, 3) := by decide +kernel
theorem dX6_ripBack_19 : decode cX6_ripBack 19 = .ok (.iload_n 1, 1) := by decide +kernel
theorem dX6_ripBack_20 : decode cX6_ripBack 20 = .ok (.iconst 1, 1) := by decide +kernel
theorem dX6_ripBack_21 : decode cX6_ripBack 21 = .ok (.if_icmp .ge 4, 3) := by decide +kernel
theorem dX6_ripBack_24 : decode cX6_ripBack 24 = .ok (.return_, 1) := by decide +kernel
theorem dX6_ripBack_25 : decode cX6_ripBack 25 = .ok (.aload_n 0, 1) := by decide +kernel
theorem dX6_ripBack_26 : decode cX6_ripBack 26 = .ok (.aload_n 2, 1) := by decide +kernel
theorem dX6_ripBack_27 : decode cX6_ripBack 27 = .ok (.getfield 51, 3) := by decide +kernel
theorem dX6_ripBack_30 : decode cX6_ripBack 30 = .ok (.aload_n 2, 1) := by decide +kernel
theorem dX6_ripBack_31 : decode cX6_ripBack 31 = .ok (.getfield 51, 3) := by decide +kernel
theorem dX6_ripBack_34 : decode cX6_ripBack 34 = .ok (.getfield 76, 3) := by decide +kernel
theorem dX6_ripBack_37 : decode cX6_ripBack 37 = .ok (.invokevirtual 79, 3) := by decide +kernel
theorem dX6_ripBack_40 : decode cX6_ripBack 40 = .ok (.putfield 48, 3) := by decide +kernel
theorem dX6_ripBack_43 : decode cX6_ripBack 43 = .ok (.aload_n 0, 1) := by decide +kernel
theorem dX6_ripBack_44 : decode cX6_ripBack 44 = .ok (.aload_n 2, 1) := by decide +kernel
theorem dX6_ripBack_45 : decode cX6_ripBack 45 = .ok (.getfield 63, 3) := by decide +kernel
theorem dX6_ripBack_48 : decode cX6_ripBack 48 = .ok (.putfield 23, 3) := by decide +kernel
theorem dX6_ripBack_51 : decode cX6_ripBack 51 = .ok (.aload_n 0, 1) := by decide +kernel
theorem dX6_ripBack_52 : decode cX6_ripBack 52 = .ok (.iconst 0, 1) := by decide +kernel
theorem dX6_ripBack_53 : decode cX6_ripBack 53 = .ok (.aload_n 0, 1) := by decide +kernel
theorem dX6_ripBack_54 : decode cX6_ripBack 54 = .ok (.getfield 34, 3) := by decide +kernel
theorem dX6_ripBack_57 : decode cX6_ripBack 57 = .ok (.iload_n 1, 1) := by decide +kernel
theorem dX6_ripBack_58 : decode cX6_ripBack 58 = .ok (.isub, 1) := by decide +kernel
theorem dX6_ripBack_59 : decode cX6_ripBack 59 = .ok (.invokestatic 70, 3) := by decide +kernel
theorem dX6_ripBack_62 : decode cX6_ripBack 62 = .ok (.putfield 34, 3) := by decide +kernel
theorem dX6_ripBack_65 : decode cX6_ripBack 65 = .ok (.return_, 1) := by decide +kernel
theorem dX6_placesAtFirst_0 : decode cX6_placesAtFirst 0 = .ok (.lconst 1, 1) := by decide +kernel
theorem dX6_placesAtFirst_1 : decode cX6_placesAtFirst 1 = .ok (.iload_n 1, 1) := by decide +kernel
theorem dX6_placesAtFirst_2 : decode cX6_placesAtFirst 2 = .ok (.lshl, 1) := by decide +kernel
theorem dX6_placesAtFirst_3 : decode cX6_placesAtFirst 3 = .ok (.lstore_n 2, 1) := by decide +kernel
theorem dX6_placesAtFirst_4 : decode cX6_placesAtFirst 4 = .ok (.aload_n 0, 1) := by decide +kernel
theorem dX6_placesAtFirst_5 : decode cX6_placesAtFirst 5 = .ok (.getfield 48, 3) := by decide +kernel
theorem dX6_placesAtFirst_8 : decode cX6_placesAtFirst 8 = .ok (.istore 4, 2) := by decide +kernel
theorem dX6_placesAtFirst_10 : decode cX6_placesAtFirst 10 = .ok (.aload_n 0, 1) := by decide +kernel
theorem dX6_placesAtFirst_11 : decode cX6_placesAtFirst 11 = .ok (.getfield 34, 3) := by decide +kernel
theorem dX6_placesAtFirst_14 : decode cX6_placesAtFirst 14 = .ok (.iconst 1, 1) := by decide +kernel
theorem dX6_placesAtFirst_15 : decode cX6_placesAtFirst 15 = .ok (.isub, 1) := by decide +kernel
theorem dX6_placesAtFirst_16 : decode cX6_placesAtFirst 16 = .ok (.istore 5, 2) := by decide +kernel
theorem dX6_placesAtFirst_18 : decode cX6_placesAtFirst 18 = .ok (.iload 5, 2) := by decide +kernel
theorem dX6_placesAtFirst_20 : decode cX6_placesAtFirst 20 = .ok (.ifCond .lt 72, 3) := by decide +kernel
theorem dX6_placesAtFirst_23 : decode cX6_placesAtFirst 23 = .ok (.aload_n 0, 1) := by decide +kernel
theorem dX6_placesAtFirst_24 : decode cX6_placesAtFirst 24 = .ok (.iload 5, 2) := by decide +kernel
theorem dX6_placesAtFirst_26 : decode cX6_placesAtFirst 26 = .ok (.invokevirtual 37, 3) := by decide +kernel
theorem dX6_placesAtFirst_29 : decode cX6_placesAtFirst 29 = .ok (.astore 6, 2) := by decide +kernel
theorem dX6_placesAtFirst_31 : decode cX6_placesAtFirst 31 = .ok (.aload 6, 2) := by decide +kernel
theorem dX6_placesAtFirst_33 : decode cX6_placesAtFirst 33 = .ok (.ifnonnull 5, 3) := by decide +kernel
theorem dX6_placesAtFirst_36 : decode cX6_placesAtFirst 36 = .ok (.lconst 0, 1) := by decide +kernel
theorem dX6_placesAtFirst_37 : decode cX6_placesAtFirst 37 = .ok (.lreturn, 1) := by decide +kernel
theorem dX6_placesAtFirst_38 : decode cX6_placesAtFirst 38 = .ok (.aload_n 0, 1) := by decide +kernel
theorem dX6_placesAtFirst_39 : decode cX6_placesAtFirst 39 = .ok (.getfield 27, 3) := by decide +kernel
theorem dX6_placesAtFirst_42 : decode cX6_placesAtFirst 42 = .ok (.ifCond .ne 12, 3) := by decide +kernel
theorem dX6_placesAtFirst_45 : decode cX6_placesAtFirst 45 = .ok (.lload_n 2, 1) := by decide +kernel
theorem dX6_placesAtFirst_46 : decode cX6_placesAtFirst 46 = .ok (.iload 4, 2) := by decide +kernel
theorem dX6_placesAtFirst_48 : decode cX6_placesAtFirst 48 = .ok (.invokestatic 83, 3) := by decide +kernel
theorem dX6_placesAtFirst_51 : decode cX6_placesAtFirst 51 = .ok (.goto 4, 3) := by decide +kernel
theorem dX6_placesAtFirst_54 : decode cX6_placesAtFirst 54 = .ok (.lload_n 2, 1) := by decide +kernel
theorem dX6_placesAtFirst_55 : decode cX6_placesAtFirst 55 = .ok (.lstore 7, 2) := by decide +kernel
theorem dX6_placesAtFirst_57 : decode cX6_placesAtFirst 57 = .ok (.aload 6, 2) := by decide +kernel
theorem dX6_placesAtFirst_59 : decode cX6_placesAtFirst 59 = .ok (.getfield 51, 3) := by decide +kernel
theorem dX6_placesAtFirst_62 : decode cX6_placesAtFirst 62 = .ok (.lload 7, 2) := by decide +kernel
theorem dX6_placesAtFirst_64 : decode cX6_placesAtFirst 64 = .ok (.invokevirtual 87, 3) := by decide +kernel
theorem dX6_placesAtFirst_67 : decode cX6_placesAtFirst 67 = .ok (.lstore_n 2, 1) := by decide +kernel
theorem dX6_placesAtFirst_68 : decode cX6_placesAtFirst 68 = .ok (.aload 6, 2) := by decide +kernel
theorem dX6_placesAtFirst_70 : decode cX6_placesAtFirst 70 = .ok (.getfield 51, 3) := by decide +kernel
theorem dX6_placesAtFirst_73 : decode cX6_placesAtFirst 73 = .ok (.aload 6, 2) := by decide +kernel
theorem dX6_placesAtFirst_75 : decode cX6_placesAtFirst 75 = .ok (.getfield 51, 3) := by decide +kernel
theorem dX6_placesAtFirst_78 : decode cX6_placesAtFirst 78 = .ok (.getfield 76, 3) := by decide +kernel
theorem dX6_placesAtFirst_81 : decode cX6_placesAtFirst 81 = .ok (.invokevirtual 79, 3) := by decide +kernel
theorem dX6_placesAtFirst_84 : decode cX6_placesAtFirst 84 = .ok (.istore 4, 2) := by decide +kernel
theorem dX6_placesAtFirst_86 : decode cX6_placesAtFirst 86 = .ok (.iinc 5 (-1), 3) := by decide +kernel
theorem dX6_placesAtFirst_89 : decode cX6_placesAtFirst 89 = .ok (.goto (-71), 3) := by decide +kernel
theorem dX6_placesAtFirst_92 : decode cX6_placesAtFirst 92 = .ok (.lload_n 2, 1) := by decide +kernel
theorem dX6_placesAtFirst_93 : decode cX6_placesAtFirst 93 = .ok (.lreturn, 1) := by decide +kernel
theorem dX6_turnedAbout_0 : decode cX6_turnedAbout 0 = .ok (.lconst 0, 1) := by decide +kernel
theorem dX6_turnedAbout_1 : decode cX6_turnedAbout 1 = .ok (.lstore_n 3, 1) := by decide +kernel
theorem dX6_turnedAbout_2 : decode cX6_turnedAbout 2 = .ok (.iconst 0, 1) := by decide +kernel
theorem dX6_turnedAbout_3 : decode cX6_turnedAbout 3 = .ok (.istore 5, 2) := by decide +kernel
theorem dX6_turnedAbout_5 : decode cX6_turnedAbout 5 = .ok (.iload 5, 2) := by decide +kernel
theorem dX6_turnedAbout_7 : decode cX6_turnedAbout 7 = .ok (.iload_n 2, 1) := by decide +kernel
theorem dX6_turnedAbout_8 : decode cX6_turnedAbout 8 = .ok (.if_icmp .ge 31, 3) := by decide +kernel
theorem dX6_turnedAbout_11 : decode cX6_turnedAbout 11 = .ok (.lload_n 0, 1) := by decide +kernel
theorem dX6_turnedAbout_12 : decode cX6_turnedAbout 12 = .ok (.lconst 1, 1) := by decide +kernel
theorem dX6_turnedAbout_13 : decode cX6_turnedAbout 13 = .ok (.iload 5, 2) := by decide +kernel
theorem dX6_turnedAbout_15 : decode cX6_turnedAbout 15 = .ok (.lshl, 1) := by decide +kernel
theorem dX6_turnedAbout_16 : decode cX6_turnedAbout 16 = .ok (.land, 1) := by decide +kernel
theorem dX6_turnedAbout_17 : decode cX6_turnedAbout 17 = .ok (.lconst 0, 1) := by decide +kernel
theorem dX6_turnedAbout_18 : decode cX6_turnedAbout 18 = .ok (.lcmp, 1) := by decide +kernel
theorem dX6_turnedAbout_19 : decode cX6_turnedAbout 19 = .ok (.ifCond .eq 14, 3) := by decide +kernel
theorem dX6_turnedAbout_22 : decode cX6_turnedAbout 22 = .ok (.lload_n 3, 1) := by decide +kernel
theorem dX6_turnedAbout_23 : decode cX6_turnedAbout 23 = .ok (.lconst 1, 1) := by decide +kernel
theorem dX6_turnedAbout_24 : decode cX6_turnedAbout 24 = .ok (.iload_n 2, 1) := by decide +kernel
theorem dX6_turnedAbout_25 : decode cX6_turnedAbout 25 = .ok (.iconst 1, 1) := by decide +kernel
theorem dX6_turnedAbout_26 : decode cX6_turnedAbout 26 = .ok (.isub, 1) := by decide +kernel
theorem dX6_turnedAbout_27 : decode cX6_turnedAbout 27 = .ok (.iload 5, 2) := by decide +kernel
theorem dX6_turnedAbout_29 : decode cX6_turnedAbout 29 = .ok (.isub, 1) := by decide +kernel
theorem dX6_turnedAbout_30 : decode cX6_turnedAbout 30 = .ok (.lshl, 1) := by decide +kernel
theorem dX6_turnedAbout_31 : decode cX6_turnedAbout 31 = .ok (.lor, 1) := by decide +kernel
theorem dX6_turnedAbout_32 : decode cX6_turnedAbout 32 = .ok (.lstore_n 3, 1) := by decide +kernel
theorem dX6_turnedAbout_33 : decode cX6_turnedAbout 33 = .ok (.iinc 5 1, 3) := by decide +kernel
theorem dX6_turnedAbout_36 : decode cX6_turnedAbout 36 = .ok (.goto (-31), 3) := by decide +kernel
theorem dX6_turnedAbout_39 : decode cX6_turnedAbout 39 = .ok (.lload_n 3, 1) := by decide +kernel
theorem dX6_turnedAbout_40 : decode cX6_turnedAbout 40 = .ok (.lreturn, 1) := by decide +kernel
theorem dX6_drawBelow_0 : decode cX6_drawBelow 0 = .ok (.aload_n 0, 1) := by decide +kernel
theorem dX6_drawBelow_1 : decode cX6_drawBelow 1 = .ok (.aload_n 0, 1) := by decide +kernel
theorem dX6_drawBelow_2 : decode cX6_drawBelow 2 = .ok (.getfield 30, 3) := by decide +kernel
theorem dX6_drawBelow_5 : decode cX6_drawBelow 5 = .ok (.ldc 91, 2) := by decide +kernel
theorem dX6_drawBelow_7 : decode cX6_drawBelow 7 = .ok (.imul, 1) := by decide +kernel
theorem dX6_drawBelow_8 : decode cX6_drawBelow 8 = .ok (.sipush 12345, 3) := by decide +kernel
theorem dX6_drawBelow_11 : decode cX6_drawBelow 11 = .ok (.iadd, 1) := by decide +kernel
theorem dX6_drawBelow_12 : decode cX6_drawBelow 12 = .ok (.putfield 30, 3) := by decide +kernel
theorem dX6_drawBelow_15 : decode cX6_drawBelow 15 = .ok (.iload_n 1, 1) := by decide +kernel
theorem dX6_drawBelow_16 : decode cX6_drawBelow 16 = .ok (.iconst 1, 1) := by decide +kernel
theorem dX6_drawBelow_17 : decode cX6_drawBelow 17 = .ok (.if_icmp .ge 7, 3) := by decide +kernel
theorem dX6_drawBelow_20 : decode cX6_drawBelow 20 = .ok (.iconst 0, 1) := by decide +kernel
theorem dX6_drawBelow_21 : decode cX6_drawBelow 21 = .ok (.goto 12, 3) := by decide +kernel
theorem dX6_drawBelow_24 : decode cX6_drawBelow 24 = .ok (.aload_n 0, 1) := by decide +kernel
theorem dX6_drawBelow_25 : decode cX6_drawBelow 25 = .ok (.getfield 30, 3) := by decide +kernel
theorem dX6_drawBelow_28 : decode cX6_drawBelow 28 = .ok (.bipush 16, 2) := by decide +kernel
theorem dX6_drawBelow_30 : decode cX6_drawBelow 30 = .ok (.iushr, 1) := by decide +kernel
theorem dX6_drawBelow_31 : decode cX6_drawBelow 31 = .ok (.iload_n 1, 1) := by decide +kernel
theorem dX6_drawBelow_32 : decode cX6_drawBelow 32 = .ok (.irem, 1) := by decide +kernel
theorem dX6_drawBelow_33 : decode cX6_drawBelow 33 = .ok (.ireturn, 1) := by decide +kernel
theorem dX7_init_0 : decode cX7_init 0 = .ok (.aload_n 0, 1) := by decide +kernel
theorem dX7_init_1 : decode cX7_init 1 = .ok (.invokespecial 3, 3) := by decide +kernel
theorem dX7_init_4 : decode cX7_init 4 = .ok (.aload_n 0, 1) := by decide +kernel
theorem dX7_init_5 : decode cX7_init 5 = .ok (.sipush 200, 3) := by decide +kernel
theorem dX7_init_8 : decode cX7_init 8 = .ok (.newarray .int, 2) := by decide +kernel
theorem dX7_init_10 : decode cX7_init 10 = .ok (.putfield 9, 3) := by decide +kernel
theorem dX7_init_13 : decode cX7_init 13 = .ok (.return_, 1) := by decide +kernel
theorem dX7_takeFrom_0 : decode cX7_takeFrom 0 = .ok (.aload_n 0, 1) := by decide +kernel
theorem dX7_takeFrom_1 : decode cX7_takeFrom 1 = .ok (.aload_n 1, 1) := by decide +kernel
theorem dX7_takeFrom_2 : decode cX7_takeFrom 2 = .ok (.getfield 15, 3) := by decide +kernel
theorem dX7_takeFrom_5 : decode cX7_takeFrom 5 = .ok (.aload_n 0, 1) := by decide +kernel
theorem dX7_takeFrom_6 : decode cX7_takeFrom 6 = .ok (.getfield 9, 3) := by decide +kernel
theorem dX7_takeFrom_9 : decode cX7_takeFrom 9 = .ok (.arraylength, 1) := by decide +kernel
theorem dX7_takeFrom_10 : decode cX7_takeFrom 10 = .ok (.invokestatic 19, 3) := by decide +kernel
theorem dX7_takeFrom_13 : decode cX7_takeFrom 13 = .ok (.putfield 15, 3) := by decide +kernel
theorem dX7_takeFrom_16 : decode cX7_takeFrom 16 = .ok (.aload_n 1, 1) := by decide +kernel
theorem dX7_takeFrom_17 : decode cX7_takeFrom 17 = .ok (.getfield 9, 3) := by decide +kernel
theorem dX7_takeFrom_20 : decode cX7_takeFrom 20 = .ok (.iconst 0, 1) := by decide +kernel
theorem dX7_takeFrom_21 : decode cX7_takeFrom 21 = .ok (.aload_n 0, 1) := by decide +kernel
theorem dX7_takeFrom_22 : decode cX7_takeFrom 22 = .ok (.getfield 9, 3) := by decide +kernel
theorem dX7_takeFrom_25 : decode cX7_takeFrom 25 = .ok (.iconst 0, 1) := by decide +kernel
theorem dX7_takeFrom_26 : decode cX7_takeFrom 26 = .ok (.aload_n 0, 1) := by decide +kernel
theorem dX7_takeFrom_27 : decode cX7_takeFrom 27 = .ok (.getfield 15, 3) := by decide +kernel
theorem dX7_takeFrom_30 : decode cX7_takeFrom 30 = .ok (.invokestatic 25, 3) := by decide +kernel
theorem dX7_takeFrom_33 : decode cX7_takeFrom 33 = .ok (.return_, 1) := by decide +kernel
theorem dX7_addKind_0 : decode cX7_addKind 0 = .ok (.aload_n 0, 1) := by decide +kernel
theorem dX7_addKind_1 : decode cX7_addKind 1 = .ok (.getfield 15, 3) := by decide +kernel
theorem dX7_addKind_4 : decode cX7_addKind 4 = .ok (.ifCond .lt 35, 3) := by decide +kernel
theorem dX7_addKind_7 : decode cX7_addKind 7 = .ok (.aload_n 0, 1) := by decide +kernel
theorem dX7_addKind_8 : decode cX7_addKind 8 = .ok (.getfield 15, 3) := by decide +kernel
theorem dX7_addKind_11 : decode cX7_addKind 11 = .ok (.aload_n 0, 1) := by decide +kernel
theorem dX7_addKind_12 : decode cX7_addKind 12 = .ok (.getfield 9, 3) := by decide +kernel
theorem dX7_addKind_15 : decode cX7_addKind 15 = .ok (.arraylength, 1) := by decide +kernel
theorem dX7_addKind_16 : decode cX7_addKind 16 = .ok (.if_icmp .ge 23, 3) := by decide +kernel
theorem dX7_addKind_19 : decode cX7_addKind 19 = .ok (.aload_n 0, 1) := by decide +kernel
theorem dX7_addKind_20 : decode cX7_addKind 20 = .ok (.getfield 9, 3) := by decide +kernel
theorem dX7_addKind_23 : decode cX7_addKind 23 = .ok (.aload_n 0, 1) := by decide +kernel
theorem dX7_addKind_24 : decode cX7_addKind 24 = .ok (.getfield 15, 3) := by decide +kernel
theorem dX7_addKind_27 : decode cX7_addKind 27 = .ok (.iload_n 1, 1) := by decide +kernel
theorem dX7_addKind_28 : decode cX7_addKind 28 = .ok (.iastore, 1) := by decide +kernel
theorem dX7_addKind_29 : decode cX7_addKind 29 = .ok (.aload_n 0, 1) := by decide +kernel
theorem dX7_addKind_30 : decode cX7_addKind 30 = .ok (.dup, 1) := by decide +kernel
theorem dX7_addKind_31 : decode cX7_addKind 31 = .ok (.getfield 15, 3) := by decide +kernel
theorem dX7_addKind_34 : decode cX7_addKind 34 = .ok (.iconst 1, 1) := by decide +kernel
theorem dX7_addKind_35 : decode cX7_addKind 35 = .ok (.iadd, 1) := by decide +kernel
theorem dX7_addKind_36 : decode cX7_addKind 36 = .ok (.putfield 15, 3) := by decide +kernel
theorem dX7_addKind_39 : decode cX7_addKind 39 = .ok (.return_, 1) := by decide +kernel
theorem dX7_hasPlace_0 : decode cX7_hasPlace 0 = .ok (.iload_n 1, 1) := by decide +kernel
theorem dX7_hasPlace_1 : decode cX7_hasPlace 1 = .ok (.ifCond .lt 24, 3) := by decide +kernel
theorem dX7_hasPlace_4 : decode cX7_hasPlace 4 = .ok (.iload_n 1, 1) := by decide +kernel
theorem dX7_hasPlace_5 : decode cX7_hasPlace 5 = .ok (.aload_n 0, 1) := by decide +kernel
theorem dX7_hasPlace_6 : decode cX7_hasPlace 6 = .ok (.getfield 15, 3) := by decide +kernel
theorem dX7_hasPlace_9 : decode cX7_hasPlace 9 = .ok (.if_icmp .ge 16, 3) := by decide +kernel
theorem dX7_hasPlace_12 : decode cX7_hasPlace 12 = .ok (.iload_n 1, 1) := by decide +kernel
theorem dX7_hasPlace_13 : decode cX7_hasPlace 13 = .ok (.aload_n 0, 1) := by decide +kernel
theorem dX7_hasPlace_14 : decode cX7_hasPlace 14 = .ok (.getfield 9, 3) := by decide +kernel
theorem dX7_hasPlace_17 : decode cX7_hasPlace 17 = .ok (.arraylength, 1) := by decide +kernel
theorem dX7_hasPlace_18 : decode cX7_hasPlace 18 = .ok (.if_icmp .ge 7, 3) := by decide +kernel
theorem dX7_hasPlace_21 : decode cX7_hasPlace 21 = .ok (.iconst 1, 1) := by decide +kernel
theorem dX7_hasPlace_22 : decode cX7_hasPlace 22 = .ok (.goto 4, 3) := by decide +kernel
theorem dX7_hasPlace_25 : decode cX7_hasPlace 25 = .ok (.iconst 0, 1) := by decide +kernel
theorem dX7_hasPlace_26 : decode cX7_hasPlace 26 = .ok (.ireturn, 1) := by decide +kernel
theorem dX7_kindAt_0 : decode cX7_kindAt 0 = .ok (.aload_n 0, 1) := by decide +kernel
theorem dX7_kindAt_1 : decode cX7_kindAt 1 = .ok (.iload_n 1, 1) := by decide +kernel
theorem dX7_kindAt_2 : decode cX7_kindAt 2 = .ok (.invokevirtual 31, 3) := by decide +kernel
theorem dX7_kindAt_5 : decode cX7_kindAt 5 = .ok (.ifCond .eq 12, 3) := by decide +kernel
theorem dX7_kindAt_8 : decode cX7_kindAt 8 = .ok (.aload_n 0, 1) := by decide +kernel
theorem dX7_kindAt_9 : decode cX7_kindAt 9 = .ok (.getfield 9, 3) := by decide +kernel
theorem dX7_kindAt_12 : decode cX7_kindAt 12 = .ok (.iload_n 1, 1) := by decide +kernel
theorem dX7_kindAt_13 : decode cX7_kindAt 13 = .ok (.iaload, 1) := by decide +kernel
theorem dX7_kindAt_14 : decode cX7_kindAt 14 = .ok (.goto 4, 3) := by decide +kernel
theorem dX7_kindAt_17 : decode cX7_kindAt 17 = .ok (.iconst (-1), 1) := by decide +kernel
theorem dX7_kindAt_18 : decode cX7_kindAt 18 = .ok (.ireturn, 1) := by decide +kernel
theorem dX7_takenAhead_0 : decode cX7_takenAhead 0 = .ok (.iconst 0, 1) := by decide +kernel
theorem dX7_takenAhead_1 : decode cX7_takenAhead 1 = .ok (.istore_n 2, 1) := by decide +kernel
theorem dX7_takenAhead_2 : decode cX7_takenAhead 2 = .ok (.iconst 0, 1) := by decide +kernel
theorem dX7_takenAhead_3 : decode cX7_takenAhead 3 = .ok (.istore_n 3, 1) := by decide +kernel
theorem dX7_takenAhead_4 : decode cX7_takenAhead 4 = .ok (.iload_n 3, 1) := by decide +kernel
theorem dX7_takenAhead_5 : decode cX7_takenAhead 5 = .ok (.iload_n 1, 1) := by decide +kernel
theorem dX7_takenAhead_6 : decode cX7_takenAhead 6 = .ok (.if_icmp .ge 28, 3) := by decide +kernel
theorem dX7_takenAhead_9 : decode cX7_takenAhead 9 = .ok (.iload_n 3, 1) := by decide +kernel
theorem dX7_takenAhead_10 : decode cX7_takenAhead 10 = .ok (.aload_n 0, 1) := by decide +kernel
theorem dX7_takenAhead_11 : decode cX7_takenAhead 11 = .ok (.getfield 15, 3) := by decide +kernel
theorem dX7_takenAhead_14 : decode cX7_takenAhead 14 = .ok (.if_icmp .ge 20, 3) := by decide +kernel
theorem dX7_takenAhead_17 : decode cX7_takenAhead 17 = .ok (.iload_n 2, 1) := by decide +kernel
theorem dX7_takenAhead_18 : decode cX7_takenAhead 18 = .ok (.aload_n 0, 1) := by decide +kernel
theorem dX7_takenAhead_19 : decode cX7_takenAhead 19 = .ok (.iload_n 3, 1) := by decide +kernel
theorem dX7_takenAhead_20 : decode cX7_takenAhead 20 = .ok (.invokevirtual 35, 3) := by decide +kernel
theorem dX7_takenAhead_23 : decode cX7_takenAhead 23 = .ok (.invokestatic 39, 3) := by decide +kernel
theorem dX7_takenAhead_26 : decode cX7_takenAhead 26 = .ok (.iadd, 1) := by decide +kernel
theorem dX7_takenAhead_27 : decode cX7_takenAhead 27 = .ok (.istore_n 2, 1) := by decide +kernel
theorem dX7_takenAhead_28 : decode cX7_takenAhead 28 = .ok (.iinc 3 1, 3) := by decide +kernel
theorem dX7_takenAhead_31 : decode cX7_takenAhead 31 = .ok (.goto (-27), 3) := by decide +kernel
theorem dX7_takenAhead_34 : decode cX7_takenAhead 34 = .ok (.iload_n 2, 1) := by decide +kernel
theorem dX7_takenAhead_35 : decode cX7_takenAhead 35 = .ok (.ireturn, 1) := by decide +kernel
theorem dX7_madeAhead_0 : decode cX7_madeAhead 0 = .ok (.iconst 0, 1) := by decide +kernel
theorem dX7_madeAhead_1 : decode cX7_madeAhead 1 = .ok (.istore_n 2, 1) := by decide +kernel
theorem dX7_madeAhead_2 : decode cX7_madeAhead 2 = .ok (.iconst 0, 1) := by decide +kernel
theorem dX7_madeAhead_3 : decode cX7_madeAhead 3 = .ok (.istore_n 3, 1) := by decide +kernel
theorem dX7_madeAhead_4 : decode cX7_madeAhead 4 = .ok (.iload_n 3, 1) := by decide +kernel
theorem dX7_madeAhead_5 : decode cX7_madeAhead 5 = .ok (.iload_n 1, 1) := by decide +kernel
theorem dX7_madeAhead_6 : decode cX7_madeAhead 6 = .ok (.if_icmp .ge 28, 3) := by decide +kernel
theorem dX7_madeAhead_9 : decode cX7_madeAhead 9 = .ok (.iload_n 3, 1) := by decide +kernel
theorem dX7_madeAhead_10 : decode cX7_madeAhead 10 = .ok (.aload_n 0, 1) := by decide +kernel
theorem dX7_madeAhead_11 : decode cX7_madeAhead 11 = .ok (.getfield 15, 3) := by decide +kernel
theorem dX7_madeAhead_14 : decode cX7_madeAhead 14 = .ok (.if_icmp .ge 20, 3) := by decide +kernel
theorem dX7_madeAhead_17 : decode cX7_madeAhead 17 = .ok (.iload_n 2, 1) := by decide +kernel
theorem dX7_madeAhead_18 : decode cX7_madeAhead 18 = .ok (.aload_n 0, 1) := by decide +kernel
theorem dX7_madeAhead_19 : decode cX7_madeAhead 19 = .ok (.iload_n 3, 1) := by decide +kernel
theorem dX7_madeAhead_20 : decode cX7_madeAhead 20 = .ok (.invokevirtual 35, 3) := by decide +kernel
theorem dX7_madeAhead_23 : decode cX7_madeAhead 23 = .ok (.invokestatic 44, 3) := by decide +kernel
theorem dX7_madeAhead_26 : decode cX7_madeAhead 26 = .ok (.iadd, 1) := by decide +kernel
theorem dX7_madeAhead_27 : decode cX7_madeAhead 27 = .ok (.istore_n 2, 1) := by decide +kernel
theorem dX7_madeAhead_28 : decode cX7_madeAhead 28 = .ok (.iinc 3 1, 3) := by decide +kernel
theorem dX7_madeAhead_31 : decode cX7_madeAhead 31 = .ok (.goto (-27), 3) := by decide +kernel
theorem dX7_madeAhead_34 : decode cX7_madeAhead 34 = .ok (.iload_n 2, 1) := by decide +kernel
theorem dX7_madeAhead_35 : decode cX7_madeAhead 35 = .ok (.ireturn, 1) := by decide +kernel
theorem dX7_yarnUsed_0 : decode cX7_yarnUsed 0 = .ok (.iconst 0, 1) := by decide +kernel
theorem dX7_yarnUsed_1 : decode cX7_yarnUsed 1 = .ok (.istore_n 1, 1) := by decide +kernel
theorem dX7_yarnUsed_2 : decode cX7_yarnUsed 2 = .ok (.iconst 0, 1) := by decide +kernel
theorem dX7_yarnUsed_3 : decode cX7_yarnUsed 3 = .ok (.istore_n 2, 1) := by decide +kernel
theorem dX7_yarnUsed_4 : decode cX7_yarnUsed 4 = .ok (.iload_n 2, 1) := by decide +kernel
theorem dX7_yarnUsed_5 : decode cX7_yarnUsed 5 = .ok (.aload_n 0, 1) := by decide +kernel
theorem dX7_yarnUsed_6 : decode cX7_yarnUsed 6 = .ok (.getfield 15, 3) := by decide +kernel
theorem dX7_yarnUsed_9 : decode cX7_yarnUsed 9 = .ok (.if_icmp .ge 20, 3) := by decide +kernel
theorem dX7_yarnUsed_12 : decode cX7_yarnUsed 12 = .ok (.iload_n 1, 1) := by decide +kernel
theorem dX7_yarnUsed_13 : decode cX7_yarnUsed 13 = .ok (.aload_n 0, 1) := by decide +kernel
theorem dX7_yarnUsed_14 : decode cX7_yarnUsed 14 = .ok (.iload_n 2, 1) := by decide +kernel
theorem dX7_yarnUsed_15 : decode cX7_yarnUsed 15 = .ok (.invokevirtual 35, 3) := by decide +kernel
theorem dX7_yarnUsed_18 : decode cX7_yarnUsed 18 = .ok (.invokestatic 47, 3) := by decide +kernel
theorem dX7_yarnUsed_21 : decode cX7_yarnUsed 21 = .ok (.iadd, 1) := by decide +kernel
theorem dX7_yarnUsed_22 : decode cX7_yarnUsed 22 = .ok (.istore_n 1, 1) := by decide +kernel
theorem dX7_yarnUsed_23 : decode cX7_yarnUsed 23 = .ok (.iinc 2 1, 3) := by decide +kernel
theorem dX7_yarnUsed_26 : decode cX7_yarnUsed 26 = .ok (.goto (-22), 3) := by decide +kernel
theorem dX7_yarnUsed_29 : decode cX7_yarnUsed 29 = .ok (.iload_n 1, 1) := by decide +kernel
theorem dX7_yarnUsed_30 : decode cX7_yarnUsed 30 = .ok (.ireturn, 1) := by decide +kernel
theorem dX7_countUnder_0 : decode cX7_countUnder 0 = .ok (.iconst 0, 1) := by decide +kernel
theorem dX7_countUnder_1 : decode cX7_countUnder 1 = .ok (.istore_n 2, 1) := by decide +kernel
theorem dX7_countUnder_2 : decode cX7_countUnder 2 = .ok (.iconst 0, 1) := by decide +kernel
theorem dX7_countUnder_3 : decode cX7_countUnder 3 = .ok (.istore_n 3, 1) := by decide +kernel
theorem dX7_countUnder_4 : decode cX7_countUnder 4 = .ok (.iload_n 3, 1) := by decide +kernel
theorem dX7_countUnder_5 : decode cX7_countUnder 5 = .ok (.aload_n 0, 1) := by decide +kernel
theorem dX7_countUnder_6 : decode cX7_countUnder 6 = .ok (.getfield 15, 3) := by decide +kernel
theorem dX7_countUnder_9 : decode cX7_countUnder 9 = .ok (.if_icmp .ge 29, 3) := by decide +kernel
theorem dX7_countUnder_12 : decode cX7_countUnder 12 = .ok (.iload_n 2, 1) := by decide +kernel
theorem dX7_countUnder_13 : decode cX7_countUnder 13 = .ok (.aload_n 0, 1) := by decide +kernel
theorem dX7_countUnder_14 : decode cX7_countUnder 14 = .ok (.iload_n 3, 1) := by decide +kernel
theorem dX7_countUnder_15 : decode cX7_countUnder 15 = .ok (.invokevirtual 35, 3) := by decide +kernel
theorem dX7_countUnder_18 : decode cX7_countUnder 18 = .ok (.iload_n 1, 1) := by decide +kernel
theorem dX7_countUnder_19 : decode cX7_countUnder 19 = .ok (.invokestatic 50, 3) := by decide +kernel
theorem dX7_countUnder_22 : decode cX7_countUnder 22 = .ok (.ifCond .eq 7, 3) := by decide +kernel
theorem dX7_countUnder_25 : decode cX7_countUnder 25 = .ok (.iconst 1, 1) := by decide +kernel
theorem dX7_countUnder_26 : decode cX7_countUnder 26 = .ok (.goto 4, 3) := by decide +kernel
theorem dX7_countUnder_29 : decode cX7_countUnder 29 = .ok (.iconst 0, 1) := by decide +kernel
theorem dX7_countUnder_30 : decode cX7_countUnder 30 = .ok (.iadd, 1) := by decide +kernel
theorem dX7_countUnder_31 : decode cX7_countUnder 31 = .ok (.istore_n 2, 1) := by decide +kernel
theorem dX7_countUnder_32 : decode cX7_countUnder 32 = .ok (.iinc 3 1, 3) := by decide +kernel
theorem dX7_countUnder_35 : decode cX7_countUnder 35 = .ok (.goto (-31), 3) := by decide +kernel
theorem dX7_countUnder_38 : decode cX7_countUnder 38 = .ok (.iload_n 2, 1) := by decide +kernel
theorem dX7_countUnder_39 : decode cX7_countUnder 39 = .ok (.ireturn, 1) := by decide +kernel
theorem dX7_mirroredAt_0 : decode cX7_mirroredAt 0 = .ok (.aload_n 0, 1) := by decide +kernel
theorem dX7_mirroredAt_1 : decode cX7_mirroredAt 1 = .ok (.aload_n 0, 1) := by decide +kernel
theorem dX7_mirroredAt_2 : decode cX7_mirroredAt 2 = .ok (.getfield 15, 3) := by decide +kernel
theorem dX7_mirroredAt_5 : decode cX7_mirroredAt 5 = .ok (.iconst 1, 1) := by decide +kernel
theorem dX7_mirroredAt_6 : decode cX7_mirroredAt 6 = .ok (.isub, 1) := by decide +kernel
theorem dX7_mirroredAt_7 : decode cX7_mirroredAt 7 = .ok (.iload_n 1, 1) := by decide +kernel
theorem dX7_mirroredAt_8 : decode cX7_mirroredAt 8 = .ok (.isub, 1) := by decide +kernel
theorem dX7_mirroredAt_9 : decode cX7_mirroredAt 9 = .ok (.invokevirtual 35, 3) := by decide +kernel
theorem dX7_mirroredAt_12 : decode cX7_mirroredAt 12 = .ok (.invokestatic 54, 3) := by decide +kernel
theorem dX7_mirroredAt_15 : decode cX7_mirroredAt 15 = .ok (.ireturn, 1) := by decide +kernel
theorem dX7_isEven_0 : decode cX7_isEven 0 = .ok (.iconst 0, 1) := by decide +kernel
theorem dX7_isEven_1 : decode cX7_isEven 1 = .ok (.istore_n 1, 1) := by decide +kernel
theorem dX7_isEven_2 : decode cX7_isEven 2 = .ok (.iload_n 1, 1) := by decide +kernel
theorem dX7_isEven_3 : decode cX7_isEven 3 = .ok (.aload_n 0, 1) := by decide +kernel
theorem dX7_isEven_4 : decode cX7_isEven 4 = .ok (.getfield 15, 3) := by decide +kernel
theorem dX7_isEven_7 : decode cX7_isEven 7 = .ok (.if_icmp .ge 24, 3) := by decide +kernel
theorem dX7_isEven_10 : decode cX7_isEven 10 = .ok (.aload_n 0, 1) := by decide +kernel
theorem dX7_isEven_11 : decode cX7_isEven 11 = .ok (.iload_n 1, 1) := by decide +kernel
theorem dX7_isEven_12 : decode cX7_isEven 12 = .ok (.invokevirtual 35, 3) := by decide +kernel
theorem dX7_isEven_15 : decode cX7_isEven 15 = .ok (.aload_n 0, 1) := by decide +kernel
theorem dX7_isEven_16 : decode cX7_isEven 16 = .ok (.iload_n 1, 1) := by decide +kernel
theorem dX7_isEven_17 : decode cX7_isEven 17 = .ok (.invokevirtual 57, 3) := by decide +kernel
theorem dX7_isEven_20 : decode cX7_isEven 20 = .ok (.if_icmp .eq 5, 3) := by decide +kernel
theorem dX7_isEven_23 : decode cX7_isEven 23 = .ok (.iconst 0, 1) := by decide +kernel
theorem dX7_isEven_24 : decode cX7_isEven 24 = .ok (.ireturn, 1) := by decide +kernel
theorem dX7_isEven_25 : decode cX7_isEven 25 = .ok (.iinc 1 1, 3) := by decide +kernel
theorem dX7_isEven_28 : decode cX7_isEven 28 = .ok (.goto (-26), 3) := by decide +kernel
theorem dX7_isEven_31 : decode cX7_isEven 31 = .ok (.iconst 1, 1) := by decide +kernel
theorem dX7_isEven_32 : decode cX7_isEven 32 = .ok (.ireturn, 1) := by decide +kernel
theorem dX7_smallestPart_0 : decode cX7_smallestPart 0 = .ok (.iconst 1, 1) := by decide +kernel
theorem dX7_smallestPart_1 : decode cX7_smallestPart 1 = .ok (.istore_n 1, 1) := by decide +kernel
theorem dX7_smallestPart_2 : decode cX7_smallestPart 2 = .ok (.iload_n 1, 1) := by decide +kernel
theorem dX7_smallestPart_3 : decode cX7_smallestPart 3 = .ok (.aload_n 0, 1) := by decide +kernel
theorem dX7_smallestPart_4 : decode cX7_smallestPart 4 = .ok (.getfield 15, 3) := by decide +kernel
theorem dX7_smallestPart_7 : decode cX7_smallestPart 7 = .ok (.if_icmp .ge 28, 3) := by decide +kernel
theorem dX7_smallestPart_10 : decode cX7_smallestPart 10 = .ok (.aload_n 0, 1) := by decide +kernel
theorem dX7_smallestPart_11 : decode cX7_smallestPart 11 = .ok (.getfield 15, 3) := by decide +kernel
theorem dX7_smallestPart_14 : decode cX7_smallestPart 14 = .ok (.iload_n 1, 1) := by decide +kernel
theorem dX7_smallestPart_15 : decode cX7_smallestPart 15 = .ok (.irem, 1) := by decide +kernel
theorem dX7_smallestPart_16 : decode cX7_smallestPart 16 = .ok (.ifCond .ne 13, 3) := by decide +kernel
theorem dX7_smallestPart_19 : decode cX7_smallestPart 19 = .ok (.aload_n 0, 1) := by decide +kernel
theorem dX7_smallestPart_20 : decode cX7_smallestPart 20 = .ok (.iload_n 1, 1) := by decide +kernel
theorem dX7_smallestPart_21 : decode cX7_smallestPart 21 = .ok (.invokevirtual 60, 3) := by decide +kernel
theorem dX7_smallestPart_24 : decode cX7_smallestPart 24 = .ok (.ifCond .eq 5, 3) := by decide +kernel
theorem dX7_smallestPart_27 : decode cX7_smallestPart 27 = .ok (.iload_n 1, 1) := by decide +kernel
theorem dX7_smallestPart_28 : decode cX7_smallestPart 28 = .ok (.ireturn, 1) := by decide +kernel
theorem dX7_smallestPart_29 : decode cX7_smallestPart 29 = .ok (.iinc 1 1, 3) := by decide +kernel
theorem dX7_smallestPart_32 : decode cX7_smallestPart 32 = .ok (.goto (-30), 3) := by decide +kernel
theorem dX7_smallestPart_35 : decode cX7_smallestPart 35 = .ok (.aload_n 0, 1) := by decide +kernel
theorem dX7_smallestPart_36 : decode cX7_smallestPart 36 = .ok (.getfield 15, 3) := by decide +kernel
theorem dX7_smallestPart_39 : decode cX7_smallestPart 39 = .ok (.ireturn, 1) := by decide +kernel
theorem dX7_comesAgain_0 : decode cX7_comesAgain 0 = .ok (.iload_n 1, 1) := by decide +kernel
theorem dX7_comesAgain_1 : decode cX7_comesAgain 1 = .ok (.istore_n 2, 1) := by decide +kernel
theorem dX7_comesAgain_2 : decode cX7_comesAgain 2 = .ok (.iload_n 2, 1) := by decide +kernel
theorem dX7_comesAgain_3 : decode cX7_comesAgain 3 = .ok (.aload_n 0, 1) := by decide +kernel
theorem dX7_comesAgain_4 : decode cX7_comesAgain 4 = .ok (.getfield 15, 3) := by decide +kernel
theorem dX7_comesAgain_7 : decode cX7_comesAgain 7 = .ok (.if_icmp .ge 26, 3) := by decide +kernel
theorem dX7_comesAgain_10 : decode cX7_comesAgain 10 = .ok (.aload_n 0, 1) := by decide +kernel
theorem dX7_comesAgain_11 : decode cX7_comesAgain 11 = .ok (.iload_n 2, 1) := by decide +kernel
theorem dX7_comesAgain_12 : decode cX7_comesAgain 12 = .ok (.invokevirtual 35, 3) := by decide +kernel
theorem dX7_comesAgain_15 : decode cX7_comesAgain 15 = .ok (.aload_n 0, 1) := by decide +kernel
theorem dX7_comesAgain_16 : decode cX7_comesAgain 16 = .ok (.iload_n 2, 1) := by decide +kernel
theorem dX7_comesAgain_17 : decode cX7_comesAgain 17 = .ok (.iload_n 1, 1) := by decide +kernel
theorem dX7_comesAgain_18 : decode cX7_comesAgain 18 = .ok (.isub, 1) := by decide +kernel
theorem dX7_comesAgain_19 : decode cX7_comesAgain 19 = .ok (.invokevirtual 35, 3) := by decide +kernel
theorem dX7_comesAgain_22 : decode cX7_comesAgain 22 = .ok (.if_icmp .eq 5, 3) := by decide +kernel
theorem dX7_comesAgain_25 : decode cX7_comesAgain 25 = .ok (.iconst 0, 1) := by decide +kernel
theorem dX7_comesAgain_26 : decode cX7_comesAgain 26 = .ok (.ireturn, 1) := by decide +kernel
theorem dX7_comesAgain_27 : decode cX7_comesAgain 27 = .ok (.iinc 2 1, 3) := by decide +kernel
theorem dX7_comesAgain_30 : decode cX7_comesAgain 30 = .ok (.goto (-28), 3) := by decide +kernel
theorem dX7_comesAgain_33 : decode cX7_comesAgain 33 = .ok (.iconst 1, 1) := by decide +kernel
theorem dX7_comesAgain_34 : decode cX7_comesAgain 34 = .ok (.ireturn, 1) := by decide +kernel
theorem dX7_shorthandAt_0 : decode cX7_shorthandAt 0 = .ok (.iload_n 1, 1) := by decide +kernel
theorem dX7_shorthandAt_1 : decode cX7_shorthandAt 1 = .ok (.ifCond .ge 5, 3) := by decide +kernel
theorem dX7_shorthandAt_4 : decode cX7_shorthandAt 4 = .ok (.iconst (-1), 1) := by decide +kernel
theorem dX7_shorthandAt_5 : decode cX7_shorthandAt 5 = .ok (.ireturn, 1) := by decide +kernel
theorem dX7_shorthandAt_6 : decode cX7_shorthandAt 6 = .ok (.iload_n 1, 1) := by decide +kernel
theorem dX7_shorthandAt_7 : decode cX7_shorthandAt 7 = .ok (.istore_n 2, 1) := by decide +kernel
theorem dX7_shorthandAt_8 : decode cX7_shorthandAt 8 = .ok (.iconst 0, 1) := by decide +kernel
theorem dX7_shorthandAt_9 : decode cX7_shorthandAt 9 = .ok (.istore_n 3, 1) := by decide +kernel
theorem dX7_shorthandAt_10 : decode cX7_shorthandAt 10 = .ok (.iload_n 3, 1) := by decide +kernel
theorem dX7_shorthandAt_11 : decode cX7_shorthandAt 11 = .ok (.aload_n 0, 1) := by decide +kernel
theorem dX7_shorthandAt_12 : decode cX7_shorthandAt 12 = .ok (.getfield 15, 3) := by decide +kernel
theorem dX7_shorthandAt_15 : decode cX7_shorthandAt 15 = .ok (.if_icmp .ge 126, 3) := by decide +kernel
theorem dX7_shorthandAt_18 : decode cX7_shorthandAt 18 = .ok (.iload_n 3, 1) := by decide +kernel
theorem dX7_shorthandAt_19 : decode cX7_shorthandAt 19 = .ok (.ifCond .le 21, 3) := by decide +kernel
theorem dX7_shorthandAt_22 : decode cX7_shorthandAt 22 = .ok (.aload_n 0, 1) := by decide +kernel
theorem dX7_shorthandAt_23 : decode cX7_shorthandAt 23 = .ok (.iload_n 3, 1) := by decide +kernel
theorem dX7_shorthandAt_24 : decode cX7_shorthandAt 24 = .ok (.invokevirtual 35, 3) := by decide +kernel
theorem dX7_shorthandAt_27 : decode cX7_shorthandAt 27 = .ok (.aload_n 0, 1) := by decide +kernel
theorem dX7_shorthandAt_28 : decode cX7_shorthandAt 28 = .ok (.iload_n 3, 1) := by decide +kernel
theorem dX7_shorthandAt_29 : decode cX7_shorthandAt 29 = .ok (.iconst 1, 1) := by decide +kernel
theorem dX7_shorthandAt_30 : decode cX7_shorthandAt 30 = .ok (.isub, 1) := by decide +kernel
theorem dX7_shorthandAt_31 : decode cX7_shorthandAt 31 = .ok (.invokevirtual 35, 3) := by decide +kernel
theorem dX7_shorthandAt_34 : decode cX7_shorthandAt 34 = .ok (.if_icmp .ne 6, 3) := by decide +kernel
theorem dX7_shorthandAt_37 : decode cX7_shorthandAt 37 = .ok (.goto 98, 3) := by decide +kernel
theorem dX7_shorthandAt_40 : decode cX7_shorthandAt 40 = .ok (.iload_n 3, 1) := by decide +kernel
theorem dX7_shorthandAt_41 : decode cX7_shorthandAt 41 = .ok (.ifCond .le 13, 3) := by decide +kernel
theorem dX7_shorthandAt_44 : decode cX7_shorthandAt 44 = .ok (.iload_n 2, 1) := by decide +kernel
theorem dX7_shorthandAt_45 : decode cX7_shorthandAt 45 = .ok (.ifCond .ne 6, 3) := by decide +kernel
theorem dX7_shorthandAt_48 : decode cX7_shorthandAt 48 = .ok (.bipush 44, 2) := by decide +kernel
theorem dX7_shorthandAt_50 : decode cX7_shorthandAt 50 = .ok (.ireturn, 1) := by decide +kernel
theorem dX7_shorthandAt_51 : decode cX7_shorthandAt 51 = .ok (.iinc 2 (-1), 3) := by decide +kernel
theorem dX7_shorthandAt_54 : decode cX7_shorthandAt 54 = .ok (.aload_n 0, 1) := by decide +kernel
theorem dX7_shorthandAt_55 : decode cX7_shorthandAt 55 = .ok (.iload_n 3, 1) := by decide +kernel
theorem dX7_shorthandAt_56 : decode cX7_shorthandAt 56 = .ok (.invokevirtual 35, 3) := by decide +kernel
theorem dX7_shorthandAt_59 : decode cX7_shorthandAt 59 = .ok (.invokestatic 63, 3) := by decide +kernel
theorem dX7_shorthandAt_62 : decode cX7_shorthandAt 62 = .ok (.astore 4, 2) := by decide +kernel
theorem dX7_shorthandAt_64 : decode cX7_shorthandAt 64 = .ok (.iload_n 2, 1) := by decide +kernel
theorem dX7_shorthandAt_65 : decode cX7_shorthandAt 65 = .ok (.aload 4, 2) := by decide +kernel
theorem dX7_shorthandAt_67 : decode cX7_shorthandAt 67 = .ok (.invokevirtual 67, 3) := by decide +kernel
theorem dX7_shorthandAt_70 : decode cX7_shorthandAt 70 = .ok (.if_icmp .ge 10, 3) := by decide +kernel
theorem dX7_shorthandAt_73 : decode cX7_shorthandAt 73 = .ok (.aload 4, 2) := by decide +kernel
theorem dX7_shorthandAt_75 : decode cX7_shorthandAt 75 = .ok (.iload_n 2, 1) := by decide +kernel
theorem dX7_shorthandAt_76 : decode cX7_shorthandAt 76 = .ok (.invokevirtual 73, 3) := by decide +kernel
theorem dX7_shorthandAt_79 : decode cX7_shorthandAt 79 = .ok (.ireturn, 1) := by decide +kernel
theorem dX7_shorthandAt_80 : decode cX7_shorthandAt 80 = .ok (.iload_n 2, 1) := by decide +kernel
theorem dX7_shorthandAt_81 : decode cX7_shorthandAt 81 = .ok (.aload 4, 2) := by decide +kernel
theorem dX7_shorthandAt_83 : decode cX7_shorthandAt 83 = .ok (.invokevirtual 67, 3) := by decide +kernel
theorem dX7_shorthandAt_86 : decode cX7_shorthandAt 86 = .ok (.isub, 1) := by decide +kernel
theorem dX7_shorthandAt_87 : decode cX7_shorthandAt 87 = .ok (.istore_n 2, 1) := by decide +kernel
theorem dX7_shorthandAt_88 : decode cX7_shorthandAt 88 = .ok (.aload_n 0, 1) := by decide +kernel
theorem dX7_shorthandAt_89 : decode cX7_shorthandAt 89 = .ok (.iload_n 3, 1) := by decide +kernel
theorem dX7_shorthandAt_90 : decode cX7_shorthandAt 90 = .ok (.invokevirtual 77, 3) := by decide +kernel
theorem dX7_shorthandAt_93 : decode cX7_shorthandAt 93 = .ok (.istore 5, 2) := by decide +kernel
theorem dX7_shorthandAt_95 : decode cX7_shorthandAt 95 = .ok (.iload 5, 2) := by decide +kernel
theorem dX7_shorthandAt_97 : decode cX7_shorthandAt 97 = .ok (.iconst 1, 1) := by decide +kernel
theorem dX7_shorthandAt_98 : decode cX7_shorthandAt 98 = .ok (.if_icmp .ne 7, 3) := by decide +kernel
theorem dX7_shorthandAt_101 : decode cX7_shorthandAt 101 = .ok (.iconst 0, 1) := by decide +kernel
theorem dX7_shorthandAt_102 : decode cX7_shorthandAt 102 = .ok (.goto 8, 3) := by decide +kernel
theorem dX7_shorthandAt_105 : decode cX7_shorthandAt 105 = .ok (.iload 5, 2) := by decide +kernel
theorem dX7_shorthandAt_107 : decode cX7_shorthandAt 107 = .ok (.invokestatic 80, 3) := by decide +kernel
theorem dX7_shorthandAt_110 : decode cX7_shorthandAt 110 = .ok (.istore 6, 2) := by decide +kernel
theorem dX7_shorthandAt_112 : decode cX7_shorthandAt 112 = .ok (.iload_n 2, 1) := by decide +kernel
theorem dX7_shorthandAt_113 : decode cX7_shorthandAt 113 = .ok (.iload 6, 2) := by decide +kernel
theorem dX7_shorthandAt_115 : decode cX7_shorthandAt 115 = .ok (.if_icmp .ge 15, 3) := by decide +kernel
theorem dX7_shorthandAt_118 : decode cX7_shorthandAt 118 = .ok (.iload 5, 2) := by decide +kernel
theorem dX7_shorthandAt_120 : decode cX7_shorthandAt 120 = .ok (.iload 6, 2) := by decide +kernel
theorem dX7_shorthandAt_122 : decode cX7_shorthandAt 122 = .ok (.iconst 1, 1) := by decide +kernel
theorem dX7_shorthandAt_123 : decode cX7_shorthandAt 123 = .ok (.isub, 1) := by decide +kernel
theorem dX7_shorthandAt_124 : decode cX7_shorthandAt 124 = .ok (.iload_n 2, 1) := by decide +kernel
theorem dX7_shorthandAt_125 : decode cX7_shorthandAt 125 = .ok (.isub, 1) := by decide +kernel
theorem dX7_shorthandAt_126 : decode cX7_shorthandAt 126 = .ok (.invokestatic 83, 3) := by decide +kernel
theorem dX7_shorthandAt_129 : decode cX7_shorthandAt 129 = .ok (.ireturn, 1) := by decide +kernel
theorem dX7_shorthandAt_130 : decode cX7_shorthandAt 130 = .ok (.iload_n 2, 1) := by decide +kernel
theorem dX7_shorthandAt_131 : decode cX7_shorthandAt 131 = .ok (.iload 6, 2) := by decide +kernel
theorem dX7_shorthandAt_133 : decode cX7_shorthandAt 133 = .ok (.isub, 1) := by decide +kernel
theorem dX7_shorthandAt_134 : decode cX7_shorthandAt 134 = .ok (.istore_n 2, 1) := by decide +kernel
theorem dX7_shorthandAt_135 : decode cX7_shorthandAt 135 = .ok (.iinc 3 1, 3) := by decide +kernel
theorem dX7_shorthandAt_138 : decode cX7_shorthandAt 138 = .ok (.goto (-128), 3) := by decide +kernel
theorem dX7_shorthandAt_141 : decode cX7_shorthandAt 141 = .ok (.iconst (-1), 1) := by decide +kernel
theorem dX7_shorthandAt_142 : decode cX7_shorthandAt 142 = .ok (.ireturn, 1) := by decide +kernel
theorem dX7_runLength_0 : decode cX7_runLength 0 = .ok (.iload_n 1, 1) := by decide +kernel
theorem dX7_runLength_1 : decode cX7_runLength 1 = .ok (.iconst 1, 1) := by decide +kernel
theorem dX7_runLength_2 : decode cX7_runLength 2 = .ok (.iadd, 1) := by decide +kernel
theorem dX7_runLength_3 : decode cX7_runLength 3 = .ok (.istore_n 2, 1) := by decide +kernel
theorem dX7_runLength_4 : decode cX7_runLength 4 = .ok (.iload_n 2, 1) := by decide +kernel
theorem dX7_runLength_5 : decode cX7_runLength 5 = .ok (.aload_n 0, 1) := by decide +kernel
theorem dX7_runLength_6 : decode cX7_runLength 6 = .ok (.getfield 15, 3) := by decide +kernel
theorem dX7_runLength_9 : decode cX7_runLength 9 = .ok (.if_icmp .ge 22, 3) := by decide +kernel
theorem dX7_runLength_12 : decode cX7_runLength 12 = .ok (.aload_n 0, 1) := by decide +kernel
theorem dX7_runLength_13 : decode cX7_runLength 13 = .ok (.iload_n 2, 1) := by decide +kernel
theorem dX7_runLength_14 : decode cX7_runLength 14 = .ok (.invokevirtual 35, 3) := by decide +kernel
theorem dX7_runLength_17 : decode cX7_runLength 17 = .ok (.aload_n 0, 1) := by decide +kernel
theorem dX7_runLength_18 : decode cX7_runLength 18 = .ok (.iload_n 1, 1) := by decide +kernel
theorem dX7_runLength_19 : decode cX7_runLength 19 = .ok (.invokevirtual 35, 3) := by decide +kernel
theorem dX7_runLength_22 : decode cX7_runLength 22 = .ok (.if_icmp .ne 9, 3) := by decide +kernel
theorem dX7_runLength_25 : decode cX7_runLength 25 = .ok (.iinc 2 1, 3) := by decide +kernel
theorem dX7_runLength_28 : decode cX7_runLength 28 = .ok (.goto (-24), 3) := by decide +kernel
theorem dX7_runLength_31 : decode cX7_runLength 31 = .ok (.iload_n 2, 1) := by decide +kernel
theorem dX7_runLength_32 : decode cX7_runLength 32 = .ok (.iload_n 1, 1) := by decide +kernel
theorem dX7_runLength_33 : decode cX7_runLength 33 = .ok (.isub, 1) := by decide +kernel
theorem dX7_runLength_34 : decode cX7_runLength 34 = .ok (.ireturn, 1) := by decide +kernel
theorem dX7_digitsOf_0 : decode cX7_digitsOf 0 = .ok (.iload_n 0, 1) := by decide +kernel
theorem dX7_digitsOf_1 : decode cX7_digitsOf 1 = .ok (.bipush 10, 2) := by decide +kernel
theorem dX7_digitsOf_3 : decode cX7_digitsOf 3 = .ok (.if_icmp .ge 7, 3) := by decide +kernel
theorem dX7_digitsOf_6 : decode cX7_digitsOf 6 = .ok (.iconst 1, 1) := by decide +kernel
theorem dX7_digitsOf_7 : decode cX7_digitsOf 7 = .ok (.goto 14, 3) := by decide +kernel
theorem dX7_digitsOf_10 : decode cX7_digitsOf 10 = .ok (.iload_n 0, 1) := by decide +kernel
theorem dX7_digitsOf_11 : decode cX7_digitsOf 11 = .ok (.bipush 100, 2) := by decide +kernel
theorem dX7_digitsOf_13 : decode cX7_digitsOf 13 = .ok (.if_icmp .ge 7, 3) := by decide +kernel
theorem dX7_digitsOf_16 : decode cX7_digitsOf 16 = .ok (.iconst 2, 1) := by decide +kernel
theorem dX7_digitsOf_17 : decode cX7_digitsOf 17 = .ok (.goto 4, 3) := by decide +kernel
theorem dX7_digitsOf_20 : decode cX7_digitsOf 20 = .ok (.iconst 3, 1) := by decide +kernel
theorem dX7_digitsOf_21 : decode cX7_digitsOf 21 = .ok (.ireturn, 1) := by decide +kernel
theorem dX7_digitAt_0 : decode cX7_digitAt 0 = .ok (.iload_n 0, 1) := by decide +kernel
theorem dX7_digitAt_1 : decode cX7_digitAt 1 = .ok (.istore_n 2, 1) := by decide +kernel
theorem dX7_digitAt_2 : decode cX7_digitAt 2 = .ok (.iconst 0, 1) := by decide +kernel
theorem dX7_digitAt_3 : decode cX7_digitAt 3 = .ok (.istore_n 3, 1) := by decide +kernel
theorem dX7_digitAt_4 : decode cX7_digitAt 4 = .ok (.iload_n 3, 1) := by decide +kernel
theorem dX7_digitAt_5 : decode cX7_digitAt 5 = .ok (.iload_n 1, 1) := by decide +kernel
theorem dX7_digitAt_6 : decode cX7_digitAt 6 = .ok (.if_icmp .ge 14, 3) := by decide +kernel
theorem dX7_digitAt_9 : decode cX7_digitAt 9 = .ok (.iload_n 2, 1) := by decide +kernel
theorem dX7_digitAt_10 : decode cX7_digitAt 10 = .ok (.bipush 10, 2) := by decide +kernel
theorem dX7_digitAt_12 : decode cX7_digitAt 12 = .ok (.idiv, 1) := by decide +kernel
theorem dX7_digitAt_13 : decode cX7_digitAt 13 = .ok (.istore_n 2, 1) := by decide +kernel
theorem dX7_digitAt_14 : decode cX7_digitAt 14 = .ok (.iinc 3 1, 3) := by decide +kernel
theorem dX7_digitAt_17 : decode cX7_digitAt 17 = .ok (.goto (-13), 3) := by decide +kernel
theorem dX7_digitAt_20 : decode cX7_digitAt 20 = .ok (.bipush 48, 2) := by decide +kernel
theorem dX7_digitAt_22 : decode cX7_digitAt 22 = .ok (.iload_n 2, 1) := by decide +kernel
theorem dX7_digitAt_23 : decode cX7_digitAt 23 = .ok (.bipush 10, 2) := by decide +kernel
theorem dX7_digitAt_25 : decode cX7_digitAt 25 = .ok (.irem, 1) := by decide +kernel
theorem dX7_digitAt_26 : decode cX7_digitAt 26 = .ok (.iadd, 1) := by decide +kernel
theorem dX7_digitAt_27 : decode cX7_digitAt 27 = .ok (.ireturn, 1) := by decide +kernel
theorem dX7_rootsOf_0 : decode cX7_rootsOf 0 = .ok (.lconst 0, 1) := by decide +kernel
theorem dX7_rootsOf_1 : decode cX7_rootsOf 1 = .ok (.lstore_n 3, 1) := by decide +kernel
theorem dX7_rootsOf_2 : decode cX7_rootsOf 2 = .ok (.iconst 0, 1) := by decide +kernel
theorem dX7_rootsOf_3 : decode cX7_rootsOf 3 = .ok (.istore 5, 2) := by decide +kernel
theorem dX7_rootsOf_5 : decode cX7_rootsOf 5 = .ok (.iconst 0, 1) := by decide +kernel
theorem dX7_rootsOf_6 : decode cX7_rootsOf 6 = .ok (.istore 6, 2) := by decide +kernel
theorem dX7_rootsOf_8 : decode cX7_rootsOf 8 = .ok (.iconst 0, 1) := by decide +kernel
theorem dX7_rootsOf_9 : decode cX7_rootsOf 9 = .ok (.istore 7, 2) := by decide +kernel
theorem dX7_rootsOf_11 : decode cX7_rootsOf 11 = .ok (.iload 7, 2) := by decide +kernel
theorem dX7_rootsOf_13 : decode cX7_rootsOf 13 = .ok (.aload_n 0, 1) := by decide +kernel
theorem dX7_rootsOf_14 : decode cX7_rootsOf 14 = .ok (.getfield 15, 3) := by decide +kernel
theorem dX7_rootsOf_17 : decode cX7_rootsOf 17 = .ok (.if_icmp .ge 77, 3) := by decide +kernel
theorem dX7_rootsOf_20 : decode cX7_rootsOf 20 = .ok (.aload_n 0, 1) := by decide +kernel
theorem dX7_rootsOf_21 : decode cX7_rootsOf 21 = .ok (.iload 7, 2) := by decide +kernel
theorem dX7_rootsOf_23 : decode cX7_rootsOf 23 = .ok (.invokevirtual 35, 3) := by decide +kernel
theorem dX7_rootsOf_26 : decode cX7_rootsOf 26 = .ok (.invokestatic 39, 3) := by decide +kernel
theorem dX7_rootsOf_29 : decode cX7_rootsOf 29 = .ok (.istore 8, 2) := by decide +kernel
theorem dX7_rootsOf_31 : decode cX7_rootsOf 31 = .ok (.aload_n 0, 1) := by decide +kernel
theorem dX7_rootsOf_32 : decode cX7_rootsOf 32 = .ok (.iload 7, 2) := by decide +kernel
theorem dX7_rootsOf_34 : decode cX7_rootsOf 34 = .ok (.invokevirtual 35, 3) := by decide +kernel
theorem dX7_rootsOf_37 : decode cX7_rootsOf 37 = .ok (.invokestatic 44, 3) := by decide +kernel
theorem dX7_rootsOf_40 : decode cX7_rootsOf 40 = .ok (.istore 9, 2) := by decide +kernel
theorem dX7_rootsOf_42 : decode cX7_rootsOf 42 = .ok (.lconst 1, 1) := by decide +kernel
theorem dX7_rootsOf_43 : decode cX7_rootsOf 43 = .ok (.iload 9, 2) := by decide +kernel
theorem dX7_rootsOf_45 : decode cX7_rootsOf 45 = .ok (.lshl, 1) := by decide +kernel
theorem dX7_rootsOf_46 : decode cX7_rootsOf 46 = .ok (.lconst 1, 1) := by decide +kernel
theorem dX7_rootsOf_47 : decode cX7_rootsOf 47 = .ok (.lsub, 1) := by decide +kernel
theorem dX7_rootsOf_48 : decode cX7_rootsOf 48 = .ok (.iload 6, 2) := by decide +kernel
theorem dX7_rootsOf_50 : decode cX7_rootsOf 50 = .ok (.lshl, 1) := by decide +kernel
theorem dX7_rootsOf_51 : decode cX7_rootsOf 51 = .ok (.lstore 10, 2) := by decide +kernel
theorem dX7_rootsOf_53 : decode cX7_rootsOf 53 = .ok (.lload 10, 2) := by decide +kernel
theorem dX7_rootsOf_55 : decode cX7_rootsOf 55 = .ok (.lload_n 1, 1) := by decide +kernel
theorem dX7_rootsOf_56 : decode cX7_rootsOf 56 = .ok (.land, 1) := by decide +kernel
theorem dX7_rootsOf_57 : decode cX7_rootsOf 57 = .ok (.lconst 0, 1) := by decide +kernel
theorem dX7_rootsOf_58 : decode cX7_rootsOf 58 = .ok (.lcmp, 1) := by decide +kernel
theorem dX7_rootsOf_59 : decode cX7_rootsOf 59 = .ok (.ifCond .eq 15, 3) := by decide +kernel
theorem dX7_rootsOf_62 : decode cX7_rootsOf 62 = .ok (.lload_n 3, 1) := by decide +kernel
theorem dX7_rootsOf_63 : decode cX7_rootsOf 63 = .ok (.lconst 1, 1) := by decide +kernel
theorem dX7_rootsOf_64 : decode cX7_rootsOf 64 = .ok (.iload 8, 2) := by decide +kernel
theorem dX7_rootsOf_66 : decode cX7_rootsOf 66 = .ok (.lshl, 1) := by decide +kernel
theorem dX7_rootsOf_67 : decode cX7_rootsOf 67 = .ok (.lconst 1, 1) := by decide +kernel
theorem dX7_rootsOf_68 : decode cX7_rootsOf 68 = .ok (.lsub, 1) := by decide +kernel
theorem dX7_rootsOf_69 : decode cX7_rootsOf 69 = .ok (.iload 5, 2) := by decide +kernel
theorem dX7_rootsOf_71 : decode cX7_rootsOf 71 = .ok (.lshl, 1) := by decide +kernel
theorem dX7_rootsOf_72 : decode cX7_rootsOf 72 = .ok (.lor, 1) := by decide +kernel
theorem dX7_rootsOf_73 : decode cX7_rootsOf 73 = .ok (.lstore_n 3, 1) := by decide +kernel
theorem dX7_rootsOf_74 : decode cX7_rootsOf 74 = .ok (.iload 5, 2) := by decide +kernel
theorem dX7_rootsOf_76 : decode cX7_rootsOf 76 = .ok (.iload 8, 2) := by decide +kernel
theorem dX7_rootsOf_78 : decode cX7_rootsOf 78 = .ok (.iadd, 1) := by decide +kernel
theorem dX7_rootsOf_79 : decode cX7_rootsOf 79 = .ok (.istore 5, 2) := by decide +kernel
theorem dX7_rootsOf_81 : decode cX7_rootsOf 81 = .ok (.iload 6, 2) := by decide +kernel
theorem dX7_rootsOf_83 : decode cX7_rootsOf 83 = .ok (.iload 9, 2) := by decide +kernel
theorem dX7_rootsOf_85 : decode cX7_rootsOf 85 = .ok (.iadd, 1) := by decide +kernel
theorem dX7_rootsOf_86 : decode cX7_rootsOf 86 = .ok (.istore 6, 2) := by decide +kernel
theorem dX7_rootsOf_88 : decode cX7_rootsOf 88 = .ok (.iinc 7 1, 3) := by decide +kernel
theorem dX7_rootsOf_91 : decode cX7_rootsOf 91 = .ok (.goto (-80), 3) := by decide +kernel
theorem dX7_rootsOf_94 : decode cX7_rootsOf 94 = .ok (.lload_n 3, 1) := by decide +kernel
theorem dX7_rootsOf_95 : decode cX7_rootsOf 95 = .ok (.lreturn, 1) := by decide +kernel
theorem dJ9_max_7cf53_0 : decode cJ9_max_7cf53 0 = .ok (.iload_n 0, 1) := by decide +kernel
theorem dJ9_max_7cf53_1 : decode cJ9_max_7cf53 1 = .ok (.iload_n 1, 1) := by decide +kernel
theorem dJ9_max_7cf53_2 : decode cJ9_max_7cf53 2 = .ok (.if_icmp .lt 7, 3) := by decide +kernel
theorem dJ9_max_7cf53_5 : decode cJ9_max_7cf53 5 = .ok (.iload_n 0, 1) := by decide +kernel
theorem dJ9_max_7cf53_6 : decode cJ9_max_7cf53 6 = .ok (.goto 4, 3) := by decide +kernel
theorem dJ9_max_7cf53_9 : decode cJ9_max_7cf53 9 = .ok (.iload_n 1, 1) := by decide +kernel
theorem dJ9_max_7cf53_10 : decode cJ9_max_7cf53 10 = .ok (.ireturn, 1) := by decide +kernel
theorem dJ9_min_7cf53_0 : decode cJ9_min_7cf53 0 = .ok (.iload_n 0, 1) := by decide +kernel
theorem dJ9_min_7cf53_1 : decode cJ9_min_7cf53 1 = .ok (.iload_n 1, 1) := by decide +kernel
theorem dJ9_min_7cf53_2 : decode cJ9_min_7cf53 2 = .ok (.if_icmp .gt 7, 3) := by decide +kernel
theorem dJ9_min_7cf53_5 : decode cJ9_min_7cf53 5 = .ok (.iload_n 0, 1) := by decide +kernel
theorem dJ9_min_7cf53_6 : decode cJ9_min_7cf53 6 = .ok (.goto 4, 3) := by decide +kernel
theorem dJ9_min_7cf53_9 : decode cJ9_min_7cf53 9 = .ok (.iload_n 1, 1) := by decide +kernel
theorem dJ9_min_7cf53_10 : decode cJ9_min_7cf53 10 = .ok (.ireturn, 1) := by decide +kernel
theorem dJ0_length_8abf5_0 : decode cJ0_length_8abf5 0 = .ok (.aload_n 0, 1) := by decide +kernel
theorem dJ0_length_8abf5_1 : decode cJ0_length_8abf5 1 = .ok (.getfield 9, 3) := by decide +kernel
theorem dJ0_length_8abf5_4 : decode cJ0_length_8abf5 4 = .ok (.arraylength, 1) := by decide +kernel
theorem dJ0_length_8abf5_5 : decode cJ0_length_8abf5 5 = .ok (.aload_n 0, 1) := by decide +kernel
theorem dJ0_length_8abf5_6 : decode cJ0_length_8abf5 6 = .ok (.invokevirtual 335, 3) := by decide +kernel
theorem dJ0_length_8abf5_9 : decode cJ0_length_8abf5 9 = .ok (.ishr, 1) := by decide +kernel
theorem dJ0_length_8abf5_10 : decode cJ0_length_8abf5 10 = .ok (.ireturn, 1) := by decide +kernel
theorem dJ0_charAt_5068e_0 : decode cJ0_charAt_5068e 0 = .ok (.aload_n 0, 1) := by decide +kernel
theorem dJ0_charAt_5068e_1 : decode cJ0_charAt_5068e 1 = .ok (.invokevirtual 492, 3) := by decide +kernel
theorem dJ0_charAt_5068e_4 : decode cJ0_charAt_5068e 4 = .ok (.ifCond .eq 12, 3) := by decide +kernel
theorem dJ0_charAt_5068e_7 : decode cJ0_charAt_5068e 7 = .ok (.aload_n 0, 1) := by decide +kernel
theorem dJ0_charAt_5068e_8 : decode cJ0_charAt_5068e 8 = .ok (.getfield 9, 3) := by decide +kernel
theorem dJ0_charAt_5068e_11 : decode cJ0_charAt_5068e 11 = .ok (.iload_n 1, 1) := by decide +kernel
theorem dJ0_charAt_5068e_12 : decode cJ0_charAt_5068e 12 = .ok (.invokestatic 495, 3) := by decide +kernel
theorem dJ0_charAt_5068e_15 : decode cJ0_charAt_5068e 15 = .ok (.ireturn, 1) := by decide +kernel
theorem dJ0_charAt_5068e_16 : decode cJ0_charAt_5068e 16 = .ok (.aload_n 0, 1) := by decide +kernel
theorem dJ0_charAt_5068e_17 : decode cJ0_charAt_5068e 17 = .ok (.getfield 9, 3) := by decide +kernel
theorem dJ0_charAt_5068e_20 : decode cJ0_charAt_5068e 20 = .ok (.iload_n 1, 1) := by decide +kernel
theorem dJ0_charAt_5068e_21 : decode cJ0_charAt_5068e 21 = .ok (.invokestatic 498, 3) := by decide +kernel
theorem dJ0_charAt_5068e_24 : decode cJ0_charAt_5068e 24 = .ok (.ireturn, 1) := by decide +kernel
theorem dJ0_coder_7d493_0 : decode cJ0_coder_7d493 0 = .ok (.getstatic 38, 3) := by decide +kernel
theorem dJ0_coder_7d493_3 : decode cJ0_coder_7d493 3 = .ok (.ifCond .eq 10, 3) := by decide +kernel
theorem dJ0_coder_7d493_6 : decode cJ0_coder_7d493 6 = .ok (.aload_n 0, 1) := by decide +kernel
theorem dJ0_coder_7d493_7 : decode cJ0_coder_7d493 7 = .ok (.getfield 15, 3) := by decide +kernel
theorem dJ0_coder_7d493_10 : decode cJ0_coder_7d493 10 = .ok (.goto 4, 3) := by decide +kernel
theorem dJ0_coder_7d493_13 : decode cJ0_coder_7d493 13 = .ok (.iconst 1, 1) := by decide +kernel
theorem dJ0_coder_7d493_14 : decode cJ0_coder_7d493 14 = .ok (.ireturn, 1) := by decide +kernel
theorem dJ0_isLatin1_aae02_0 : decode cJ0_isLatin1_aae02 0 = .ok (.getstatic 38, 3) := by decide +kernel
theorem dJ0_isLatin1_aae02_3 : decode cJ0_isLatin1_aae02 3 = .ok (.ifCond .eq 14, 3) := by decide +kernel
theorem dJ0_isLatin1_aae02_6 : decode cJ0_isLatin1_aae02 6 = .ok (.aload_n 0, 1) := by decide +kernel
theorem dJ0_isLatin1_aae02_7 : decode cJ0_isLatin1_aae02 7 = .ok (.getfield 15, 3) := by decide +kernel
theorem dJ0_isLatin1_aae02_10 : decode cJ0_isLatin1_aae02 10 = .ok (.ifCond .ne 7, 3) := by decide +kernel
theorem dJ0_isLatin1_aae02_13 : decode cJ0_isLatin1_aae02 13 = .ok (.iconst 1, 1) := by decide +kernel
theorem dJ0_isLatin1_aae02_14 : decode cJ0_isLatin1_aae02 14 = .ok (.goto 4, 3) := by decide +kernel
theorem dJ0_isLatin1_aae02_17 : decode cJ0_isLatin1_aae02 17 = .ok (.iconst 0, 1) := by decide +kernel
theorem dJ0_isLatin1_aae02_18 : decode cJ0_isLatin1_aae02 18 = .ok (.ireturn, 1) := by decide +kernel
theorem dJ0_checkIndex_df160_0 : decode cJ0_checkIndex_df160 0 = .ok (.iload_n 0, 1) := by decide +kernel
theorem dJ0_checkIndex_df160_1 : decode cJ0_checkIndex_df160 1 = .ok (.iload_n 1, 1) := by decide +kernel
theorem dJ0_checkIndex_df160_2 : decode cJ0_checkIndex_df160 2 = .ok (.getstatic 1053, 3) := by decide +kernel
theorem dJ0_checkIndex_df160_5 : decode cJ0_checkIndex_df160 5 = .ok (.invokestatic 1059, 3) := by decide +kernel
theorem dJ0_checkIndex_df160_8 : decode cJ0_checkIndex_df160 8 = .ok (.pop, 1) := by decide +kernel
theorem dJ0_checkIndex_df160_9 : decode cJ0_checkIndex_df160 9 = .ok (.return_, 1) := by decide +kernel
theorem dJ1_charAt_3b067_0 : decode cJ1_charAt_3b067 0 = .ok (.iload_n 1, 1) := by decide +kernel
theorem dJ1_charAt_3b067_1 : decode cJ1_charAt_3b067 1 = .ok (.aload_n 0, 1) := by decide +kernel
theorem dJ1_charAt_3b067_2 : decode cJ1_charAt_3b067 2 = .ok (.arraylength, 1) := by decide +kernel
theorem dJ1_charAt_3b067_3 : decode cJ1_charAt_3b067 3 = .ok (.invokestatic 9, 3) := by decide +kernel
theorem dJ1_charAt_3b067_6 : decode cJ1_charAt_3b067 6 = .ok (.aload_n 0, 1) := by decide +kernel
theorem dJ1_charAt_3b067_7 : decode cJ1_charAt_3b067 7 = .ok (.iload_n 1, 1) := by decide +kernel
theorem dJ1_charAt_3b067_8 : decode cJ1_charAt_3b067 8 = .ok (.baload, 1) := by decide +kernel
theorem dJ1_charAt_3b067_9 : decode cJ1_charAt_3b067 9 = .ok (.sipush 255, 3) := by decide +kernel
theorem dJ1_charAt_3b067_12 : decode cJ1_charAt_3b067 12 = .ok (.iand, 1) := by decide +kernel
theorem dJ1_charAt_3b067_13 : decode cJ1_charAt_3b067 13 = .ok (.i2c, 1) := by decide +kernel
theorem dJ1_charAt_3b067_14 : decode cJ1_charAt_3b067 14 = .ok (.ireturn, 1) := by decide +kernel
theorem dJ2_getChar_3b067_0 : decode cJ2_getChar_3b067 0 = .ok (.getstatic 44, 3) := by decide +kernel
theorem dJ2_getChar_3b067_3 : decode cJ2_getChar_3b067 3 = .ok (.ifCond .ne 25, 3) := by decide +kernel
theorem dJ2_getChar_3b067_6 : decode cJ2_getChar_3b067 6 = .ok (.iload_n 1, 1) := by decide +kernel
theorem dJ2_getChar_3b067_7 : decode cJ2_getChar_3b067 7 = .ok (.ifCond .lt 11, 3) := by decide +kernel
theorem dJ2_getChar_3b067_10 : decode cJ2_getChar_3b067 10 = .ok (.iload_n 1, 1) := by decide +kernel
theorem dJ2_getChar_3b067_11 : decode cJ2_getChar_3b067 11 = .ok (.aload_n 0, 1) := by decide +kernel
theorem dJ2_getChar_3b067_12 : decode cJ2_getChar_3b067 12 = .ok (.invokestatic 48, 3) := by decide +kernel
theorem dJ2_getChar_3b067_15 : decode cJ2_getChar_3b067 15 = .ok (.if_icmp .lt 13, 3) := by decide +kernel
theorem dJ2_getChar_3b067_18 : decode cJ2_getChar_3b067 18 = .ok (.new 52, 3) := by decide +kernel
theorem dJ2_getChar_3b067_21 : decode cJ2_getChar_3b067 21 = .ok (.dup, 1) := by decide +kernel
theorem dJ2_getChar_3b067_22 : decode cJ2_getChar_3b067 22 = .ok (.ldc 54, 2) := by decide +kernel
theorem dJ2_getChar_3b067_24 : decode cJ2_getChar_3b067 24 = .ok (.invokespecial 56, 3) := by decide +kernel
theorem dJ2_getChar_3b067_27 : decode cJ2_getChar_3b067 27 = .ok (.athrow, 1) := by decide +kernel
theorem dJ2_getChar_3b067_28 : decode cJ2_getChar_3b067 28 = .ok (.iload_n 1, 1) := by decide +kernel
theorem dJ2_getChar_3b067_29 : decode cJ2_getChar_3b067 29 = .ok (.iconst 1, 1) := by decide +kernel
theorem dJ2_getChar_3b067_30 : decode cJ2_getChar_3b067 30 = .ok (.ishl, 1) := by decide +kernel
theorem dJ2_getChar_3b067_31 : decode cJ2_getChar_3b067 31 = .ok (.istore_n 1, 1) := by decide +kernel
theorem dJ2_getChar_3b067_32 : decode cJ2_getChar_3b067 32 = .ok (.aload_n 0, 1) := by decide +kernel
theorem dJ2_getChar_3b067_33 : decode cJ2_getChar_3b067 33 = .ok (.iload_n 1, 1) := by decide +kernel
theorem dJ2_getChar_3b067_34 : decode cJ2_getChar_3b067 34 = .ok (.iinc 1 1, 3) := by decide +kernel
theorem dJ2_getChar_3b067_37 : decode cJ2_getChar_3b067 37 = .ok (.baload, 1) := by decide +kernel
theorem dJ2_getChar_3b067_38 : decode cJ2_getChar_3b067 38 = .ok (.sipush 255, 3) := by decide +kernel
theorem dJ2_getChar_3b067_41 : decode cJ2_getChar_3b067 41 = .ok (.iand, 1) := by decide +kernel
theorem dJ2_getChar_3b067_42 : decode cJ2_getChar_3b067 42 = .ok (.getstatic 59, 3) := by decide +kernel
theorem dJ2_getChar_3b067_45 : decode cJ2_getChar_3b067 45 = .ok (.ishl, 1) := by decide +kernel
theorem dJ2_getChar_3b067_46 : decode cJ2_getChar_3b067 46 = .ok (.aload_n 0, 1) := by decide +kernel
theorem dJ2_getChar_3b067_47 : decode cJ2_getChar_3b067 47 = .ok (.iload_n 1, 1) := by decide +kernel
theorem dJ2_getChar_3b067_48 : decode cJ2_getChar_3b067 48 = .ok (.baload, 1) := by decide +kernel
theorem dJ2_getChar_3b067_49 : decode cJ2_getChar_3b067 49 = .ok (.sipush 255, 3) := by decide +kernel
theorem dJ2_getChar_3b067_52 : decode cJ2_getChar_3b067 52 = .ok (.iand, 1) := by decide +kernel
theorem dJ2_getChar_3b067_53 : decode cJ2_getChar_3b067 53 = .ok (.getstatic 63, 3) := by decide +kernel
theorem dJ2_getChar_3b067_56 : decode cJ2_getChar_3b067 56 = .ok (.ishl, 1) := by decide +kernel
theorem dJ2_getChar_3b067_57 : decode cJ2_getChar_3b067 57 = .ok (.ior, 1) := by decide +kernel
theorem dJ2_getChar_3b067_58 : decode cJ2_getChar_3b067 58 = .ok (.i2c, 1) := by decide +kernel
theorem dJ2_getChar_3b067_59 : decode cJ2_getChar_3b067 59 = .ok (.ireturn, 1) := by decide +kernel
theorem dJ2_length_9d52b_0 : decode cJ2_length_9d52b 0 = .ok (.aload_n 0, 1) := by decide +kernel
theorem dJ2_length_9d52b_1 : decode cJ2_length_9d52b 1 = .ok (.arraylength, 1) := by decide +kernel
theorem dJ2_length_9d52b_2 : decode cJ2_length_9d52b 2 = .ok (.iconst 1, 1) := by decide +kernel
theorem dJ2_length_9d52b_3 : decode cJ2_length_9d52b 3 = .ok (.ishr, 1) := by decide +kernel
theorem dJ2_length_9d52b_4 : decode cJ2_length_9d52b 4 = .ok (.ireturn, 1) := by decide +kernel
theorem dJ2_charAt_3b067_0 : decode cJ2_charAt_3b067 0 = .ok (.iload_n 1, 1) := by decide +kernel
theorem dJ2_charAt_3b067_1 : decode cJ2_charAt_3b067 1 = .ok (.aload_n 0, 1) := by decide +kernel
theorem dJ2_charAt_3b067_2 : decode cJ2_charAt_3b067 2 = .ok (.invokestatic 67, 3) := by decide +kernel
theorem dJ2_charAt_3b067_5 : decode cJ2_charAt_3b067 5 = .ok (.aload_n 0, 1) := by decide +kernel
theorem dJ2_charAt_3b067_6 : decode cJ2_charAt_3b067 6 = .ok (.iload_n 1, 1) := by decide +kernel
theorem dJ2_charAt_3b067_7 : decode cJ2_charAt_3b067 7 = .ok (.invokestatic 71, 3) := by decide +kernel
theorem dJ2_charAt_3b067_10 : decode cJ2_charAt_3b067 10 = .ok (.ireturn, 1) := by decide +kernel
theorem dJ2_checkIndex_2214a_0 : decode cJ2_checkIndex_2214a 0 = .ok (.iload_n 0, 1) := by decide +kernel
theorem dJ2_checkIndex_2214a_1 : decode cJ2_checkIndex_2214a 1 = .ok (.aload_n 1, 1) := by decide +kernel
theorem dJ2_checkIndex_2214a_2 : decode cJ2_checkIndex_2214a 2 = .ok (.invokestatic 48, 3) := by decide +kernel
theorem dJ2_checkIndex_2214a_5 : decode cJ2_checkIndex_2214a 5 = .ok (.invokestatic 414, 3) := by decide +kernel
theorem dJ2_checkIndex_2214a_8 : decode cJ2_checkIndex_2214a 8 = .ok (.return_, 1) := by decide +kernel
theorem dJ7_fill_d0a16_0 : decode cJ7_fill_d0a16 0 = .ok (.iconst 0, 1) := by decide +kernel
theorem dJ7_fill_d0a16_1 : decode cJ7_fill_d0a16 1 = .ok (.istore_n 3, 1) := by decide +kernel
theorem dJ7_fill_d0a16_2 : decode cJ7_fill_d0a16 2 = .ok (.aload_n 0, 1) := by decide +kernel
theorem dJ7_fill_d0a16_3 : decode cJ7_fill_d0a16 3 = .ok (.arraylength, 1) := by decide +kernel
theorem dJ7_fill_d0a16_4 : decode cJ7_fill_d0a16 4 = .ok (.istore 4, 2) := by decide +kernel
theorem dJ7_fill_d0a16_6 : decode cJ7_fill_d0a16 6 = .ok (.iload_n 3, 1) := by decide +kernel
theorem dJ7_fill_d0a16_7 : decode cJ7_fill_d0a16 7 = .ok (.iload 4, 2) := by decide +kernel
theorem dJ7_fill_d0a16_9 : decode cJ7_fill_d0a16 9 = .ok (.if_icmp .ge 13, 3) := by decide +kernel
theorem dJ7_fill_d0a16_12 : decode cJ7_fill_d0a16 12 = .ok (.aload_n 0, 1) := by decide +kernel
theorem dJ7_fill_d0a16_13 : decode cJ7_fill_d0a16 13 = .ok (.iload_n 3, 1) := by decide +kernel
theorem dJ7_fill_d0a16_14 : decode cJ7_fill_d0a16 14 = .ok (.lload_n 1, 1) := by decide +kernel
theorem dJ7_fill_d0a16_15 : decode cJ7_fill_d0a16 15 = .ok (.lastore, 1) := by decide +kernel
theorem dJ7_fill_d0a16_16 : decode cJ7_fill_d0a16 16 = .ok (.iinc 3 1, 3) := by decide +kernel
theorem dJ7_fill_d0a16_19 : decode cJ7_fill_d0a16 19 = .ok (.goto (-13), 3) := by decide +kernel
theorem dJ7_fill_d0a16_22 : decode cJ7_fill_d0a16 22 = .ok (.return_, 1) := by decide +kernel
theorem dJ7_copyOf_59c91_0 : decode cJ7_copyOf_59c91 0 = .ok (.iload_n 1, 1) := by decide +kernel
theorem dJ7_copyOf_59c91_1 : decode cJ7_copyOf_59c91 1 = .ok (.aload_n 0, 1) := by decide +kernel
theorem dJ7_copyOf_59c91_2 : decode cJ7_copyOf_59c91 2 = .ok (.arraylength, 1) := by decide +kernel
theorem dJ7_copyOf_59c91_3 : decode cJ7_copyOf_59c91 3 = .ok (.if_icmp .ne 11, 3) := by decide +kernel
theorem dJ7_copyOf_59c91_6 : decode cJ7_copyOf_59c91 6 = .ok (.aload_n 0, 1) := by decide +kernel
theorem dJ7_copyOf_59c91_7 : decode cJ7_copyOf_59c91 7 = .ok (.invokevirtual 316, 3) := by decide +kernel
theorem dJ7_copyOf_59c91_10 : decode cJ7_copyOf_59c91 10 = .ok (.checkcast 317, 3) := by decide +kernel
theorem dJ7_copyOf_59c91_13 : decode cJ7_copyOf_59c91 13 = .ok (.areturn, 1) := by decide +kernel
theorem dJ7_copyOf_59c91_14 : decode cJ7_copyOf_59c91 14 = .ok (.iload_n 1, 1) := by decide +kernel
theorem dJ7_copyOf_59c91_15 : decode cJ7_copyOf_59c91 15 = .ok (.newarray .int, 2) := by decide +kernel
theorem dJ7_copyOf_59c91_17 : decode cJ7_copyOf_59c91 17 = .ok (.astore_n 2, 1) := by decide +kernel
theorem dJ7_copyOf_59c91_18 : decode cJ7_copyOf_59c91 18 = .ok (.aload_n 0, 1) := by decide +kernel
theorem dJ7_copyOf_59c91_19 : decode cJ7_copyOf_59c91 19 = .ok (.iconst 0, 1) := by decide +kernel
theorem dJ7_copyOf_59c91_20 : decode cJ7_copyOf_59c91 20 = .ok (.aload_n 2, 1) := by decide +kernel
theorem dJ7_copyOf_59c91_21 : decode cJ7_copyOf_59c91 21 = .ok (.iconst 0, 1) := by decide +kernel
theorem dJ7_copyOf_59c91_22 : decode cJ7_copyOf_59c91 22 = .ok (.aload_n 0, 1) := by decide +kernel
theorem dJ7_copyOf_59c91_23 : decode cJ7_copyOf_59c91 23 = .ok (.arraylength, 1) := by decide +kernel
theorem dJ7_copyOf_59c91_24 : decode cJ7_copyOf_59c91 24 = .ok (.iload_n 1, 1) := by decide +kernel
theorem dJ7_copyOf_59c91_25 : decode cJ7_copyOf_59c91 25 = .ok (.invokestatic 304, 3) := by decide +kernel
theorem dJ7_copyOf_59c91_28 : decode cJ7_copyOf_59c91 28 = .ok (.invokestatic 150, 3) := by decide +kernel
theorem dJ7_copyOf_59c91_31 : decode cJ7_copyOf_59c91 31 = .ok (.aload_n 2, 1) := by decide +kernel
theorem dJ7_copyOf_59c91_32 : decode cJ7_copyOf_59c91 32 = .ok (.areturn, 1) := by decide +kernel
theorem dJ3_checkIndex_8e157_0 : decode cJ3_checkIndex_8e157 0 = .ok (.iload_n 0, 1) := by decide +kernel
theorem dJ3_checkIndex_8e157_1 : decode cJ3_checkIndex_8e157 1 = .ok (.ifCond .lt 8, 3) := by decide +kernel
theorem dJ3_checkIndex_8e157_4 : decode cJ3_checkIndex_8e157 4 = .ok (.iload_n 0, 1) := by decide +kernel
theorem dJ3_checkIndex_8e157_5 : decode cJ3_checkIndex_8e157 5 = .ok (.iload_n 1, 1) := by decide +kernel
theorem dJ3_checkIndex_8e157_6 : decode cJ3_checkIndex_8e157 6 = .ok (.if_icmp .lt 10, 3) := by decide +kernel
theorem dJ3_checkIndex_8e157_9 : decode cJ3_checkIndex_8e157 9 = .ok (.aload_n 2, 1) := by decide +kernel
theorem dJ3_checkIndex_8e157_10 : decode cJ3_checkIndex_8e157 10 = .ok (.iload_n 0, 1) := by decide +kernel
theorem dJ3_checkIndex_8e157_11 : decode cJ3_checkIndex_8e157 11 = .ok (.iload_n 1, 1) := by decide +kernel
theorem dJ3_checkIndex_8e157_12 : decode cJ3_checkIndex_8e157 12 = .ok (.invokestatic 95, 3) := by decide +kernel
theorem dJ3_checkIndex_8e157_15 : decode cJ3_checkIndex_8e157 15 = .ok (.athrow, 1) := by decide +kernel
theorem dJ3_checkIndex_8e157_16 : decode cJ3_checkIndex_8e157 16 = .ok (.iload_n 0, 1) := by decide +kernel
theorem dJ3_checkIndex_8e157_17 : decode cJ3_checkIndex_8e157 17 = .ok (.ireturn, 1) := by decide +kernel
end
section
/-! decode rows (printed by the program of the task) -/
theorem dX8_init_0 : decode cX8_init 0 = .ok (.aload_n 0, 1) := by decide +kernel
theorem dX8_init_1 : decode cX8_init 1 = .ok (.invokespecial 1, 3) := by decide +kernel
theorem dX8_init_4 : decode cX8_init 4 = .ok (.aload_n 0, 1) := by decide +kernel
theorem dX8_init_5 : decode cX8_init 5 = .ok (.new 7, 3) := by decide +kernel
theorem dX8_init_8 : decode cX8_init 8 = .ok (.dup, 1) := by decide +kernel
theorem dX8_init_9 : decode cX8_init 9 = .ok (.invokespecial 9, 3) := by decide +kernel
theorem dX8_init_12 : decode cX8_init 12 = .ok (.putfield 10, 3) := by decide +kernel
theorem dX8_init_15 : decode cX8_init 15 = .ok (.aload_n 0, 1) := by decide +kernel
theorem dX8_init_16 : decode cX8_init 16 = .ok (.new 7, 3) := by decide +kernel
theorem dX8_init_19 : decode cX8_init 19 = .ok (.dup, 1) := by decide +kernel
theorem dX8_init_20 : decode cX8_init 20 = .ok (.invokespecial 9, 3) := by decide +kernel
theorem dX8_init_23 : decode cX8_init 23 = .ok (.putfield 16, 3) := by decide +kernel
theorem dX8_init_26 : decode cX8_init 26 = .ok (.aload_n 0, 1) := by decide +kernel
theorem dX8_init_27 : decode cX8_init 27 = .ok (.sipush 250, 3) := by decide +kernel
theorem dX8_init_30 : decode cX8_init 30 = .ok (.newarray .int, 2) := by decide +kernel
theorem dX8_init_32 : decode cX8_init 32 = .ok (.putfield 19, 3) := by decide +kernel
theorem dX8_init_35 : decode cX8_init 35 = .ok (.aload_n 0, 1) := by decide +kernel
theorem dX8_init_36 : decode cX8_init 36 = .ok (.bipush 8, 2) := by decide +kernel
theorem dX8_init_38 : decode cX8_init 38 = .ok (.anewarray 23, 3) := by decide +kernel
theorem dX8_init_41 : decode cX8_init 41 = .ok (.putfield 25, 3) := by decide +kernel
theorem dX8_init_44 : decode cX8_init 44 = .ok (.aload_n 0, 1) := by decide +kernel
theorem dX8_init_45 : decode cX8_init 45 = .ok (.new 29, 3) := by decide +kernel
theorem dX8_init_48 : decode cX8_init 48 = .ok (.dup, 1) := by decide +kernel
theorem dX8_init_49 : decode cX8_init 49 = .ok (.invokespecial 31, 3) := by decide +kernel
theorem dX8_init_52 : decode cX8_init 52 = .ok (.putfield 32, 3) := by decide +kernel
theorem dX8_init_55 : decode cX8_init 55 = .ok (.aload_n 0, 1) := by decide +kernel
theorem dX8_init_56 : decode cX8_init 56 = .ok (.new 36, 3) := by decide +kernel
theorem dX8_init_59 : decode cX8_init 59 = .ok (.dup, 1) := by decide +kernel
theorem dX8_init_60 : decode cX8_init 60 = .ok (.invokespecial 38, 3) := by decide +kernel
theorem dX8_init_63 : decode cX8_init 63 = .ok (.putfield 39, 3) := by decide +kernel
theorem dX8_init_66 : decode cX8_init 66 = .ok (.aload_n 0, 1) := by decide +kernel
theorem dX8_init_67 : decode cX8_init 67 = .ok (.iconst 5, 1) := by decide +kernel
theorem dX8_init_68 : decode cX8_init 68 = .ok (.newarray .int, 2) := by decide +kernel
theorem dX8_init_70 : decode cX8_init 70 = .ok (.putfield 43, 3) := by decide +kernel
theorem dX8_init_73 : decode cX8_init 73 = .ok (.iconst 0, 1) := by decide +kernel
theorem dX8_init_74 : decode cX8_init 74 = .ok (.istore_n 1, 1) := by decide +kernel
theorem dX8_init_75 : decode cX8_init 75 = .ok (.iload_n 1, 1) := by decide +kernel
theorem dX8_init_76 : decode cX8_init 76 = .ok (.aload_n 0, 1) := by decide +kernel
theorem dX8_init_77 : decode cX8_init 77 = .ok (.getfield 25, 3) := by decide +kernel
theorem dX8_init_80 : decode cX8_init 80 = .ok (.arraylength, 1) := by decide +kernel
theorem dX8_init_81 : decode cX8_init 81 = .ok (.if_icmp .ge 22, 3) := by decide +kernel
theorem dX8_init_84 : decode cX8_init 84 = .ok (.aload_n 0, 1) := by decide +kernel
theorem dX8_init_85 : decode cX8_init 85 = .ok (.getfield 25, 3) := by decide +kernel
theorem dX8_init_88 : decode cX8_init 88 = .ok (.iload_n 1, 1) := by decide +kernel
theorem dX8_init_89 : decode cX8_init 89 = .ok (.new 23, 3) := by decide +kernel
theorem dX8_init_92 : decode cX8_init 92 = .ok (.dup, 1) := by decide +kernel
theorem dX8_init_93 : decode cX8_init 93 = .ok (.invokespecial 46, 3) := by decide +kernel
theorem dX8_init_96 : decode cX8_init 96 = .ok (.aastore, 1) := by decide +kernel
theorem dX8_init_97 : decode cX8_init 97 = .ok (.iinc 1 1, 3) := by decide +kernel
theorem dX8_init_100 : decode cX8_init 100 = .ok (.goto (-25), 3) := by decide +kernel
theorem dX8_init_103 : decode cX8_init 103 = .ok (.return_, 1) := by decide +kernel
theorem dX8_row_0 : decode cX8_row 0 = .ok (.aload_n 0, 1) := by decide +kernel
theorem dX8_row_1 : decode cX8_row 1 = .ok (.iload_n 1, 1) := by decide +kernel
theorem dX8_row_2 : decode cX8_row 2 = .ok (.invokevirtual 47, 3) := by decide +kernel
theorem dX8_row_5 : decode cX8_row 5 = .ok (.astore 4, 2) := by decide +kernel
theorem dX8_row_7 : decode cX8_row 7 = .ok (.aload 4, 2) := by decide +kernel
theorem dX8_row_9 : decode cX8_row 9 = .ok (.ifnull 20, 3) := by decide +kernel
theorem dX8_row_12 : decode cX8_row 12 = .ok (.iload_n 2, 1) := by decide +kernel
theorem dX8_row_13 : decode cX8_row 13 = .ok (.invokestatic 51, 3) := by decide +kernel
theorem dX8_row_16 : decode cX8_row 16 = .ok (.ifCond .eq 13, 3) := by decide +kernel
theorem dX8_row_19 : decode cX8_row 19 = .ok (.iload_n 3, 1) := by decide +kernel
theorem dX8_row_20 : decode cX8_row 20 = .ok (.ifCond .lt 9, 3) := by decide +kernel
theorem dX8_row_23 : decode cX8_row 23 = .ok (.iload_n 3, 1) := by decide +kernel
theorem dX8_row_24 : decode cX8_row 24 = .ok (.bipush 40, 2) := by decide +kernel
theorem dX8_row_26 : decode cX8_row 26 = .ok (.if_icmp .le 10, 3) := by decide +kernel
theorem dX8_row_29 : decode cX8_row 29 = .ok (.aload_n 0, 1) := by decide +kernel
theorem dX8_row_30 : decode cX8_row 30 = .ok (.bipush (-92), 2) := by decide +kernel
theorem dX8_row_32 : decode cX8_row 32 = .ok (.invokevirtual 55, 3) := by decide +kernel
theorem dX8_row_35 : decode cX8_row 35 = .ok (.ireturn, 1) := by decide +kernel
theorem dX8_row_36 : decode cX8_row 36 = .ok (.aload 4, 2) := by decide +kernel
theorem dX8_row_38 : decode cX8_row 38 = .ok (.iload_n 2, 1) := by decide +kernel
theorem dX8_row_39 : decode cX8_row 39 = .ok (.iload_n 3, 1) := by decide +kernel
theorem dX8_row_40 : decode cX8_row 40 = .ok (.invokevirtual 59, 3) := by decide +kernel
theorem dX8_row_43 : decode cX8_row 43 = .ok (.iconst 1, 1) := by decide +kernel
theorem dX8_row_44 : decode cX8_row 44 = .ok (.ireturn, 1) := by decide +kernel
theorem dX8_set_0 : decode cX8_set 0 = .ok (.aload_n 0, 1) := by decide +kernel
theorem dX8_set_1 : decode cX8_set 1 = .ok (.iload_n 1, 1) := by decide +kernel
theorem dX8_set_2 : decode cX8_set 2 = .ok (.invokevirtual 47, 3) := by decide +kernel
theorem dX8_set_5 : decode cX8_set 5 = .ok (.astore 5, 2) := by decide +kernel
theorem dX8_set_7 : decode cX8_set 7 = .ok (.aload 5, 2) := by decide +kernel
theorem dX8_set_9 : decode cX8_set 9 = .ok (.ifnonnull 10, 3) := by decide +kernel
theorem dX8_set_12 : decode cX8_set 12 = .ok (.aload_n 0, 1) := by decide +kernel
theorem dX8_set_13 : decode cX8_set 13 = .ok (.bipush (-92), 2) := by decide +kernel
theorem dX8_set_15 : decode cX8_set 15 = .ok (.invokevirtual 55, 3) := by decide +kernel
theorem dX8_set_18 : decode cX8_set 18 = .ok (.ireturn, 1) := by decide +kernel
theorem dX8_set_19 : decode cX8_set 19 = .ok (.aload 5, 2) := by decide +kernel
theorem dX8_set_21 : decode cX8_set 21 = .ok (.invokevirtual 63, 3) := by decide +kernel
theorem dX8_set_24 : decode cX8_set 24 = .ok (.ifCond .ne 23, 3) := by decide +kernel
theorem dX8_set_27 : decode cX8_set 27 = .ok (.aload_n 0, 1) := by decide +kernel
theorem dX8_set_28 : decode cX8_set 28 = .ok (.aload 5, 2) := by decide +kernel
theorem dX8_set_30 : decode cX8_set 30 = .ok (.invokevirtual 67, 3) := by decide +kernel
theorem dX8_set_33 : decode cX8_set 33 = .ok (.ifCond .eq 8, 3) := by decide +kernel
theorem dX8_set_36 : decode cX8_set 36 = .ok (.bipush (-94), 2) := by decide +kernel
theorem dX8_set_38 : decode cX8_set 38 = .ok (.goto 5, 3) := by decide +kernel
theorem dX8_set_41 : decode cX8_set 41 = .ok (.bipush (-93), 2) := by decide +kernel
theorem dX8_set_43 : decode cX8_set 43 = .ok (.invokevirtual 55, 3) := by decide +kernel
theorem dX8_set_46 : decode cX8_set 46 = .ok (.ireturn, 1) := by decide +kernel
theorem dX8_set_47 : decode cX8_set 47 = .ok (.aload 5, 2) := by decide +kernel
theorem dX8_set_49 : decode cX8_set 49 = .ok (.iload_n 2, 1) := by decide +kernel
theorem dX8_set_50 : decode cX8_set 50 = .ok (.lload_n 3, 1) := by decide +kernel
theorem dX8_set_51 : decode cX8_set 51 = .ok (.invokevirtual 70, 3) := by decide +kernel
theorem dX8_set_54 : decode cX8_set 54 = .ok (.ifCond .eq 7, 3) := by decide +kernel
theorem dX8_set_57 : decode cX8_set 57 = .ok (.iconst 1, 1) := by decide +kernel
theorem dX8_set_58 : decode cX8_set 58 = .ok (.goto 9, 3) := by decide +kernel
theorem dX8_set_61 : decode cX8_set 61 = .ok (.aload_n 0, 1) := by decide +kernel
theorem dX8_set_62 : decode cX8_set 62 = .ok (.bipush (-92), 2) := by decide +kernel
theorem dX8_set_64 : decode cX8_set 64 = .ok (.invokevirtual 55, 3) := by decide +kernel
theorem dX8_set_67 : decode cX8_set 67 = .ok (.ireturn, 1) := by decide +kernel
theorem dX8_copy_0 : decode cX8_copy 0 = .ok (.aload_n 0, 1) := by decide +kernel
theorem dX8_copy_1 : decode cX8_copy 1 = .ok (.iload_n 1, 1) := by decide +kernel
theorem dX8_copy_2 : decode cX8_copy 2 = .ok (.invokevirtual 47, 3) := by decide +kernel
theorem dX8_copy_5 : decode cX8_copy 5 = .ok (.astore 6, 2) := by decide +kernel
theorem dX8_copy_7 : decode cX8_copy 7 = .ok (.aload_n 0, 1) := by decide +kernel
theorem dX8_copy_8 : decode cX8_copy 8 = .ok (.iload_n 2, 1) := by decide +kernel
theorem dX8_copy_9 : decode cX8_copy 9 = .ok (.invokevirtual 47, 3) := by decide +kernel
theorem dX8_copy_12 : decode cX8_copy 12 = .ok (.astore 7, 2) := by decide +kernel
theorem dX8_copy_14 : decode cX8_copy 14 = .ok (.aload 6, 2) := by decide +kernel
theorem dX8_copy_16 : decode cX8_copy 16 = .ok (.ifnull 8, 3) := by decide +kernel
theorem dX8_copy_19 : decode cX8_copy 19 = .ok (.aload 7, 2) := by decide +kernel
theorem dX8_copy_21 : decode cX8_copy 21 = .ok (.ifnonnull 10, 3) := by decide +kernel
theorem dX8_copy_24 : decode cX8_copy 24 = .ok (.aload_n 0, 1) := by decide +kernel
theorem dX8_copy_25 : decode cX8_copy 25 = .ok (.bipush (-92), 2) := by decide +kernel
theorem dX8_copy_27 : decode cX8_copy 27 = .ok (.invokevirtual 55, 3) := by decide +kernel
theorem dX8_copy_30 : decode cX8_copy 30 = .ok (.ireturn, 1) := by decide +kernel
theorem dX8_copy_31 : decode cX8_copy 31 = .ok (.aload 6, 2) := by decide +kernel
theorem dX8_copy_33 : decode cX8_copy 33 = .ok (.invokevirtual 74, 3) := by decide +kernel
theorem dX8_copy_36 : decode cX8_copy 36 = .ok (.ifCond .ne 11, 3) := by decide +kernel
theorem dX8_copy_39 : decode cX8_copy 39 = .ok (.aload 7, 2) := by decide +kernel
theorem dX8_copy_41 : decode cX8_copy 41 = .ok (.invokevirtual 74, 3) := by decide +kernel
theorem dX8_copy_44 : decode cX8_copy 44 = .ok (.ifCond .eq 10, 3) := by decide +kernel
theorem dX8_copy_47 : decode cX8_copy 47 = .ok (.aload_n 0, 1) := by decide +kernel
theorem dX8_copy_48 : decode cX8_copy 48 = .ok (.bipush (-93), 2) := by decide +kernel
theorem dX8_copy_50 : decode cX8_copy 50 = .ok (.invokevirtual 55, 3) := by decide +kernel
theorem dX8_copy_53 : decode cX8_copy 53 = .ok (.ireturn, 1) := by decide +kernel
theorem dX8_copy_54 : decode cX8_copy 54 = .ok (.aload 6, 2) := by decide +kernel
theorem dX8_copy_56 : decode cX8_copy 56 = .ok (.invokevirtual 67, 3) := by decide +kernel
theorem dX8_copy_59 : decode cX8_copy 59 = .ok (.ifCond .ne 11, 3) := by decide +kernel
theorem dX8_copy_62 : decode cX8_copy 62 = .ok (.aload 7, 2) := by decide +kernel
theorem dX8_copy_64 : decode cX8_copy 64 = .ok (.invokevirtual 67, 3) := by decide +kernel
theorem dX8_copy_67 : decode cX8_copy 67 = .ok (.ifCond .eq 10, 3) := by decide +kernel
theorem dX8_copy_70 : decode cX8_copy 70 = .ok (.aload_n 0, 1) := by decide +kernel
theorem dX8_copy_71 : decode cX8_copy 71 = .ok (.bipush (-94), 2) := by decide +kernel
theorem dX8_copy_73 : decode cX8_copy 73 = .ok (.invokevirtual 55, 3) := by decide +kernel
theorem dX8_copy_76 : decode cX8_copy 76 = .ok (.ireturn, 1) := by decide +kernel
theorem dX8_copy_77 : decode cX8_copy 77 = .ok (.aload 6, 2) := by decide +kernel
theorem dX8_copy_79 : decode cX8_copy 79 = .ok (.getfield 77, 3) := by decide +kernel
theorem dX8_copy_82 : decode cX8_copy 82 = .ok (.aload 7, 2) := by decide +kernel
theorem dX8_copy_84 : decode cX8_copy 84 = .ok (.getfield 77, 3) := by decide +kernel
theorem dX8_copy_87 : decode cX8_copy 87 = .ok (.if_icmp .eq 10, 3) := by decide +kernel
theorem dX8_copy_90 : decode cX8_copy 90 = .ok (.aload_n 0, 1) := by decide +kernel
theorem dX8_copy_91 : decode cX8_copy 91 = .ok (.bipush (-93), 2) := by decide +kernel
theorem dX8_copy_93 : decode cX8_copy 93 = .ok (.invokevirtual 55, 3) := by decide +kernel
theorem dX8_copy_96 : decode cX8_copy 96 = .ok (.ireturn, 1) := by decide +kernel
theorem dX8_copy_97 : decode cX8_copy 97 = .ok (.aload 6, 2) := by decide +kernel
theorem dX8_copy_99 : decode cX8_copy 99 = .ok (.iload_n 3, 1) := by decide +kernel
theorem dX8_copy_100 : decode cX8_copy 100 = .ok (.aload 7, 2) := by decide +kernel
theorem dX8_copy_102 : decode cX8_copy 102 = .ok (.iload 4, 2) := by decide +kernel
theorem dX8_copy_104 : decode cX8_copy 104 = .ok (.iload 5, 2) := by decide +kernel
theorem dX8_copy_106 : decode cX8_copy 106 = .ok (.invokevirtual 81, 3) := by decide +kernel
theorem dX8_copy_109 : decode cX8_copy 109 = .ok (.ifCond .eq 8, 3) := by decide +kernel
theorem dX8_copy_112 : decode cX8_copy 112 = .ok (.iload 5, 2) := by decide +kernel
theorem dX8_copy_114 : decode cX8_copy 114 = .ok (.goto 9, 3) := by decide +kernel
theorem dX8_copy_117 : decode cX8_copy 117 = .ok (.aload_n 0, 1) := by decide +kernel
theorem dX8_copy_118 : decode cX8_copy 118 = .ok (.bipush (-92), 2) := by decide +kernel
theorem dX8_copy_120 : decode cX8_copy 120 = .ok (.invokevirtual 55, 3) := by decide +kernel
theorem dX8_copy_123 : decode cX8_copy 123 = .ok (.ireturn, 1) := by decide +kernel
theorem dX8_element_0 : decode cX8_element 0 = .ok (.aload_n 0, 1) := by decide +kernel
theorem dX8_element_1 : decode cX8_element 1 = .ok (.iload_n 1, 1) := by decide +kernel
theorem dX8_element_2 : decode cX8_element 2 = .ok (.invokevirtual 47, 3) := by decide +kernel
theorem dX8_element_5 : decode cX8_element 5 = .ok (.astore_n 3, 1) := by decide +kernel
theorem dX8_element_6 : decode cX8_element 6 = .ok (.aload_n 3, 1) := by decide +kernel
theorem dX8_element_7 : decode cX8_element 7 = .ok (.ifnonnull 7, 3) := by decide +kernel
theorem dX8_element_10 : decode cX8_element 10 = .ok (.lconst 0, 1) := by decide +kernel
theorem dX8_element_11 : decode cX8_element 11 = .ok (.goto 8, 3) := by decide +kernel
theorem dX8_element_14 : decode cX8_element 14 = .ok (.aload_n 3, 1) := by decide +kernel
theorem dX8_element_15 : decode cX8_element 15 = .ok (.iload_n 2, 1) := by decide +kernel
theorem dX8_element_16 : decode cX8_element 16 = .ok (.invokevirtual 85, 3) := by decide +kernel
theorem dX8_element_19 : decode cX8_element 19 = .ok (.lreturn, 1) := by decide +kernel
theorem dX8_holds_0 : decode cX8_holds 0 = .ok (.aload_n 0, 1) := by decide +kernel
theorem dX8_holds_1 : decode cX8_holds 1 = .ok (.iload_n 1, 1) := by decide +kernel
theorem dX8_holds_2 : decode cX8_holds 2 = .ok (.invokevirtual 47, 3) := by decide +kernel
theorem dX8_holds_5 : decode cX8_holds 5 = .ok (.astore_n 2, 1) := by decide +kernel
theorem dX8_holds_6 : decode cX8_holds 6 = .ok (.aload_n 2, 1) := by decide +kernel
theorem dX8_holds_7 : decode cX8_holds 7 = .ok (.ifnonnull 7, 3) := by decide +kernel
theorem dX8_holds_10 : decode cX8_holds 10 = .ok (.iconst (-1), 1) := by decide +kernel
theorem dX8_holds_11 : decode cX8_holds 11 = .ok (.goto 7, 3) := by decide +kernel
theorem dX8_holds_14 : decode cX8_holds 14 = .ok (.aload_n 2, 1) := by decide +kernel
theorem dX8_holds_15 : decode cX8_holds 15 = .ok (.getfield 77, 3) := by decide +kernel
theorem dX8_holds_18 : decode cX8_holds 18 = .ok (.ireturn, 1) := by decide +kernel
theorem dX8_show_0 : decode cX8_show 0 = .ok (.aload_n 0, 1) := by decide +kernel
theorem dX8_show_1 : decode cX8_show 1 = .ok (.iload_n 1, 1) := by decide +kernel
theorem dX8_show_2 : decode cX8_show 2 = .ok (.invokevirtual 47, 3) := by decide +kernel
theorem dX8_show_5 : decode cX8_show 5 = .ok (.astore 4, 2) := by decide +kernel
theorem dX8_show_7 : decode cX8_show 7 = .ok (.aload 4, 2) := by decide +kernel
theorem dX8_show_9 : decode cX8_show 9 = .ok (.ifnonnull 10, 3) := by decide +kernel
theorem dX8_show_12 : decode cX8_show 12 = .ok (.aload_n 0, 1) := by decide +kernel
theorem dX8_show_13 : decode cX8_show 13 = .ok (.bipush (-92), 2) := by decide +kernel
theorem dX8_show_15 : decode cX8_show 15 = .ok (.invokevirtual 55, 3) := by decide +kernel
theorem dX8_show_18 : decode cX8_show 18 = .ok (.ireturn, 1) := by decide +kernel
theorem dX8_show_19 : decode cX8_show 19 = .ok (.iload_n 2, 1) := by decide +kernel
theorem dX8_show_20 : decode cX8_show 20 = .ok (.iconst (-1), 1) := by decide +kernel
theorem dX8_show_21 : decode cX8_show 21 = .ok (.if_icmp .ne 10, 3) := by decide +kernel
theorem dX8_show_24 : decode cX8_show 24 = .ok (.aload 4, 2) := by decide +kernel
theorem dX8_show_26 : decode cX8_show 26 = .ok (.invokevirtual 89, 3) := by decide +kernel
theorem dX8_show_29 : decode cX8_show 29 = .ok (.iconst 1, 1) := by decide +kernel
theorem dX8_show_30 : decode cX8_show 30 = .ok (.ireturn, 1) := by decide +kernel
theorem dX8_show_31 : decode cX8_show 31 = .ok (.aload_n 0, 1) := by decide +kernel
theorem dX8_show_32 : decode cX8_show 32 = .ok (.getfield 10, 3) := by decide +kernel
theorem dX8_show_35 : decode cX8_show 35 = .ok (.iload_n 2, 1) := by decide +kernel
theorem dX8_show_36 : decode cX8_show 36 = .ok (.invokevirtual 92, 3) := by decide +kernel
theorem dX8_show_39 : decode cX8_show 39 = .ok (.astore 5, 2) := by decide +kernel
theorem dX8_show_41 : decode cX8_show 41 = .ok (.aload 5, 2) := by decide +kernel
theorem dX8_show_43 : decode cX8_show 43 = .ok (.ifnull 15, 3) := by decide +kernel
theorem dX8_show_46 : decode cX8_show 46 = .ok (.aload 5, 2) := by decide +kernel
theorem dX8_show_48 : decode cX8_show 48 = .ok (.getfield 96, 3) := by decide +kernel
theorem dX8_show_51 : decode cX8_show 51 = .ok (.iload_n 3, 1) := by decide +kernel
theorem dX8_show_52 : decode cX8_show 52 = .ok (.invokevirtual 102, 3) := by decide +kernel
theorem dX8_show_55 : decode cX8_show 55 = .ok (.ifCond .ne 10, 3) := by decide +kernel
theorem dX8_show_58 : decode cX8_show 58 = .ok (.aload_n 0, 1) := by decide +kernel
theorem dX8_show_59 : decode cX8_show 59 = .ok (.bipush (-92), 2) := by decide +kernel
theorem dX8_show_61 : decode cX8_show 61 = .ok (.invokevirtual 55, 3) := by decide +kernel
theorem dX8_show_64 : decode cX8_show 64 = .ok (.ireturn, 1) := by decide +kernel
theorem dX8_show_65 : decode cX8_show 65 = .ok (.aload 4, 2) := by decide +kernel
theorem dX8_show_67 : decode cX8_show 67 = .ok (.aload 5, 2) := by decide +kernel
theorem dX8_show_69 : decode cX8_show 69 = .ok (.getfield 96, 3) := by decide +kernel
theorem dX8_show_72 : decode cX8_show 72 = .ok (.iload_n 3, 1) := by decide +kernel
theorem dX8_show_73 : decode cX8_show 73 = .ok (.invokevirtual 107, 3) := by decide +kernel
theorem dX8_show_76 : decode cX8_show 76 = .ok (.invokevirtual 110, 3) := by decide +kernel
theorem dX8_show_79 : decode cX8_show 79 = .ok (.iconst 1, 1) := by decide +kernel
theorem dX8_show_80 : decode cX8_show 80 = .ok (.ireturn, 1) := by decide +kernel
theorem dX8_says_0 : decode cX8_says 0 = .ok (.aload_n 0, 1) := by decide +kernel
theorem dX8_says_1 : decode cX8_says 1 = .ok (.iload_n 1, 1) := by decide +kernel
theorem dX8_says_2 : decode cX8_says 2 = .ok (.invokevirtual 47, 3) := by decide +kernel
theorem dX8_says_5 : decode cX8_says 5 = .ok (.astore_n 3, 1) := by decide +kernel
theorem dX8_says_6 : decode cX8_says 6 = .ok (.aload_n 3, 1) := by decide +kernel
theorem dX8_says_7 : decode cX8_says 7 = .ok (.ifnull 10, 3) := by decide +kernel
theorem dX8_says_10 : decode cX8_says 10 = .ok (.iload_n 2, 1) := by decide +kernel
theorem dX8_says_11 : decode cX8_says 11 = .ok (.invokestatic 114, 3) := by decide +kernel
theorem dX8_says_14 : decode cX8_says 14 = .ok (.ifCond .ne 10, 3) := by decide +kernel
theorem dX8_says_17 : decode cX8_says 17 = .ok (.aload_n 0, 1) := by decide +kernel
theorem dX8_says_18 : decode cX8_says 18 = .ok (.bipush (-92), 2) := by decide +kernel
theorem dX8_says_20 : decode cX8_says 20 = .ok (.invokevirtual 55, 3) := by decide +kernel
theorem dX8_says_23 : decode cX8_says 23 = .ok (.ireturn, 1) := by decide +kernel
theorem dX8_says_24 : decode cX8_says 24 = .ok (.aload_n 3, 1) := by decide +kernel
theorem dX8_says_25 : decode cX8_says 25 = .ok (.invokevirtual 67, 3) := by decide +kernel
theorem dX8_says_28 : decode cX8_says 28 = .ok (.ifCond .eq 10, 3) := by decide +kernel
theorem dX8_says_31 : decode cX8_says 31 = .ok (.aload_n 0, 1) := by decide +kernel
theorem dX8_says_32 : decode cX8_says 32 = .ok (.bipush (-94), 2) := by decide +kernel
theorem dX8_says_34 : decode cX8_says 34 = .ok (.invokevirtual 55, 3) := by decide +kernel
theorem dX8_says_37 : decode cX8_says 37 = .ok (.ireturn, 1) := by decide +kernel
theorem dX8_says_38 : decode cX8_says 38 = .ok (.aload_n 3, 1) := by decide +kernel
theorem dX8_says_39 : decode cX8_says 39 = .ok (.invokevirtual 119, 3) := by decide +kernel
theorem dX8_says_42 : decode cX8_says 42 = .ok (.istore 4, 2) := by decide +kernel
theorem dX8_says_44 : decode cX8_says 44 = .ok (.iload 4, 2) := by decide +kernel
theorem dX8_says_46 : decode cX8_says 46 = .ok (.iload_n 2, 1) := by decide +kernel
theorem dX8_says_47 : decode cX8_says 47 = .ok (.invokestatic 123, 3) := by decide +kernel
theorem dX8_says_50 : decode cX8_says 50 = .ok (.ifCond .eq 12, 3) := by decide +kernel
theorem dX8_says_53 : decode cX8_says 53 = .ok (.iload 4, 2) := by decide +kernel
theorem dX8_says_55 : decode cX8_says 55 = .ok (.iload_n 2, 1) := by decide +kernel
theorem dX8_says_56 : decode cX8_says 56 = .ok (.invokestatic 127, 3) := by decide +kernel
theorem dX8_says_59 : decode cX8_says 59 = .ok (.goto 9, 3) := by decide +kernel
theorem dX8_says_62 : decode cX8_says 62 = .ok (.aload_n 0, 1) := by decide +kernel
theorem dX8_says_63 : decode cX8_says 63 = .ok (.bipush (-93), 2) := by decide +kernel
theorem dX8_says_65 : decode cX8_says 65 = .ok (.invokevirtual 55, 3) := by decide +kernel
theorem dX8_says_68 : decode cX8_says 68 = .ok (.ireturn, 1) := by decide +kernel
theorem dX8_feed_0 : decode cX8_feed 0 = .ok (.iload_n 1, 1) := by decide +kernel
theorem dX8_feed_1 : decode cX8_feed 1 = .ok (.ifCond .lt 10, 3) := by decide +kernel
theorem dX8_feed_4 : decode cX8_feed 4 = .ok (.iload_n 1, 1) := by decide +kernel
theorem dX8_feed_5 : decode cX8_feed 5 = .ok (.sipush 255, 3) := by decide +kernel
theorem dX8_feed_8 : decode cX8_feed 8 = .ok (.if_icmp .le 10, 3) := by decide +kernel
theorem dX8_feed_11 : decode cX8_feed 11 = .ok (.aload_n 0, 1) := by decide +kernel
theorem dX8_feed_12 : decode cX8_feed 12 = .ok (.bipush (-92), 2) := by decide +kernel
theorem dX8_feed_14 : decode cX8_feed 14 = .ok (.invokevirtual 55, 3) := by decide +kernel
theorem dX8_feed_17 : decode cX8_feed 17 = .ok (.ireturn, 1) := by decide +kernel
theorem dX8_feed_18 : decode cX8_feed 18 = .ok (.aload_n 0, 1) := by decide +kernel
theorem dX8_feed_19 : decode cX8_feed 19 = .ok (.getfield 131, 3) := by decide +kernel
theorem dX8_feed_22 : decode cX8_feed 22 = .ok (.ifCond .lt 15, 3) := by decide +kernel
theorem dX8_feed_25 : decode cX8_feed 25 = .ok (.aload_n 0, 1) := by decide +kernel
theorem dX8_feed_26 : decode cX8_feed 26 = .ok (.getfield 131, 3) := by decide +kernel
theorem dX8_feed_29 : decode cX8_feed 29 = .ok (.aload_n 0, 1) := by decide +kernel
theorem dX8_feed_30 : decode cX8_feed 30 = .ok (.getfield 19, 3) := by decide +kernel
theorem dX8_feed_33 : decode cX8_feed 33 = .ok (.arraylength, 1) := by decide +kernel
theorem dX8_feed_34 : decode cX8_feed 34 = .ok (.if_icmp .lt 10, 3) := by decide +kernel
theorem dX8_feed_37 : decode cX8_feed 37 = .ok (.aload_n 0, 1) := by decide +kernel
theorem dX8_feed_38 : decode cX8_feed 38 = .ok (.bipush (-96), 2) := by decide +kernel
theorem dX8_feed_40 : decode cX8_feed 40 = .ok (.invokevirtual 55, 3) := by decide +kernel
theorem dX8_feed_43 : decode cX8_feed 43 = .ok (.ireturn, 1) := by decide +kernel
theorem dX8_feed_44 : decode cX8_feed 44 = .ok (.aload_n 0, 1) := by decide +kernel
theorem dX8_feed_45 : decode cX8_feed 45 = .ok (.getfield 19, 3) := by decide +kernel
theorem dX8_feed_48 : decode cX8_feed 48 = .ok (.aload_n 0, 1) := by decide +kernel
theorem dX8_feed_49 : decode cX8_feed 49 = .ok (.getfield 131, 3) := by decide +kernel
theorem dX8_feed_52 : decode cX8_feed 52 = .ok (.iload_n 1, 1) := by decide +kernel
theorem dX8_feed_53 : decode cX8_feed 53 = .ok (.iastore, 1) := by decide +kernel
theorem dX8_feed_54 : decode cX8_feed 54 = .ok (.aload_n 0, 1) := by decide +kernel
theorem dX8_feed_55 : decode cX8_feed 55 = .ok (.dup, 1) := by decide +kernel
theorem dX8_feed_56 : decode cX8_feed 56 = .ok (.getfield 131, 3) := by decide +kernel
theorem dX8_feed_59 : decode cX8_feed 59 = .ok (.iconst 1, 1) := by decide +kernel
theorem dX8_feed_60 : decode cX8_feed 60 = .ok (.iadd, 1) := by decide +kernel
theorem dX8_feed_61 : decode cX8_feed 61 = .ok (.putfield 131, 3) := by decide +kernel
theorem dX8_feed_64 : decode cX8_feed 64 = .ok (.aload_n 0, 1) := by decide +kernel
theorem dX8_feed_65 : decode cX8_feed 65 = .ok (.getfield 131, 3) := by decide +kernel
theorem dX8_feed_68 : decode cX8_feed 68 = .ok (.ireturn, 1) := by decide +kernel
theorem dX8_wipe_0 : decode cX8_wipe 0 = .ok (.aload_n 0, 1) := by decide +kernel
theorem dX8_wipe_1 : decode cX8_wipe 1 = .ok (.getfield 131, 3) := by decide +kernel
theorem dX8_wipe_4 : decode cX8_wipe 4 = .ok (.istore_n 1, 1) := by decide +kernel
theorem dX8_wipe_5 : decode cX8_wipe 5 = .ok (.aload_n 0, 1) := by decide +kernel
theorem dX8_wipe_6 : decode cX8_wipe 6 = .ok (.iconst 0, 1) := by decide +kernel
theorem dX8_wipe_7 : decode cX8_wipe 7 = .ok (.putfield 131, 3) := by decide +kernel
theorem dX8_wipe_10 : decode cX8_wipe 10 = .ok (.iload_n 1, 1) := by decide +kernel
theorem dX8_wipe_11 : decode cX8_wipe 11 = .ok (.ireturn, 1) := by decide +kernel
theorem dX8_line_0 : decode cX8_line 0 = .ok (.new 134, 3) := by decide +kernel
theorem dX8_line_3 : decode cX8_line 3 = .ok (.dup, 1) := by decide +kernel
theorem dX8_line_4 : decode cX8_line 4 = .ok (.aload_n 0, 1) := by decide +kernel
theorem dX8_line_5 : decode cX8_line 5 = .ok (.getfield 19, 3) := by decide +kernel
theorem dX8_line_8 : decode cX8_line 8 = .ok (.aload_n 0, 1) := by decide +kernel
theorem dX8_line_9 : decode cX8_line 9 = .ok (.getfield 131, 3) := by decide +kernel
theorem dX8_line_12 : decode cX8_line 12 = .ok (.invokespecial 136, 3) := by decide +kernel
theorem dX8_line_15 : decode cX8_line 15 = .ok (.astore_n 1, 1) := by decide +kernel
theorem dX8_line_16 : decode cX8_line 16 = .ok (.aload_n 1, 1) := by decide +kernel
theorem dX8_line_17 : decode cX8_line 17 = .ok (.invokevirtual 139, 3) := by decide +kernel
theorem dX8_line_20 : decode cX8_line 20 = .ok (.aload_n 0, 1) := by decide +kernel
theorem dX8_line_21 : decode cX8_line 21 = .ok (.iconst 0, 1) := by decide +kernel
theorem dX8_line_22 : decode cX8_line 22 = .ok (.putfield 131, 3) := by decide +kernel
theorem dX8_line_25 : decode cX8_line 25 = .ok (.aload_n 1, 1) := by decide +kernel
theorem dX8_line_26 : decode cX8_line 26 = .ok (.getfield 142, 3) := by decide +kernel
theorem dX8_line_29 : decode cX8_line 29 = .ok (.iconst (-1), 1) := by decide +kernel
theorem dX8_line_30 : decode cX8_line 30 = .ok (.if_icmp .eq 19, 3) := by decide +kernel
theorem dX8_line_33 : decode cX8_line 33 = .ok (.aload_n 0, 1) := by decide +kernel
theorem dX8_line_34 : decode cX8_line 34 = .ok (.bipush (-92), 2) := by decide +kernel
theorem dX8_line_36 : decode cX8_line 36 = .ok (.invokevirtual 55, 3) := by decide +kernel
theorem dX8_line_39 : decode cX8_line 39 = .ok (.pop, 1) := by decide +kernel
theorem dX8_line_40 : decode cX8_line 40 = .ok (.sipush (-600), 3) := by decide +kernel
theorem dX8_line_43 : decode cX8_line 43 = .ok (.aload_n 1, 1) := by decide +kernel
theorem dX8_line_44 : decode cX8_line 44 = .ok (.getfield 142, 3) := by decide +kernel
theorem dX8_line_47 : decode cX8_line 47 = .ok (.isub, 1) := by decide +kernel
theorem dX8_line_48 : decode cX8_line 48 = .ok (.ireturn, 1) := by decide +kernel
theorem dX8_line_49 : decode cX8_line 49 = .ok (.aload_n 0, 1) := by decide +kernel
theorem dX8_line_50 : decode cX8_line 50 = .ok (.getfield 10, 3) := by decide +kernel
theorem dX8_line_53 : decode cX8_line 53 = .ok (.aload_n 1, 1) := by decide +kernel
theorem dX8_line_54 : decode cX8_line 54 = .ok (.invokevirtual 145, 3) := by decide +kernel
theorem dX8_line_57 : decode cX8_line 57 = .ok (.ifCond .eq 15, 3) := by decide +kernel
theorem dX8_line_60 : decode cX8_line 60 = .ok (.aload_n 0, 1) := by decide +kernel
theorem dX8_line_61 : decode cX8_line 61 = .ok (.getfield 10, 3) := by decide +kernel
theorem dX8_line_64 : decode cX8_line 64 = .ok (.getfield 149, 3) := by decide +kernel
theorem dX8_line_67 : decode cX8_line 67 = .ok (.iconst 1, 1) := by decide +kernel
theorem dX8_line_68 : decode cX8_line 68 = .ok (.isub, 1) := by decide +kernel
theorem dX8_line_69 : decode cX8_line 69 = .ok (.goto 9, 3) := by decide +kernel
theorem dX8_line_72 : decode cX8_line 72 = .ok (.aload_n 0, 1) := by decide +kernel
theorem dX8_line_73 : decode cX8_line 73 = .ok (.bipush (-96), 2) := by decide +kernel
theorem dX8_line_75 : decode cX8_line 75 = .ok (.invokevirtual 55, 3) := by decide +kernel
theorem dX8_line_78 : decode cX8_line 78 = .ok (.ireturn, 1) := by decide +kernel
theorem dX8_drop_0 : decode cX8_drop 0 = .ok (.aload_n 0, 1) := by decide +kernel
theorem dX8_drop_1 : decode cX8_drop 1 = .ok (.getfield 10, 3) := by decide +kernel
theorem dX8_drop_4 : decode cX8_drop 4 = .ok (.invokevirtual 152, 3) := by decide +kernel
theorem dX8_drop_7 : decode cX8_drop 7 = .ok (.ifCond .eq 13, 3) := by decide +kernel
theorem dX8_drop_10 : decode cX8_drop 10 = .ok (.aload_n 0, 1) := by decide +kernel
theorem dX8_drop_11 : decode cX8_drop 11 = .ok (.getfield 10, 3) := by decide +kernel
theorem dX8_drop_14 : decode cX8_drop 14 = .ok (.getfield 149, 3) := by decide +kernel
theorem dX8_drop_17 : decode cX8_drop 17 = .ok (.goto 9, 3) := by decide +kernel
theorem dX8_drop_20 : decode cX8_drop 20 = .ok (.aload_n 0, 1) := by decide +kernel
theorem dX8_drop_21 : decode cX8_drop 21 = .ok (.bipush (-95), 2) := by decide +kernel
theorem dX8_drop_23 : decode cX8_drop 23 = .ok (.invokevirtual 55, 3) := by decide +kernel
theorem dX8_drop_26 : decode cX8_drop 26 = .ok (.ireturn, 1) := by decide +kernel
theorem dX8_lineOf_0 : decode cX8_lineOf 0 = .ok (.aload_n 0, 1) := by decide +kernel
theorem dX8_lineOf_1 : decode cX8_lineOf 1 = .ok (.getfield 10, 3) := by decide +kernel
theorem dX8_lineOf_4 : decode cX8_lineOf 4 = .ok (.iload_n 1, 1) := by decide +kernel
theorem dX8_lineOf_5 : decode cX8_lineOf 5 = .ok (.invokevirtual 155, 3) := by decide +kernel
theorem dX8_lineOf_8 : decode cX8_lineOf 8 = .ok (.astore_n 3, 1) := by decide +kernel
theorem dX8_lineOf_9 : decode cX8_lineOf 9 = .ok (.aload_n 3, 1) := by decide +kernel
theorem dX8_lineOf_10 : decode cX8_lineOf 10 = .ok (.ifnonnull 10, 3) := by decide +kernel
theorem dX8_lineOf_13 : decode cX8_lineOf 13 = .ok (.aload_n 0, 1) := by decide +kernel
theorem dX8_lineOf_14 : decode cX8_lineOf 14 = .ok (.bipush (-92), 2) := by decide +kernel
theorem dX8_lineOf_16 : decode cX8_lineOf 16 = .ok (.invokevirtual 55, 3) := by decide +kernel
theorem dX8_lineOf_19 : decode cX8_lineOf 19 = .ok (.ireturn, 1) := by decide +kernel
theorem dX8_lineOf_20 : decode cX8_lineOf 20 = .ok (.iload_n 2, 1) := by decide +kernel
theorem dX8_lineOf_21 : decode cX8_lineOf 21 = .ok (.tableswitch 59 0 3 #[31, 36, 41, 46], 31) := by decide +kernel
theorem dX8_lineOf_52 : decode cX8_lineOf 52 = .ok (.aload_n 3, 1) := by decide +kernel
theorem dX8_lineOf_53 : decode cX8_lineOf 53 = .ok (.getfield 159, 3) := by decide +kernel
theorem dX8_lineOf_56 : decode cX8_lineOf 56 = .ok (.ireturn, 1) := by decide +kernel
theorem dX8_lineOf_57 : decode cX8_lineOf 57 = .ok (.aload_n 3, 1) := by decide +kernel
theorem dX8_lineOf_58 : decode cX8_lineOf 58 = .ok (.getfield 162, 3) := by decide +kernel
theorem dX8_lineOf_61 : decode cX8_lineOf 61 = .ok (.ireturn, 1) := by decide +kernel
theorem dX8_lineOf_62 : decode cX8_lineOf 62 = .ok (.aload_n 3, 1) := by decide +kernel
theorem dX8_lineOf_63 : decode cX8_lineOf 63 = .ok (.invokevirtual 165, 3) := by decide +kernel
theorem dX8_lineOf_66 : decode cX8_lineOf 66 = .ok (.ireturn, 1) := by decide +kernel
theorem dX8_lineOf_67 : decode cX8_lineOf 67 = .ok (.aload_n 3, 1) := by decide +kernel
theorem dX8_lineOf_68 : decode cX8_lineOf 68 = .ok (.getfield 168, 3) := by decide +kernel
theorem dX8_lineOf_71 : decode cX8_lineOf 71 = .ok (.ifCond .eq 7, 3) := by decide +kernel
theorem dX8_lineOf_74 : decode cX8_lineOf 74 = .ok (.iconst 1, 1) := by decide +kernel
theorem dX8_lineOf_75 : decode cX8_lineOf 75 = .ok (.goto 4, 3) := by decide +kernel
theorem dX8_lineOf_78 : decode cX8_lineOf 78 = .ok (.iconst 0, 1) := by decide +kernel
theorem dX8_lineOf_79 : decode cX8_lineOf 79 = .ok (.ireturn, 1) := by decide +kernel
theorem dX8_lineOf_80 : decode cX8_lineOf 80 = .ok (.aload_n 0, 1) := by decide +kernel
theorem dX8_lineOf_81 : decode cX8_lineOf 81 = .ok (.bipush (-92), 2) := by decide +kernel
theorem dX8_lineOf_83 : decode cX8_lineOf 83 = .ok (.invokevirtual 55, 3) := by decide +kernel
theorem dX8_lineOf_86 : decode cX8_lineOf 86 = .ok (.ireturn, 1) := by decide +kernel
theorem dX8_text_0 : decode cX8_text 0 = .ok (.aload_n 0, 1) := by decide +kernel
theorem dX8_text_1 : decode cX8_text 1 = .ok (.getfield 10, 3) := by decide +kernel
theorem dX8_text_4 : decode cX8_text 4 = .ok (.iload_n 1, 1) := by decide +kernel
theorem dX8_text_5 : decode cX8_text 5 = .ok (.invokevirtual 155, 3) := by decide +kernel
theorem dX8_text_8 : decode cX8_text 8 = .ok (.astore_n 3, 1) := by decide +kernel
theorem dX8_text_9 : decode cX8_text 9 = .ok (.aload_n 3, 1) := by decide +kernel
theorem dX8_text_10 : decode cX8_text 10 = .ok (.ifnonnull 12, 3) := by decide +kernel
theorem dX8_text_13 : decode cX8_text 13 = .ok (.aload_n 0, 1) := by decide +kernel
theorem dX8_text_14 : decode cX8_text 14 = .ok (.bipush (-92), 2) := by decide +kernel
theorem dX8_text_16 : decode cX8_text 16 = .ok (.invokevirtual 55, 3) := by decide +kernel
theorem dX8_text_19 : decode cX8_text 19 = .ok (.goto 8, 3) := by decide +kernel
theorem dX8_text_22 : decode cX8_text 22 = .ok (.aload_n 3, 1) := by decide +kernel
theorem dX8_text_23 : decode cX8_text 23 = .ok (.iload_n 2, 1) := by decide +kernel
theorem dX8_text_24 : decode cX8_text 24 = .ok (.invokevirtual 172, 3) := by decide +kernel
theorem dX8_text_27 : decode cX8_text 27 = .ok (.ireturn, 1) := by decide +kernel
theorem dX8_mode_0 : decode cX8_mode 0 = .ok (.iload_n 1, 1) := by decide +kernel
theorem dX8_mode_1 : decode cX8_mode 1 = .ok (.ifCond .eq 15, 3) := by decide +kernel
theorem dX8_mode_4 : decode cX8_mode 4 = .ok (.iload_n 1, 1) := by decide +kernel
theorem dX8_mode_5 : decode cX8_mode 5 = .ok (.iconst 1, 1) := by decide +kernel
theorem dX8_mode_6 : decode cX8_mode 6 = .ok (.if_icmp .eq 10, 3) := by decide +kernel
theorem dX8_mode_9 : decode cX8_mode 9 = .ok (.aload_n 0, 1) := by decide +kernel
theorem dX8_mode_10 : decode cX8_mode 10 = .ok (.bipush (-92), 2) := by decide +kernel
theorem dX8_mode_12 : decode cX8_mode 12 = .ok (.invokevirtual 55, 3) := by decide +kernel
theorem dX8_mode_15 : decode cX8_mode 15 = .ok (.ireturn, 1) := by decide +kernel
theorem dX8_mode_16 : decode cX8_mode 16 = .ok (.aload_n 0, 1) := by decide +kernel
theorem dX8_mode_17 : decode cX8_mode 17 = .ok (.getfield 10, 3) := by decide +kernel
theorem dX8_mode_20 : decode cX8_mode 20 = .ok (.getfield 175, 3) := by decide +kernel
theorem dX8_mode_23 : decode cX8_mode 23 = .ok (.ifCond .le 10, 3) := by decide +kernel
theorem dX8_mode_26 : decode cX8_mode 26 = .ok (.aload_n 0, 1) := by decide +kernel
theorem dX8_mode_27 : decode cX8_mode 27 = .ok (.bipush (-95), 2) := by decide +kernel
theorem dX8_mode_29 : decode cX8_mode 29 = .ok (.invokevirtual 55, 3) := by decide +kernel
theorem dX8_mode_32 : decode cX8_mode 32 = .ok (.ireturn, 1) := by decide +kernel
theorem dX8_mode_33 : decode cX8_mode 33 = .ok (.aload_n 0, 1) := by decide +kernel
theorem dX8_mode_34 : decode cX8_mode 34 = .ok (.getfield 10, 3) := by decide +kernel
theorem dX8_mode_37 : decode cX8_mode 37 = .ok (.getfield 178, 3) := by decide +kernel
theorem dX8_mode_40 : decode cX8_mode 40 = .ok (.istore_n 2, 1) := by decide +kernel
theorem dX8_mode_41 : decode cX8_mode 41 = .ok (.aload_n 0, 1) := by decide +kernel
theorem dX8_mode_42 : decode cX8_mode 42 = .ok (.getfield 10, 3) := by decide +kernel
theorem dX8_mode_45 : decode cX8_mode 45 = .ok (.iload_n 1, 1) := by decide +kernel
theorem dX8_mode_46 : decode cX8_mode 46 = .ok (.putfield 178, 3) := by decide +kernel
theorem dX8_mode_49 : decode cX8_mode 49 = .ok (.iload_n 2, 1) := by decide +kernel
theorem dX8_mode_50 : decode cX8_mode 50 = .ok (.ireturn, 1) := by decide +kernel
theorem dX8_cast_0 : decode cX8_cast 0 = .ok (.iload_n 1, 1) := by decide +kernel
theorem dX8_cast_1 : decode cX8_cast 1 = .ok (.iconst 1, 1) := by decide +kernel
theorem dX8_cast_2 : decode cX8_cast 2 = .ok (.if_icmp .lt 9, 3) := by decide +kernel
theorem dX8_cast_5 : decode cX8_cast 5 = .ok (.iload_n 1, 1) := by decide +kernel
theorem dX8_cast_6 : decode cX8_cast 6 = .ok (.bipush 60, 2) := by decide +kernel
theorem dX8_cast_8 : decode cX8_cast 8 = .ok (.if_icmp .le 10, 3) := by decide +kernel
theorem dX8_cast_11 : decode cX8_cast 11 = .ok (.aload_n 0, 1) := by decide +kernel
theorem dX8_cast_12 : decode cX8_cast 12 = .ok (.bipush (-92), 2) := by decide +kernel
theorem dX8_cast_14 : decode cX8_cast 14 = .ok (.invokevirtual 55, 3) := by decide +kernel
theorem dX8_cast_17 : decode cX8_cast 17 = .ok (.ireturn, 1) := by decide +kernel
theorem dX8_cast_18 : decode cX8_cast 18 = .ok (.aload_n 0, 1) := by decide +kernel
theorem dX8_cast_19 : decode cX8_cast 19 = .ok (.getfield 10, 3) := by decide +kernel
theorem dX8_cast_22 : decode cX8_cast 22 = .ok (.getfield 181, 3) := by decide +kernel
theorem dX8_cast_25 : decode cX8_cast 25 = .ok (.ifCond .gt 13, 3) := by decide +kernel
theorem dX8_cast_28 : decode cX8_cast 28 = .ok (.aload_n 0, 1) := by decide +kernel
theorem dX8_cast_29 : decode cX8_cast 29 = .ok (.getfield 10, 3) := by decide +kernel
theorem dX8_cast_32 : decode cX8_cast 32 = .ok (.getfield 175, 3) := by decide +kernel
theorem dX8_cast_35 : decode cX8_cast 35 = .ok (.ifCond .le 10, 3) := by decide +kernel
theorem dX8_cast_38 : decode cX8_cast 38 = .ok (.aload_n 0, 1) := by decide +kernel
theorem dX8_cast_39 : decode cX8_cast 39 = .ok (.bipush (-95), 2) := by decide +kernel
theorem dX8_cast_41 : decode cX8_cast 41 = .ok (.invokevirtual 55, 3) := by decide +kernel
theorem dX8_cast_44 : decode cX8_cast 44 = .ok (.ireturn, 1) := by decide +kernel
theorem dX8_cast_45 : decode cX8_cast 45 = .ok (.aload_n 0, 1) := by decide +kernel
theorem dX8_cast_46 : decode cX8_cast 46 = .ok (.getfield 10, 3) := by decide +kernel
theorem dX8_cast_49 : decode cX8_cast 49 = .ok (.iload_n 1, 1) := by decide +kernel
theorem dX8_cast_50 : decode cX8_cast 50 = .ok (.putfield 181, 3) := by decide +kernel
theorem dX8_cast_53 : decode cX8_cast 53 = .ok (.aload_n 0, 1) := by decide +kernel
theorem dX8_cast_54 : decode cX8_cast 54 = .ok (.getfield 10, 3) := by decide +kernel
theorem dX8_cast_57 : decode cX8_cast 57 = .ok (.iconst 0, 1) := by decide +kernel
theorem dX8_cast_58 : decode cX8_cast 58 = .ok (.putfield 184, 3) := by decide +kernel
theorem dX8_cast_61 : decode cX8_cast 61 = .ok (.iload_n 1, 1) := by decide +kernel
theorem dX8_cast_62 : decode cX8_cast 62 = .ok (.ireturn, 1) := by decide +kernel
theorem dX8_work_0 : decode cX8_work 0 = .ok (.aload_n 0, 1) := by decide +kernel
theorem dX8_work_1 : decode cX8_work 1 = .ok (.getfield 10, 3) := by decide +kernel
theorem dX8_work_4 : decode cX8_work 4 = .ok (.iload_n 1, 1) := by decide +kernel
theorem dX8_work_5 : decode cX8_work 5 = .ok (.invokevirtual 155, 3) := by decide +kernel
theorem dX8_work_8 : decode cX8_work 8 = .ok (.astore_n 2, 1) := by decide +kernel
theorem dX8_work_9 : decode cX8_work 9 = .ok (.aload_n 2, 1) := by decide +kernel
theorem dX8_work_10 : decode cX8_work 10 = .ok (.ifnonnull 10, 3) := by decide +kernel
theorem dX8_work_13 : decode cX8_work 13 = .ok (.aload_n 0, 1) := by decide +kernel
theorem dX8_work_14 : decode cX8_work 14 = .ok (.bipush (-92), 2) := by decide +kernel
theorem dX8_work_16 : decode cX8_work 16 = .ok (.invokevirtual 55, 3) := by decide +kernel
theorem dX8_work_19 : decode cX8_work 19 = .ok (.ireturn, 1) := by decide +kernel
theorem dX8_work_20 : decode cX8_work 20 = .ok (.aload_n 0, 1) := by decide +kernel
theorem dX8_work_21 : decode cX8_work 21 = .ok (.aload_n 2, 1) := by decide +kernel
theorem dX8_work_22 : decode cX8_work 22 = .ok (.iload_n 1, 1) := by decide +kernel
theorem dX8_work_23 : decode cX8_work 23 = .ok (.invokevirtual 187, 3) := by decide +kernel
theorem dX8_work_26 : decode cX8_work 26 = .ok (.ifCond .ne 22, 3) := by decide +kernel
theorem dX8_work_29 : decode cX8_work 29 = .ok (.aload_n 0, 1) := by decide +kernel
theorem dX8_work_30 : decode cX8_work 30 = .ok (.getfield 39, 3) := by decide +kernel
theorem dX8_work_33 : decode cX8_work 33 = .ok (.invokevirtual 191, 3) := by decide +kernel
theorem dX8_work_36 : decode cX8_work 36 = .ok (.aload_n 0, 1) := by decide +kernel
theorem dX8_work_37 : decode cX8_work 37 = .ok (.iload_n 1, 1) := by decide +kernel
theorem dX8_work_38 : decode cX8_work 38 = .ok (.invokevirtual 194, 3) := by decide +kernel
theorem dX8_work_41 : decode cX8_work 41 = .ok (.aload_n 0, 1) := by decide +kernel
theorem dX8_work_42 : decode cX8_work 42 = .ok (.bipush (-95), 2) := by decide +kernel
theorem dX8_work_44 : decode cX8_work 44 = .ok (.invokevirtual 55, 3) := by decide +kernel
theorem dX8_work_47 : decode cX8_work 47 = .ok (.ireturn, 1) := by decide +kernel
theorem dX8_work_48 : decode cX8_work 48 = .ok (.aload_n 0, 1) := by decide +kernel
theorem dX8_work_49 : decode cX8_work 49 = .ok (.getfield 10, 3) := by decide +kernel
theorem dX8_work_52 : decode cX8_work 52 = .ok (.getfield 181, 3) := by decide +kernel
theorem dX8_work_55 : decode cX8_work 55 = .ok (.ireturn, 1) := by decide +kernel
theorem dX8_run_0 : decode cX8_run 0 = .ok (.aload_n 0, 1) := by decide +kernel
theorem dX8_run_1 : decode cX8_run 1 = .ok (.getfield 10, 3) := by decide +kernel
theorem dX8_run_4 : decode cX8_run 4 = .ok (.iload_n 1, 1) := by decide +kernel
theorem dX8_run_5 : decode cX8_run 5 = .ok (.iload_n 2, 1) := by decide +kernel
theorem dX8_run_6 : decode cX8_run 6 = .ok (.invokevirtual 197, 3) := by decide +kernel
theorem dX8_run_9 : decode cX8_run 9 = .ok (.ifCond .eq 14, 3) := by decide +kernel
theorem dX8_run_12 : decode cX8_run 12 = .ok (.iload_n 3, 1) := by decide +kernel
theorem dX8_run_13 : decode cX8_run 13 = .ok (.iconst 1, 1) := by decide +kernel
theorem dX8_run_14 : decode cX8_run 14 = .ok (.if_icmp .lt 9, 3) := by decide +kernel
theorem dX8_run_17 : decode cX8_run 17 = .ok (.iload_n 3, 1) := by decide +kernel
theorem dX8_run_18 : decode cX8_run 18 = .ok (.bipush 20, 2) := by decide +kernel
theorem dX8_run_20 : decode cX8_run 20 = .ok (.if_icmp .le 10, 3) := by decide +kernel
theorem dX8_run_23 : decode cX8_run 23 = .ok (.aload_n 0, 1) := by decide +kernel
theorem dX8_run_24 : decode cX8_run 24 = .ok (.bipush (-92), 2) := by decide +kernel
theorem dX8_run_26 : decode cX8_run 26 = .ok (.invokevirtual 55, 3) := by decide +kernel
theorem dX8_run_29 : decode cX8_run 29 = .ok (.ireturn, 1) := by decide +kernel
theorem dX8_run_30 : decode cX8_run 30 = .ok (.iconst 0, 1) := by decide +kernel
theorem dX8_run_31 : decode cX8_run 31 = .ok (.istore 4, 2) := by decide +kernel
theorem dX8_run_33 : decode cX8_run 33 = .ok (.iconst 1, 1) := by decide +kernel
theorem dX8_run_34 : decode cX8_run 34 = .ok (.istore 5, 2) := by decide +kernel
theorem dX8_run_36 : decode cX8_run 36 = .ok (.iload 5, 2) := by decide +kernel
theorem dX8_run_38 : decode cX8_run 38 = .ok (.iload_n 3, 1) := by decide +kernel
theorem dX8_run_39 : decode cX8_run 39 = .ok (.if_icmp .gt 87, 3) := by decide +kernel
theorem dX8_run_42 : decode cX8_run 42 = .ok (.iload_n 1, 1) := by decide +kernel
theorem dX8_run_43 : decode cX8_run 43 = .ok (.istore 6, 2) := by decide +kernel
theorem dX8_run_45 : decode cX8_run 45 = .ok (.iload 6, 2) := by decide +kernel
theorem dX8_run_47 : decode cX8_run 47 = .ok (.iload_n 2, 1) := by decide +kernel
theorem dX8_run_48 : decode cX8_run 48 = .ok (.if_icmp .gt 72, 3) := by decide +kernel
theorem dX8_run_51 : decode cX8_run 51 = .ok (.aload_n 0, 1) := by decide +kernel
theorem dX8_run_52 : decode cX8_run 52 = .ok (.getfield 10, 3) := by decide +kernel
theorem dX8_run_55 : decode cX8_run 55 = .ok (.iload 6, 2) := by decide +kernel
theorem dX8_run_57 : decode cX8_run 57 = .ok (.invokevirtual 155, 3) := by decide +kernel
theorem dX8_run_60 : decode cX8_run 60 = .ok (.astore 7, 2) := by decide +kernel
theorem dX8_run_62 : decode cX8_run 62 = .ok (.aload 7, 2) := by decide +kernel
theorem dX8_run_64 : decode cX8_run 64 = .ok (.ifnull 14, 3) := by decide +kernel
theorem dX8_run_67 : decode cX8_run 67 = .ok (.aload_n 0, 1) := by decide +kernel
theorem dX8_run_68 : decode cX8_run 68 = .ok (.aload 7, 2) := by decide +kernel
theorem dX8_run_70 : decode cX8_run 70 = .ok (.iload 6, 2) := by decide +kernel
theorem dX8_run_72 : decode cX8_run 72 = .ok (.invokevirtual 187, 3) := by decide +kernel
theorem dX8_run_75 : decode cX8_run 75 = .ok (.ifCond .ne 36, 3) := by decide +kernel
theorem dX8_run_78 : decode cX8_run 78 = .ok (.aload_n 0, 1) := by decide +kernel
theorem dX8_run_79 : decode cX8_run 79 = .ok (.getfield 39, 3) := by decide +kernel
theorem dX8_run_82 : decode cX8_run 82 = .ok (.invokevirtual 191, 3) := by decide +kernel
theorem dX8_run_85 : decode cX8_run 85 = .ok (.aload_n 0, 1) := by decide +kernel
theorem dX8_run_86 : decode cX8_run 86 = .ok (.getfield 39, 3) := by decide +kernel
theorem dX8_run_89 : decode cX8_run 89 = .ok (.bipush 12, 2) := by decide +kernel
theorem dX8_run_91 : decode cX8_run 91 = .ok (.iload 5, 2) := by decide +kernel
theorem dX8_run_93 : decode cX8_run 93 = .ok (.iload 6, 2) := by decide +kernel
theorem dX8_run_95 : decode cX8_run 95 = .ok (.invokevirtual 200, 3) := by decide +kernel
theorem dX8_run_98 : decode cX8_run 98 = .ok (.aload_n 0, 1) := by decide +kernel
theorem dX8_run_99 : decode cX8_run 99 = .ok (.iload 6, 2) := by decide +kernel
theorem dX8_run_101 : decode cX8_run 101 = .ok (.invokevirtual 194, 3) := by decide +kernel
theorem dX8_run_104 : decode cX8_run 104 = .ok (.aload_n 0, 1) := by decide +kernel
theorem dX8_run_105 : decode cX8_run 105 = .ok (.bipush (-95), 2) := by decide +kernel
theorem dX8_run_107 : decode cX8_run 107 = .ok (.invokevirtual 55, 3) := by decide +kernel
theorem dX8_run_110 : decode cX8_run 110 = .ok (.ireturn, 1) := by decide +kernel
theorem dX8_run_111 : decode cX8_run 111 = .ok (.iinc 4 1, 3) := by decide +kernel
theorem dX8_run_114 : decode cX8_run 114 = .ok (.iinc 6 1, 3) := by decide +kernel
theorem dX8_run_117 : decode cX8_run 117 = .ok (.goto (-72), 3) := by decide +kernel
theorem dX8_run_120 : decode cX8_run 120 = .ok (.iinc 5 1, 3) := by decide +kernel
theorem dX8_run_123 : decode cX8_run 123 = .ok (.goto (-87), 3) := by decide +kernel
theorem dX8_run_126 : decode cX8_run 126 = .ok (.iload 4, 2) := by decide +kernel
theorem dX8_run_128 : decode cX8_run 128 = .ok (.ireturn, 1) := by decide +kernel
theorem dX8_rip_0 : decode cX8_rip 0 = .ok (.iload_n 1, 1) := by decide +kernel
theorem dX8_rip_1 : decode cX8_rip 1 = .ok (.iconst 1, 1) := by decide +kernel
theorem dX8_rip_2 : decode cX8_rip 2 = .ok (.if_icmp .lt 14, 3) := by decide +kernel
theorem dX8_rip_5 : decode cX8_rip 5 = .ok (.iload_n 1, 1) := by decide +kernel
theorem dX8_rip_6 : decode cX8_rip 6 = .ok (.aload_n 0, 1) := by decide +kernel
theorem dX8_rip_7 : decode cX8_rip 7 = .ok (.getfield 10, 3) := by decide +kernel
theorem dX8_rip_10 : decode cX8_rip 10 = .ok (.getfield 175, 3) := by decide +kernel
theorem dX8_rip_13 : decode cX8_rip 13 = .ok (.if_icmp .le 10, 3) := by decide +kernel
theorem dX8_rip_16 : decode cX8_rip 16 = .ok (.aload_n 0, 1) := by decide +kernel
theorem dX8_rip_17 : decode cX8_rip 17 = .ok (.bipush (-92), 2) := by decide +kernel
theorem dX8_rip_19 : decode cX8_rip 19 = .ok (.invokevirtual 55, 3) := by decide +kernel
theorem dX8_rip_22 : decode cX8_rip 22 = .ok (.ireturn, 1) := by decide +kernel
theorem dX8_rip_23 : decode cX8_rip 23 = .ok (.aload_n 0, 1) := by decide +kernel
theorem dX8_rip_24 : decode cX8_rip 24 = .ok (.getfield 10, 3) := by decide +kernel
theorem dX8_rip_27 : decode cX8_rip 27 = .ok (.iload_n 1, 1) := by decide +kernel
theorem dX8_rip_28 : decode cX8_rip 28 = .ok (.invokevirtual 204, 3) := by decide +kernel
theorem dX8_rip_31 : decode cX8_rip 31 = .ok (.aload_n 0, 1) := by decide +kernel
theorem dX8_rip_32 : decode cX8_rip 32 = .ok (.getfield 10, 3) := by decide +kernel
theorem dX8_rip_35 : decode cX8_rip 35 = .ok (.getfield 175, 3) := by decide +kernel
theorem dX8_rip_38 : decode cX8_rip 38 = .ok (.ireturn, 1) := by decide +kernel
theorem dX8_causes_0 : decode cX8_causes 0 = .ok (.aload_n 0, 1) := by decide +kernel
theorem dX8_causes_1 : decode cX8_causes 1 = .ok (.getfield 39, 3) := by decide +kernel
theorem dX8_causes_4 : decode cX8_causes 4 = .ok (.getfield 207, 3) := by decide +kernel
theorem dX8_causes_7 : decode cX8_causes 7 = .ok (.ireturn, 1) := by decide +kernel
theorem dX8_why_0 : decode cX8_why 0 = .ok (.aload_n 0, 1) := by decide +kernel
theorem dX8_why_1 : decode cX8_why 1 = .ok (.getfield 39, 3) := by decide +kernel
theorem dX8_why_4 : decode cX8_why 4 = .ok (.iload_n 1, 1) := by decide +kernel
theorem dX8_why_5 : decode cX8_why 5 = .ok (.iload_n 2, 1) := by decide +kernel
theorem dX8_why_6 : decode cX8_why 6 = .ok (.invokevirtual 210, 3) := by decide +kernel
theorem dX8_why_9 : decode cX8_why 9 = .ok (.ifCond .eq 15, 3) := by decide +kernel
theorem dX8_why_12 : decode cX8_why 12 = .ok (.aload_n 0, 1) := by decide +kernel
theorem dX8_why_13 : decode cX8_why 13 = .ok (.getfield 39, 3) := by decide +kernel
theorem dX8_why_16 : decode cX8_why 16 = .ok (.iload_n 1, 1) := by decide +kernel
theorem dX8_why_17 : decode cX8_why 17 = .ok (.iload_n 2, 1) := by decide +kernel
theorem dX8_why_18 : decode cX8_why 18 = .ok (.invokevirtual 213, 3) := by decide +kernel
theorem dX8_why_21 : decode cX8_why 21 = .ok (.goto 9, 3) := by decide +kernel
theorem dX8_why_24 : decode cX8_why 24 = .ok (.aload_n 0, 1) := by decide +kernel
theorem dX8_why_25 : decode cX8_why 25 = .ok (.bipush (-92), 2) := by decide +kernel
theorem dX8_why_27 : decode cX8_why 27 = .ok (.invokevirtual 55, 3) := by decide +kernel
theorem dX8_why_30 : decode cX8_why 30 = .ok (.ireturn, 1) := by decide +kernel
theorem dX8_would_0 : decode cX8_would 0 = .ok (.aload_n 0, 1) := by decide +kernel
theorem dX8_would_1 : decode cX8_would 1 = .ok (.getfield 10, 3) := by decide +kernel
theorem dX8_would_4 : decode cX8_would 4 = .ok (.iload_n 1, 1) := by decide +kernel
theorem dX8_would_5 : decode cX8_would 5 = .ok (.invokevirtual 155, 3) := by decide +kernel
theorem dX8_would_8 : decode cX8_would 8 = .ok (.astore 4, 2) := by decide +kernel
theorem dX8_would_10 : decode cX8_would 10 = .ok (.aload 4, 2) := by decide +kernel
theorem dX8_would_12 : decode cX8_would 12 = .ok (.ifnull 22, 3) := by decide +kernel
theorem dX8_would_15 : decode cX8_would 15 = .ok (.iload_n 2, 1) := by decide +kernel
theorem dX8_would_16 : decode cX8_would 16 = .ok (.ifCond .lt 18, 3) := by decide +kernel
theorem dX8_would_19 : decode cX8_would 19 = .ok (.iload_n 2, 1) := by decide +kernel
theorem dX8_would_20 : decode cX8_would 20 = .ok (.bipush 60, 2) := by decide +kernel
theorem dX8_would_22 : decode cX8_would 22 = .ok (.if_icmp .gt 12, 3) := by decide +kernel
theorem dX8_would_25 : decode cX8_would 25 = .ok (.iload_n 3, 1) := by decide +kernel
theorem dX8_would_26 : decode cX8_would 26 = .ok (.ifCond .lt 8, 3) := by decide +kernel
theorem dX8_would_29 : decode cX8_would 29 = .ok (.iload_n 3, 1) := by decide +kernel
theorem dX8_would_30 : decode cX8_would 30 = .ok (.iconst 2, 1) := by decide +kernel
theorem dX8_would_31 : decode cX8_would 31 = .ok (.if_icmp .le 10, 3) := by decide +kernel
theorem dX8_would_34 : decode cX8_would 34 = .ok (.aload_n 0, 1) := by decide +kernel
theorem dX8_would_35 : decode cX8_would 35 = .ok (.bipush (-92), 2) := by decide +kernel
theorem dX8_would_37 : decode cX8_would 37 = .ok (.invokevirtual 55, 3) := by decide +kernel
theorem dX8_would_40 : decode cX8_would 40 = .ok (.ireturn, 1) := by decide +kernel
theorem dX8_would_41 : decode cX8_would 41 = .ok (.aload_n 0, 1) := by decide +kernel
theorem dX8_would_42 : decode cX8_would 42 = .ok (.getfield 32, 3) := by decide +kernel
theorem dX8_would_45 : decode cX8_would 45 = .ok (.aload 4, 2) := by decide +kernel
theorem dX8_would_47 : decode cX8_would 47 = .ok (.iload_n 2, 1) := by decide +kernel
theorem dX8_would_48 : decode cX8_would 48 = .ok (.invokevirtual 216, 3) := by decide +kernel
theorem dX8_would_51 : decode cX8_would 51 = .ok (.aload_n 0, 1) := by decide +kernel
theorem dX8_would_52 : decode cX8_would 52 = .ok (.getfield 32, 3) := by decide +kernel
theorem dX8_would_55 : decode cX8_would 55 = .ok (.invokevirtual 220, 3) := by decide +kernel
theorem dX8_would_58 : decode cX8_would 58 = .ok (.ifCond .eq 5, 3) := by decide +kernel
theorem dX8_would_61 : decode cX8_would 61 = .ok (.iconst (-1), 1) := by decide +kernel
theorem dX8_would_62 : decode cX8_would 62 = .ok (.ireturn, 1) := by decide +kernel
theorem dX8_would_63 : decode cX8_would 63 = .ok (.iload_n 3, 1) := by decide +kernel
theorem dX8_would_64 : decode cX8_would 64 = .ok (.lookupswitch 47 #[(0, 28), (1, 36)], 28) := by decide +kernel
theorem dX8_would_92 : decode cX8_would 92 = .ok (.aload_n 0, 1) := by decide +kernel
theorem dX8_would_93 : decode cX8_would 93 = .ok (.getfield 32, 3) := by decide +kernel
theorem dX8_would_96 : decode cX8_would 96 = .ok (.getfield 223, 3) := by decide +kernel
theorem dX8_would_99 : decode cX8_would 99 = .ok (.ireturn, 1) := by decide +kernel
theorem dX8_would_100 : decode cX8_would 100 = .ok (.aload_n 0, 1) := by decide +kernel
theorem dX8_would_101 : decode cX8_would 101 = .ok (.getfield 32, 3) := by decide +kernel
theorem dX8_would_104 : decode cX8_would 104 = .ok (.getfield 226, 3) := by decide +kernel
theorem dX8_would_107 : decode cX8_would 107 = .ok (.getfield 227, 3) := by decide +kernel
theorem dX8_would_110 : decode cX8_would 110 = .ok (.ireturn, 1) := by decide +kernel
theorem dX8_would_111 : decode cX8_would 111 = .ok (.aload_n 0, 1) := by decide +kernel
theorem dX8_would_112 : decode cX8_would 112 = .ok (.getfield 32, 3) := by decide +kernel
theorem dX8_would_115 : decode cX8_would 115 = .ok (.getfield 226, 3) := by decide +kernel
theorem dX8_would_118 : decode cX8_would 118 = .ok (.invokevirtual 229, 3) := by decide +kernel
theorem dX8_would_121 : decode cX8_would 121 = .ok (.ireturn, 1) := by decide +kernel
theorem dX8_hitch_0 : decode cX8_hitch 0 = .ok (.aload_n 0, 1) := by decide +kernel
theorem dX8_hitch_1 : decode cX8_hitch 1 = .ok (.getfield 10, 3) := by decide +kernel
theorem dX8_hitch_4 : decode cX8_hitch 4 = .ok (.iload_n 1, 1) := by decide +kernel
theorem dX8_hitch_5 : decode cX8_hitch 5 = .ok (.invokevirtual 155, 3) := by decide +kernel
theorem dX8_hitch_8 : decode cX8_hitch 8 = .ok (.astore_n 3, 1) := by decide +kernel
theorem dX8_hitch_9 : decode cX8_hitch 9 = .ok (.aload_n 3, 1) := by decide +kernel
theorem dX8_hitch_10 : decode cX8_hitch 10 = .ok (.ifnull 13, 3) := by decide +kernel
theorem dX8_hitch_13 : decode cX8_hitch 13 = .ok (.iload_n 2, 1) := by decide +kernel
theorem dX8_hitch_14 : decode cX8_hitch 14 = .ok (.ifCond .lt 9, 3) := by decide +kernel
theorem dX8_hitch_17 : decode cX8_hitch 17 = .ok (.iload_n 2, 1) := by decide +kernel
theorem dX8_hitch_18 : decode cX8_hitch 18 = .ok (.bipush 60, 2) := by decide +kernel
theorem dX8_hitch_20 : decode cX8_hitch 20 = .ok (.if_icmp .le 10, 3) := by decide +kernel
theorem dX8_hitch_23 : decode cX8_hitch 23 = .ok (.aload_n 0, 1) := by decide +kernel
theorem dX8_hitch_24 : decode cX8_hitch 24 = .ok (.bipush (-92), 2) := by decide +kernel
theorem dX8_hitch_26 : decode cX8_hitch 26 = .ok (.invokevirtual 55, 3) := by decide +kernel
theorem dX8_hitch_29 : decode cX8_hitch 29 = .ok (.ireturn, 1) := by decide +kernel
theorem dX8_hitch_30 : decode cX8_hitch 30 = .ok (.aload_n 0, 1) := by decide +kernel
theorem dX8_hitch_31 : decode cX8_hitch 31 = .ok (.getfield 32, 3) := by decide +kernel
theorem dX8_hitch_34 : decode cX8_hitch 34 = .ok (.aload_n 3, 1) := by decide +kernel
theorem dX8_hitch_35 : decode cX8_hitch 35 = .ok (.iload_n 2, 1) := by decide +kernel
theorem dX8_hitch_36 : decode cX8_hitch 36 = .ok (.invokevirtual 216, 3) := by decide +kernel
theorem dX8_hitch_39 : decode cX8_hitch 39 = .ok (.aload_n 0, 1) := by decide +kernel
theorem dX8_hitch_40 : decode cX8_hitch 40 = .ok (.getfield 32, 3) := by decide +kernel
theorem dX8_hitch_43 : decode cX8_hitch 43 = .ok (.invokevirtual 220, 3) := by decide +kernel
theorem dX8_hitch_46 : decode cX8_hitch 46 = .ok (.ifCond .eq 13, 3) := by decide +kernel
theorem dX8_hitch_49 : decode cX8_hitch 49 = .ok (.aload_n 0, 1) := by decide +kernel
theorem dX8_hitch_50 : decode cX8_hitch 50 = .ok (.getfield 32, 3) := by decide +kernel
theorem dX8_hitch_53 : decode cX8_hitch 53 = .ok (.getfield 232, 3) := by decide +kernel
theorem dX8_hitch_56 : decode cX8_hitch 56 = .ok (.goto 4, 3) := by decide +kernel
theorem dX8_hitch_59 : decode cX8_hitch 59 = .ok (.iconst (-1), 1) := by decide +kernel
theorem dX8_hitch_60 : decode cX8_hitch 60 = .ok (.ireturn, 1) := by decide +kernel
theorem dX8_fits_0 : decode cX8_fits 0 = .ok (.aload_n 0, 1) := by decide +kernel
theorem dX8_fits_1 : decode cX8_fits 1 = .ok (.getfield 10, 3) := by decide +kernel
theorem dX8_fits_4 : decode cX8_fits 4 = .ok (.iload_n 1, 1) := by decide +kernel
theorem dX8_fits_5 : decode cX8_fits 5 = .ok (.invokevirtual 155, 3) := by decide +kernel
theorem dX8_fits_8 : decode cX8_fits 8 = .ok (.astore_n 2, 1) := by decide +kernel
theorem dX8_fits_9 : decode cX8_fits 9 = .ok (.aload_n 2, 1) := by decide +kernel
theorem dX8_fits_10 : decode cX8_fits 10 = .ok (.ifnonnull 10, 3) := by decide +kernel
theorem dX8_fits_13 : decode cX8_fits 13 = .ok (.aload_n 0, 1) := by decide +kernel
theorem dX8_fits_14 : decode cX8_fits 14 = .ok (.bipush (-92), 2) := by decide +kernel
theorem dX8_fits_16 : decode cX8_fits 16 = .ok (.invokevirtual 235, 3) := by decide +kernel
theorem dX8_fits_19 : decode cX8_fits 19 = .ok (.lreturn, 1) := by decide +kernel
theorem dX8_fits_20 : decode cX8_fits 20 = .ok (.lconst 0, 1) := by decide +kernel
theorem dX8_fits_21 : decode cX8_fits 21 = .ok (.lstore_n 3, 1) := by decide +kernel
theorem dX8_fits_22 : decode cX8_fits 22 = .ok (.iconst 0, 1) := by decide +kernel
theorem dX8_fits_23 : decode cX8_fits 23 = .ok (.istore 5, 2) := by decide +kernel
theorem dX8_fits_25 : decode cX8_fits 25 = .ok (.iload 5, 2) := by decide +kernel
theorem dX8_fits_27 : decode cX8_fits 27 = .ok (.bipush 60, 2) := by decide +kernel
theorem dX8_fits_29 : decode cX8_fits 29 = .ok (.if_icmp .gt 36, 3) := by decide +kernel
theorem dX8_fits_32 : decode cX8_fits 32 = .ok (.aload_n 0, 1) := by decide +kernel
theorem dX8_fits_33 : decode cX8_fits 33 = .ok (.getfield 32, 3) := by decide +kernel
theorem dX8_fits_36 : decode cX8_fits 36 = .ok (.aload_n 2, 1) := by decide +kernel
theorem dX8_fits_37 : decode cX8_fits 37 = .ok (.iload 5, 2) := by decide +kernel
theorem dX8_fits_39 : decode cX8_fits 39 = .ok (.invokevirtual 216, 3) := by decide +kernel
theorem dX8_fits_42 : decode cX8_fits 42 = .ok (.aload_n 0, 1) := by decide +kernel
theorem dX8_fits_43 : decode cX8_fits 43 = .ok (.getfield 32, 3) := by decide +kernel
theorem dX8_fits_46 : decode cX8_fits 46 = .ok (.invokevirtual 220, 3) := by decide +kernel
theorem dX8_fits_49 : decode cX8_fits 49 = .ok (.ifCond .ne 10, 3) := by decide +kernel
theorem dX8_fits_52 : decode cX8_fits 52 = .ok (.lload_n 3, 1) := by decide +kernel
theorem dX8_fits_53 : decode cX8_fits 53 = .ok (.lconst 1, 1) := by decide +kernel
theorem dX8_fits_54 : decode cX8_fits 54 = .ok (.iload 5, 2) := by decide +kernel
theorem dX8_fits_56 : decode cX8_fits 56 = .ok (.lshl, 1) := by decide +kernel
theorem dX8_fits_57 : decode cX8_fits 57 = .ok (.lor, 1) := by decide +kernel
theorem dX8_fits_58 : decode cX8_fits 58 = .ok (.lstore_n 3, 1) := by decide +kernel
theorem dX8_fits_59 : decode cX8_fits 59 = .ok (.iinc 5 1, 3) := by decide +kernel
theorem dX8_fits_62 : decode cX8_fits 62 = .ok (.goto (-37), 3) := by decide +kernel
theorem dX8_fits_65 : decode cX8_fits 65 = .ok (.lload_n 3, 1) := by decide +kernel
theorem dX8_fits_66 : decode cX8_fits 66 = .ok (.lreturn, 1) := by decide +kernel
theorem dX8_least_0 : decode cX8_least 0 = .ok (.iconst 0, 1) := by decide +kernel
theorem dX8_least_1 : decode cX8_least 1 = .ok (.istore_n 1, 1) := by decide +kernel
theorem dX8_least_2 : decode cX8_least 2 = .ok (.iload_n 1, 1) := by decide +kernel
theorem dX8_least_3 : decode cX8_least 3 = .ok (.bipush 60, 2) := by decide +kernel
theorem dX8_least_5 : decode cX8_least 5 = .ok (.if_icmp .gt 30, 3) := by decide +kernel
theorem dX8_least_8 : decode cX8_least 8 = .ok (.aload_n 0, 1) := by decide +kernel
theorem dX8_least_9 : decode cX8_least 9 = .ok (.iconst 0, 1) := by decide +kernel
theorem dX8_least_10 : decode cX8_least 10 = .ok (.aload_n 0, 1) := by decide +kernel
theorem dX8_least_11 : decode cX8_least 11 = .ok (.getfield 10, 3) := by decide +kernel
theorem dX8_least_14 : decode cX8_least 14 = .ok (.getfield 149, 3) := by decide +kernel
theorem dX8_least_17 : decode cX8_least 17 = .ok (.iconst 1, 1) := by decide +kernel
theorem dX8_least_18 : decode cX8_least 18 = .ok (.isub, 1) := by decide +kernel
theorem dX8_least_19 : decode cX8_least 19 = .ok (.iload_n 1, 1) := by decide +kernel
theorem dX8_least_20 : decode cX8_least 20 = .ok (.invokevirtual 238, 3) := by decide +kernel
theorem dX8_least_23 : decode cX8_least 23 = .ok (.iconst (-1), 1) := by decide +kernel
theorem dX8_least_24 : decode cX8_least 24 = .ok (.if_icmp .eq 5, 3) := by decide +kernel
theorem dX8_least_27 : decode cX8_least 27 = .ok (.iload_n 1, 1) := by decide +kernel
theorem dX8_least_28 : decode cX8_least 28 = .ok (.ireturn, 1) := by decide +kernel
theorem dX8_least_29 : decode cX8_least 29 = .ok (.iinc 1 1, 3) := by decide +kernel
theorem dX8_least_32 : decode cX8_least 32 = .ok (.goto (-30), 3) := by decide +kernel
theorem dX8_least_35 : decode cX8_least 35 = .ok (.iconst (-1), 1) := by decide +kernel
theorem dX8_least_36 : decode cX8_least 36 = .ok (.ireturn, 1) := by decide +kernel
theorem dX8_times_0 : decode cX8_times 0 = .ok (.aload_n 0, 1) := by decide +kernel
theorem dX8_times_1 : decode cX8_times 1 = .ok (.getfield 10, 3) := by decide +kernel
theorem dX8_times_4 : decode cX8_times 4 = .ok (.iload_n 1, 1) := by decide +kernel
theorem dX8_times_5 : decode cX8_times 5 = .ok (.iload_n 2, 1) := by decide +kernel
theorem dX8_times_6 : decode cX8_times 6 = .ok (.invokevirtual 197, 3) := by decide +kernel
theorem dX8_times_9 : decode cX8_times 9 = .ok (.ifCond .ne 10, 3) := by decide +kernel
theorem dX8_times_12 : decode cX8_times 12 = .ok (.aload_n 0, 1) := by decide +kernel
theorem dX8_times_13 : decode cX8_times 13 = .ok (.bipush (-92), 2) := by decide +kernel
theorem dX8_times_15 : decode cX8_times 15 = .ok (.invokevirtual 55, 3) := by decide +kernel
theorem dX8_times_18 : decode cX8_times 18 = .ok (.ireturn, 1) := by decide +kernel
theorem dX8_times_19 : decode cX8_times 19 = .ok (.bipush 50, 2) := by decide +kernel
theorem dX8_times_21 : decode cX8_times 21 = .ok (.aload_n 0, 1) := by decide +kernel
theorem dX8_times_22 : decode cX8_times 22 = .ok (.getfield 10, 3) := by decide +kernel
theorem dX8_times_25 : decode cX8_times 25 = .ok (.getfield 175, 3) := by decide +kernel
theorem dX8_times_28 : decode cX8_times 28 = .ok (.isub, 1) := by decide +kernel
theorem dX8_times_29 : decode cX8_times 29 = .ok (.istore_n 3, 1) := by decide +kernel
theorem dX8_times_30 : decode cX8_times 30 = .ok (.iload_n 2, 1) := by decide +kernel
theorem dX8_times_31 : decode cX8_times 31 = .ok (.iload_n 1, 1) := by decide +kernel
theorem dX8_times_32 : decode cX8_times 32 = .ok (.isub, 1) := by decide +kernel
theorem dX8_times_33 : decode cX8_times 33 = .ok (.iconst 1, 1) := by decide +kernel
theorem dX8_times_34 : decode cX8_times 34 = .ok (.iadd, 1) := by decide +kernel
theorem dX8_times_35 : decode cX8_times 35 = .ok (.istore 4, 2) := by decide +kernel
theorem dX8_times_37 : decode cX8_times 37 = .ok (.aload_n 0, 1) := by decide +kernel
theorem dX8_times_38 : decode cX8_times 38 = .ok (.getfield 10, 3) := by decide +kernel
theorem dX8_times_41 : decode cX8_times 41 = .ok (.getfield 181, 3) := by decide +kernel
theorem dX8_times_44 : decode cX8_times 44 = .ok (.istore 5, 2) := by decide +kernel
theorem dX8_times_46 : decode cX8_times 46 = .ok (.iconst 0, 1) := by decide +kernel
theorem dX8_times_47 : decode cX8_times 47 = .ok (.istore 6, 2) := by decide +kernel
theorem dX8_times_49 : decode cX8_times 49 = .ok (.iload 6, 2) := by decide +kernel
theorem dX8_times_51 : decode cX8_times 51 = .ok (.bipush 50, 2) := by decide +kernel
theorem dX8_times_53 : decode cX8_times 53 = .ok (.if_icmp .ge 39, 3) := by decide +kernel
theorem dX8_times_56 : decode cX8_times 56 = .ok (.iload 6, 2) := by decide +kernel
theorem dX8_times_58 : decode cX8_times 58 = .ok (.iconst 1, 1) := by decide +kernel
theorem dX8_times_59 : decode cX8_times 59 = .ok (.iadd, 1) := by decide +kernel
theorem dX8_times_60 : decode cX8_times 60 = .ok (.iload 4, 2) := by decide +kernel
theorem dX8_times_62 : decode cX8_times 62 = .ok (.imul, 1) := by decide +kernel
theorem dX8_times_63 : decode cX8_times 63 = .ok (.iload_n 3, 1) := by decide +kernel
theorem dX8_times_64 : decode cX8_times 64 = .ok (.if_icmp .gt 28, 3) := by decide +kernel
theorem dX8_times_67 : decode cX8_times 67 = .ok (.aload_n 0, 1) := by decide +kernel
theorem dX8_times_68 : decode cX8_times 68 = .ok (.iload_n 1, 1) := by decide +kernel
theorem dX8_times_69 : decode cX8_times 69 = .ok (.iload_n 2, 1) := by decide +kernel
theorem dX8_times_70 : decode cX8_times 70 = .ok (.iload 5, 2) := by decide +kernel
theorem dX8_times_72 : decode cX8_times 72 = .ok (.invokevirtual 238, 3) := by decide +kernel
theorem dX8_times_75 : decode cX8_times 75 = .ok (.istore 5, 2) := by decide +kernel
theorem dX8_times_77 : decode cX8_times 77 = .ok (.iload 5, 2) := by decide +kernel
theorem dX8_times_79 : decode cX8_times 79 = .ok (.iconst (-1), 1) := by decide +kernel
theorem dX8_times_80 : decode cX8_times 80 = .ok (.if_icmp .ne 6, 3) := by decide +kernel
theorem dX8_times_83 : decode cX8_times 83 = .ok (.iload 6, 2) := by decide +kernel
theorem dX8_times_85 : decode cX8_times 85 = .ok (.ireturn, 1) := by decide +kernel
theorem dX8_times_86 : decode cX8_times 86 = .ok (.iinc 6 1, 3) := by decide +kernel
theorem dX8_times_89 : decode cX8_times 89 = .ok (.goto (-40), 3) := by decide +kernel
theorem dX8_times_92 : decode cX8_times 92 = .ok (.iload 6, 2) := by decide +kernel
theorem dX8_times_94 : decode cX8_times 94 = .ok (.ireturn, 1) := by decide +kernel
theorem dX8_workedOf_0 : decode cX8_workedOf 0 = .ok (.aload_n 0, 1) := by decide +kernel
theorem dX8_workedOf_1 : decode cX8_workedOf 1 = .ok (.getfield 10, 3) := by decide +kernel
theorem dX8_workedOf_4 : decode cX8_workedOf 4 = .ok (.iload_n 1, 1) := by decide +kernel
theorem dX8_workedOf_5 : decode cX8_workedOf 5 = .ok (.invokevirtual 92, 3) := by decide +kernel
theorem dX8_workedOf_8 : decode cX8_workedOf 8 = .ok (.astore_n 3, 1) := by decide +kernel
theorem dX8_workedOf_9 : decode cX8_workedOf 9 = .ok (.aload_n 3, 1) := by decide +kernel
theorem dX8_workedOf_10 : decode cX8_workedOf 10 = .ok (.ifnonnull 10, 3) := by decide +kernel
theorem dX8_workedOf_13 : decode cX8_workedOf 13 = .ok (.aload_n 0, 1) := by decide +kernel
theorem dX8_workedOf_14 : decode cX8_workedOf 14 = .ok (.bipush (-92), 2) := by decide +kernel
theorem dX8_workedOf_16 : decode cX8_workedOf 16 = .ok (.invokevirtual 55, 3) := by decide +kernel
theorem dX8_workedOf_19 : decode cX8_workedOf 19 = .ok (.ireturn, 1) := by decide +kernel
theorem dX8_workedOf_20 : decode cX8_workedOf 20 = .ok (.aload_n 3, 1) := by decide +kernel
theorem dX8_workedOf_21 : decode cX8_workedOf 21 = .ok (.getfield 96, 3) := by decide +kernel
theorem dX8_workedOf_24 : decode cX8_workedOf 24 = .ok (.astore 4, 2) := by decide +kernel
theorem dX8_workedOf_26 : decode cX8_workedOf 26 = .ok (.iload_n 2, 1) := by decide +kernel
theorem dX8_workedOf_27 : decode cX8_workedOf 27 = .ok (.tableswitch 81 0 5 #[37, 42, 48, 59, 70, 76], 37) := by decide +kernel
theorem dX8_workedOf_64 : decode cX8_workedOf 64 = .ok (.aload_n 3, 1) := by decide +kernel
theorem dX8_workedOf_65 : decode cX8_workedOf 65 = .ok (.getfield 242, 3) := by decide +kernel
theorem dX8_workedOf_68 : decode cX8_workedOf 68 = .ok (.ireturn, 1) := by decide +kernel
theorem dX8_workedOf_69 : decode cX8_workedOf 69 = .ok (.aload 4, 2) := by decide +kernel
theorem dX8_workedOf_71 : decode cX8_workedOf 71 = .ok (.getfield 227, 3) := by decide +kernel
theorem dX8_workedOf_74 : decode cX8_workedOf 74 = .ok (.ireturn, 1) := by decide +kernel
theorem dX8_workedOf_75 : decode cX8_workedOf 75 = .ok (.aload 4, 2) := by decide +kernel
theorem dX8_workedOf_77 : decode cX8_workedOf 77 = .ok (.aload 4, 2) := by decide +kernel
theorem dX8_workedOf_79 : decode cX8_workedOf 79 = .ok (.getfield 227, 3) := by decide +kernel
theorem dX8_workedOf_82 : decode cX8_workedOf 82 = .ok (.invokevirtual 243, 3) := by decide +kernel
theorem dX8_workedOf_85 : decode cX8_workedOf 85 = .ok (.ireturn, 1) := by decide +kernel
theorem dX8_workedOf_86 : decode cX8_workedOf 86 = .ok (.aload 4, 2) := by decide +kernel
theorem dX8_workedOf_88 : decode cX8_workedOf 88 = .ok (.aload 4, 2) := by decide +kernel
theorem dX8_workedOf_90 : decode cX8_workedOf 90 = .ok (.getfield 227, 3) := by decide +kernel
theorem dX8_workedOf_93 : decode cX8_workedOf 93 = .ok (.invokevirtual 246, 3) := by decide +kernel
theorem dX8_workedOf_96 : decode cX8_workedOf 96 = .ok (.ireturn, 1) := by decide +kernel
theorem dX8_workedOf_97 : decode cX8_workedOf 97 = .ok (.aload 4, 2) := by decide +kernel
theorem dX8_workedOf_99 : decode cX8_workedOf 99 = .ok (.invokevirtual 229, 3) := by decide +kernel
theorem dX8_workedOf_102 : decode cX8_workedOf 102 = .ok (.ireturn, 1) := by decide +kernel
theorem dX8_workedOf_103 : decode cX8_workedOf 103 = .ok (.aload_n 3, 1) := by decide +kernel
theorem dX8_workedOf_104 : decode cX8_workedOf 104 = .ok (.getfield 249, 3) := by decide +kernel
theorem dX8_workedOf_107 : decode cX8_workedOf 107 = .ok (.ireturn, 1) := by decide +kernel
theorem dX8_workedOf_108 : decode cX8_workedOf 108 = .ok (.aload_n 0, 1) := by decide +kernel
theorem dX8_workedOf_109 : decode cX8_workedOf 109 = .ok (.bipush (-92), 2) := by decide +kernel
theorem dX8_workedOf_111 : decode cX8_workedOf 111 = .ok (.invokevirtual 55, 3) := by decide +kernel
theorem dX8_workedOf_114 : decode cX8_workedOf 114 = .ok (.ireturn, 1) := by decide +kernel
theorem dX8_stitch_0 : decode cX8_stitch 0 = .ok (.aload_n 0, 1) := by decide +kernel
theorem dX8_stitch_1 : decode cX8_stitch 1 = .ok (.getfield 10, 3) := by decide +kernel
theorem dX8_stitch_4 : decode cX8_stitch 4 = .ok (.iload_n 1, 1) := by decide +kernel
theorem dX8_stitch_5 : decode cX8_stitch 5 = .ok (.invokevirtual 92, 3) := by decide +kernel
theorem dX8_stitch_8 : decode cX8_stitch 8 = .ok (.astore 4, 2) := by decide +kernel
theorem dX8_stitch_10 : decode cX8_stitch 10 = .ok (.aload 4, 2) := by decide +kernel
theorem dX8_stitch_12 : decode cX8_stitch 12 = .ok (.ifnull 15, 3) := by decide +kernel
theorem dX8_stitch_15 : decode cX8_stitch 15 = .ok (.aload 4, 2) := by decide +kernel
theorem dX8_stitch_17 : decode cX8_stitch 17 = .ok (.getfield 96, 3) := by decide +kernel
theorem dX8_stitch_20 : decode cX8_stitch 20 = .ok (.iload_n 2, 1) := by decide +kernel
theorem dX8_stitch_21 : decode cX8_stitch 21 = .ok (.invokevirtual 102, 3) := by decide +kernel
theorem dX8_stitch_24 : decode cX8_stitch 24 = .ok (.ifCond .ne 10, 3) := by decide +kernel
theorem dX8_stitch_27 : decode cX8_stitch 27 = .ok (.aload_n 0, 1) := by decide +kernel
theorem dX8_stitch_28 : decode cX8_stitch 28 = .ok (.bipush (-92), 2) := by decide +kernel
theorem dX8_stitch_30 : decode cX8_stitch 30 = .ok (.invokevirtual 55, 3) := by decide +kernel
theorem dX8_stitch_33 : decode cX8_stitch 33 = .ok (.ireturn, 1) := by decide +kernel
theorem dX8_stitch_34 : decode cX8_stitch 34 = .ok (.iload_n 3, 1) := by decide +kernel
theorem dX8_stitch_35 : decode cX8_stitch 35 = .ok (.tableswitch 55 0 2 #[25, 35, 45], 25) := by decide +kernel
theorem dX8_stitch_60 : decode cX8_stitch 60 = .ok (.aload 4, 2) := by decide +kernel
theorem dX8_stitch_62 : decode cX8_stitch 62 = .ok (.getfield 96, 3) := by decide +kernel
theorem dX8_stitch_65 : decode cX8_stitch 65 = .ok (.iload_n 2, 1) := by decide +kernel
theorem dX8_stitch_66 : decode cX8_stitch 66 = .ok (.invokevirtual 107, 3) := by decide +kernel
theorem dX8_stitch_69 : decode cX8_stitch 69 = .ok (.ireturn, 1) := by decide +kernel
theorem dX8_stitch_70 : decode cX8_stitch 70 = .ok (.aload 4, 2) := by decide +kernel
theorem dX8_stitch_72 : decode cX8_stitch 72 = .ok (.getfield 96, 3) := by decide +kernel
theorem dX8_stitch_75 : decode cX8_stitch 75 = .ok (.iload_n 2, 1) := by decide +kernel
theorem dX8_stitch_76 : decode cX8_stitch 76 = .ok (.invokevirtual 243, 3) := by decide +kernel
theorem dX8_stitch_79 : decode cX8_stitch 79 = .ok (.ireturn, 1) := by decide +kernel
theorem dX8_stitch_80 : decode cX8_stitch 80 = .ok (.aload 4, 2) := by decide +kernel
theorem dX8_stitch_82 : decode cX8_stitch 82 = .ok (.getfield 96, 3) := by decide +kernel
theorem dX8_stitch_85 : decode cX8_stitch 85 = .ok (.iload_n 2, 1) := by decide +kernel
theorem dX8_stitch_86 : decode cX8_stitch 86 = .ok (.invokevirtual 246, 3) := by decide +kernel
theorem dX8_stitch_89 : decode cX8_stitch 89 = .ok (.ireturn, 1) := by decide +kernel
theorem dX8_stitch_90 : decode cX8_stitch 90 = .ok (.aload_n 0, 1) := by decide +kernel
theorem dX8_stitch_91 : decode cX8_stitch 91 = .ok (.bipush (-92), 2) := by decide +kernel
theorem dX8_stitch_93 : decode cX8_stitch 93 = .ok (.invokevirtual 55, 3) := by decide +kernel
theorem dX8_stitch_96 : decode cX8_stitch 96 = .ok (.ireturn, 1) := by decide +kernel
theorem dX8_chart_0 : decode cX8_chart 0 = .ok (.aload_n 0, 1) := by decide +kernel
theorem dX8_chart_1 : decode cX8_chart 1 = .ok (.getfield 10, 3) := by decide +kernel
theorem dX8_chart_4 : decode cX8_chart 4 = .ok (.iload_n 1, 1) := by decide +kernel
theorem dX8_chart_5 : decode cX8_chart 5 = .ok (.invokevirtual 92, 3) := by decide +kernel
theorem dX8_chart_8 : decode cX8_chart 8 = .ok (.astore_n 3, 1) := by decide +kernel
theorem dX8_chart_9 : decode cX8_chart 9 = .ok (.aload_n 3, 1) := by decide +kernel
theorem dX8_chart_10 : decode cX8_chart 10 = .ok (.ifnonnull 12, 3) := by decide +kernel
theorem dX8_chart_13 : decode cX8_chart 13 = .ok (.aload_n 0, 1) := by decide +kernel
theorem dX8_chart_14 : decode cX8_chart 14 = .ok (.bipush (-92), 2) := by decide +kernel
theorem dX8_chart_16 : decode cX8_chart 16 = .ok (.invokevirtual 55, 3) := by decide +kernel
theorem dX8_chart_19 : decode cX8_chart 19 = .ok (.goto 8, 3) := by decide +kernel
theorem dX8_chart_22 : decode cX8_chart 22 = .ok (.aload_n 3, 1) := by decide +kernel
theorem dX8_chart_23 : decode cX8_chart 23 = .ok (.iload_n 2, 1) := by decide +kernel
theorem dX8_chart_24 : decode cX8_chart 24 = .ok (.invokevirtual 252, 3) := by decide +kernel
theorem dX8_chart_27 : decode cX8_chart 27 = .ok (.ireturn, 1) := by decide +kernel
theorem dX8_shorthand_0 : decode cX8_shorthand 0 = .ok (.aload_n 0, 1) := by decide +kernel
theorem dX8_shorthand_1 : decode cX8_shorthand 1 = .ok (.getfield 10, 3) := by decide +kernel
theorem dX8_shorthand_4 : decode cX8_shorthand 4 = .ok (.iload_n 1, 1) := by decide +kernel
theorem dX8_shorthand_5 : decode cX8_shorthand 5 = .ok (.invokevirtual 92, 3) := by decide +kernel
theorem dX8_shorthand_8 : decode cX8_shorthand 8 = .ok (.astore_n 3, 1) := by decide +kernel
theorem dX8_shorthand_9 : decode cX8_shorthand 9 = .ok (.aload_n 3, 1) := by decide +kernel
theorem dX8_shorthand_10 : decode cX8_shorthand 10 = .ok (.ifnonnull 12, 3) := by decide +kernel
theorem dX8_shorthand_13 : decode cX8_shorthand 13 = .ok (.aload_n 0, 1) := by decide +kernel
theorem dX8_shorthand_14 : decode cX8_shorthand 14 = .ok (.bipush (-92), 2) := by decide +kernel
theorem dX8_shorthand_16 : decode cX8_shorthand 16 = .ok (.invokevirtual 55, 3) := by decide +kernel
theorem dX8_shorthand_19 : decode cX8_shorthand 19 = .ok (.goto 11, 3) := by decide +kernel
theorem dX8_shorthand_22 : decode cX8_shorthand 22 = .ok (.aload_n 3, 1) := by decide +kernel
theorem dX8_shorthand_23 : decode cX8_shorthand 23 = .ok (.getfield 96, 3) := by decide +kernel
theorem dX8_shorthand_26 : decode cX8_shorthand 26 = .ok (.iload_n 2, 1) := by decide +kernel
theorem dX8_shorthand_27 : decode cX8_shorthand 27 = .ok (.invokevirtual 255, 3) := by decide +kernel
theorem dX8_shorthand_30 : decode cX8_shorthand 30 = .ok (.ireturn, 1) := by decide +kernel
theorem dX8_unit_0 : decode cX8_unit 0 = .ok (.aload_n 0, 1) := by decide +kernel
theorem dX8_unit_1 : decode cX8_unit 1 = .ok (.getfield 10, 3) := by decide +kernel
theorem dX8_unit_4 : decode cX8_unit 4 = .ok (.iload_n 1, 1) := by decide +kernel
theorem dX8_unit_5 : decode cX8_unit 5 = .ok (.invokevirtual 92, 3) := by decide +kernel
theorem dX8_unit_8 : decode cX8_unit 8 = .ok (.astore_n 2, 1) := by decide +kernel
theorem dX8_unit_9 : decode cX8_unit 9 = .ok (.aload_n 2, 1) := by decide +kernel
theorem dX8_unit_10 : decode cX8_unit 10 = .ok (.ifnonnull 12, 3) := by decide +kernel
theorem dX8_unit_13 : decode cX8_unit 13 = .ok (.aload_n 0, 1) := by decide +kernel
theorem dX8_unit_14 : decode cX8_unit 14 = .ok (.bipush (-92), 2) := by decide +kernel
theorem dX8_unit_16 : decode cX8_unit 16 = .ok (.invokevirtual 55, 3) := by decide +kernel
theorem dX8_unit_19 : decode cX8_unit 19 = .ok (.goto 10, 3) := by decide +kernel
theorem dX8_unit_22 : decode cX8_unit 22 = .ok (.aload_n 2, 1) := by decide +kernel
theorem dX8_unit_23 : decode cX8_unit 23 = .ok (.getfield 96, 3) := by decide +kernel
theorem dX8_unit_26 : decode cX8_unit 26 = .ok (.invokevirtual 258, 3) := by decide +kernel
theorem dX8_unit_29 : decode cX8_unit 29 = .ok (.ireturn, 1) := by decide +kernel
theorem dX8_mirrored_0 : decode cX8_mirrored 0 = .ok (.aload_n 0, 1) := by decide +kernel
theorem dX8_mirrored_1 : decode cX8_mirrored 1 = .ok (.getfield 10, 3) := by decide +kernel
theorem dX8_mirrored_4 : decode cX8_mirrored 4 = .ok (.iload_n 1, 1) := by decide +kernel
theorem dX8_mirrored_5 : decode cX8_mirrored 5 = .ok (.invokevirtual 92, 3) := by decide +kernel
theorem dX8_mirrored_8 : decode cX8_mirrored 8 = .ok (.astore_n 3, 1) := by decide +kernel
theorem dX8_mirrored_9 : decode cX8_mirrored 9 = .ok (.aload_n 3, 1) := by decide +kernel
theorem dX8_mirrored_10 : decode cX8_mirrored 10 = .ok (.ifnonnull 12, 3) := by decide +kernel
theorem dX8_mirrored_13 : decode cX8_mirrored 13 = .ok (.aload_n 0, 1) := by decide +kernel
theorem dX8_mirrored_14 : decode cX8_mirrored 14 = .ok (.bipush (-92), 2) := by decide +kernel
theorem dX8_mirrored_16 : decode cX8_mirrored 16 = .ok (.invokevirtual 55, 3) := by decide +kernel
theorem dX8_mirrored_19 : decode cX8_mirrored 19 = .ok (.goto 11, 3) := by decide +kernel
theorem dX8_mirrored_22 : decode cX8_mirrored 22 = .ok (.aload_n 3, 1) := by decide +kernel
theorem dX8_mirrored_23 : decode cX8_mirrored 23 = .ok (.getfield 96, 3) := by decide +kernel
theorem dX8_mirrored_26 : decode cX8_mirrored 26 = .ok (.iload_n 2, 1) := by decide +kernel
theorem dX8_mirrored_27 : decode cX8_mirrored 27 = .ok (.invokevirtual 261, 3) := by decide +kernel
theorem dX8_mirrored_30 : decode cX8_mirrored 30 = .ok (.ireturn, 1) := by decide +kernel
theorem dX8_even_0 : decode cX8_even 0 = .ok (.aload_n 0, 1) := by decide +kernel
theorem dX8_even_1 : decode cX8_even 1 = .ok (.getfield 10, 3) := by decide +kernel
theorem dX8_even_4 : decode cX8_even 4 = .ok (.iload_n 1, 1) := by decide +kernel
theorem dX8_even_5 : decode cX8_even 5 = .ok (.invokevirtual 92, 3) := by decide +kernel
theorem dX8_even_8 : decode cX8_even 8 = .ok (.astore_n 2, 1) := by decide +kernel
theorem dX8_even_9 : decode cX8_even 9 = .ok (.aload_n 2, 1) := by decide +kernel
theorem dX8_even_10 : decode cX8_even 10 = .ok (.ifnonnull 10, 3) := by decide +kernel
theorem dX8_even_13 : decode cX8_even 13 = .ok (.aload_n 0, 1) := by decide +kernel
theorem dX8_even_14 : decode cX8_even 14 = .ok (.bipush (-92), 2) := by decide +kernel
theorem dX8_even_16 : decode cX8_even 16 = .ok (.invokevirtual 55, 3) := by decide +kernel
theorem dX8_even_19 : decode cX8_even 19 = .ok (.ireturn, 1) := by decide +kernel
theorem dX8_even_20 : decode cX8_even 20 = .ok (.aload_n 2, 1) := by decide +kernel
theorem dX8_even_21 : decode cX8_even 21 = .ok (.getfield 96, 3) := by decide +kernel
theorem dX8_even_24 : decode cX8_even 24 = .ok (.invokevirtual 264, 3) := by decide +kernel
theorem dX8_even_27 : decode cX8_even 27 = .ok (.ifCond .eq 7, 3) := by decide +kernel
theorem dX8_even_30 : decode cX8_even 30 = .ok (.iconst 1, 1) := by decide +kernel
theorem dX8_even_31 : decode cX8_even 31 = .ok (.goto 4, 3) := by decide +kernel
theorem dX8_even_34 : decode cX8_even 34 = .ok (.iconst 0, 1) := by decide +kernel
theorem dX8_even_35 : decode cX8_even 35 = .ok (.ireturn, 1) := by decide +kernel
theorem dX8_roots_0 : decode cX8_roots 0 = .ok (.aload_n 0, 1) := by decide +kernel
theorem dX8_roots_1 : decode cX8_roots 1 = .ok (.getfield 10, 3) := by decide +kernel
theorem dX8_roots_4 : decode cX8_roots 4 = .ok (.iload_n 1, 1) := by decide +kernel
theorem dX8_roots_5 : decode cX8_roots 5 = .ok (.invokevirtual 92, 3) := by decide +kernel
theorem dX8_roots_8 : decode cX8_roots 8 = .ok (.astore_n 3, 1) := by decide +kernel
theorem dX8_roots_9 : decode cX8_roots 9 = .ok (.aload_n 3, 1) := by decide +kernel
theorem dX8_roots_10 : decode cX8_roots 10 = .ok (.ifnull 25, 3) := by decide +kernel
theorem dX8_roots_13 : decode cX8_roots 13 = .ok (.iload_n 2, 1) := by decide +kernel
theorem dX8_roots_14 : decode cX8_roots 14 = .ok (.ifCond .lt 21, 3) := by decide +kernel
theorem dX8_roots_17 : decode cX8_roots 17 = .ok (.iload_n 2, 1) := by decide +kernel
theorem dX8_roots_18 : decode cX8_roots 18 = .ok (.aload_n 3, 1) := by decide +kernel
theorem dX8_roots_19 : decode cX8_roots 19 = .ok (.getfield 96, 3) := by decide +kernel
theorem dX8_roots_22 : decode cX8_roots 22 = .ok (.aload_n 3, 1) := by decide +kernel
theorem dX8_roots_23 : decode cX8_roots 23 = .ok (.getfield 96, 3) := by decide +kernel
theorem dX8_roots_26 : decode cX8_roots 26 = .ok (.getfield 227, 3) := by decide +kernel
theorem dX8_roots_29 : decode cX8_roots 29 = .ok (.invokevirtual 246, 3) := by decide +kernel
theorem dX8_roots_32 : decode cX8_roots 32 = .ok (.if_icmp .lt 10, 3) := by decide +kernel
theorem dX8_roots_35 : decode cX8_roots 35 = .ok (.aload_n 0, 1) := by decide +kernel
theorem dX8_roots_36 : decode cX8_roots 36 = .ok (.bipush (-92), 2) := by decide +kernel
theorem dX8_roots_38 : decode cX8_roots 38 = .ok (.invokevirtual 235, 3) := by decide +kernel
theorem dX8_roots_41 : decode cX8_roots 41 = .ok (.lreturn, 1) := by decide +kernel
theorem dX8_roots_42 : decode cX8_roots 42 = .ok (.aload_n 3, 1) := by decide +kernel
theorem dX8_roots_43 : decode cX8_roots 43 = .ok (.getfield 96, 3) := by decide +kernel
theorem dX8_roots_46 : decode cX8_roots 46 = .ok (.lconst 1, 1) := by decide +kernel
theorem dX8_roots_47 : decode cX8_roots 47 = .ok (.iload_n 2, 1) := by decide +kernel
theorem dX8_roots_48 : decode cX8_roots 48 = .ok (.lshl, 1) := by decide +kernel
theorem dX8_roots_49 : decode cX8_roots 49 = .ok (.invokevirtual 267, 3) := by decide +kernel
theorem dX8_roots_52 : decode cX8_roots 52 = .ok (.lreturn, 1) := by decide +kernel
theorem dX8_origin_0 : decode cX8_origin 0 = .ok (.iload_n 1, 1) := by decide +kernel
theorem dX8_origin_1 : decode cX8_origin 1 = .ok (.ifCond .lt 14, 3) := by decide +kernel
theorem dX8_origin_4 : decode cX8_origin 4 = .ok (.iload_n 1, 1) := by decide +kernel
theorem dX8_origin_5 : decode cX8_origin 5 = .ok (.aload_n 0, 1) := by decide +kernel
theorem dX8_origin_6 : decode cX8_origin 6 = .ok (.getfield 10, 3) := by decide +kernel
theorem dX8_origin_9 : decode cX8_origin 9 = .ok (.getfield 181, 3) := by decide +kernel
theorem dX8_origin_12 : decode cX8_origin 12 = .ok (.if_icmp .lt 10, 3) := by decide +kernel
theorem dX8_origin_15 : decode cX8_origin 15 = .ok (.aload_n 0, 1) := by decide +kernel
theorem dX8_origin_16 : decode cX8_origin 16 = .ok (.bipush (-92), 2) := by decide +kernel
theorem dX8_origin_18 : decode cX8_origin 18 = .ok (.invokevirtual 235, 3) := by decide +kernel
theorem dX8_origin_21 : decode cX8_origin 21 = .ok (.lreturn, 1) := by decide +kernel
theorem dX8_origin_22 : decode cX8_origin 22 = .ok (.aload_n 0, 1) := by decide +kernel
theorem dX8_origin_23 : decode cX8_origin 23 = .ok (.getfield 10, 3) := by decide +kernel
theorem dX8_origin_26 : decode cX8_origin 26 = .ok (.iload_n 1, 1) := by decide +kernel
theorem dX8_origin_27 : decode cX8_origin 27 = .ok (.invokevirtual 271, 3) := by decide +kernel
theorem dX8_origin_30 : decode cX8_origin 30 = .ok (.lreturn, 1) := by decide +kernel
theorem dX8_yarn_0 : decode cX8_yarn 0 = .ok (.lconst 0, 1) := by decide +kernel
theorem dX8_yarn_1 : decode cX8_yarn 1 = .ok (.lstore_n 1, 1) := by decide +kernel
theorem dX8_yarn_2 : decode cX8_yarn 2 = .ok (.iconst 0, 1) := by decide +kernel
theorem dX8_yarn_3 : decode cX8_yarn 3 = .ok (.istore_n 3, 1) := by decide +kernel
theorem dX8_yarn_4 : decode cX8_yarn 4 = .ok (.iload_n 3, 1) := by decide +kernel
theorem dX8_yarn_5 : decode cX8_yarn 5 = .ok (.aload_n 0, 1) := by decide +kernel
theorem dX8_yarn_6 : decode cX8_yarn 6 = .ok (.getfield 10, 3) := by decide +kernel
theorem dX8_yarn_9 : decode cX8_yarn 9 = .ok (.getfield 175, 3) := by decide +kernel
theorem dX8_yarn_12 : decode cX8_yarn 12 = .ok (.if_icmp .ge 40, 3) := by decide +kernel
theorem dX8_yarn_15 : decode cX8_yarn 15 = .ok (.aload_n 0, 1) := by decide +kernel
theorem dX8_yarn_16 : decode cX8_yarn 16 = .ok (.getfield 10, 3) := by decide +kernel
theorem dX8_yarn_19 : decode cX8_yarn 19 = .ok (.iload_n 3, 1) := by decide +kernel
theorem dX8_yarn_20 : decode cX8_yarn 20 = .ok (.invokevirtual 92, 3) := by decide +kernel
theorem dX8_yarn_23 : decode cX8_yarn 23 = .ok (.astore 4, 2) := by decide +kernel
theorem dX8_yarn_25 : decode cX8_yarn 25 = .ok (.lload_n 1, 1) := by decide +kernel
theorem dX8_yarn_26 : decode cX8_yarn 26 = .ok (.aload 4, 2) := by decide +kernel
theorem dX8_yarn_28 : decode cX8_yarn 28 = .ok (.ifnonnull 7, 3) := by decide +kernel
theorem dX8_yarn_31 : decode cX8_yarn 31 = .ok (.lconst 0, 1) := by decide +kernel
theorem dX8_yarn_32 : decode cX8_yarn 32 = .ok (.goto 12, 3) := by decide +kernel
theorem dX8_yarn_35 : decode cX8_yarn 35 = .ok (.aload 4, 2) := by decide +kernel
theorem dX8_yarn_37 : decode cX8_yarn 37 = .ok (.getfield 96, 3) := by decide +kernel
theorem dX8_yarn_40 : decode cX8_yarn 40 = .ok (.invokevirtual 229, 3) := by decide +kernel
theorem dX8_yarn_43 : decode cX8_yarn 43 = .ok (.i2l, 1) := by decide +kernel
theorem dX8_yarn_44 : decode cX8_yarn 44 = .ok (.ladd, 1) := by decide +kernel
theorem dX8_yarn_45 : decode cX8_yarn 45 = .ok (.lstore_n 1, 1) := by decide +kernel
theorem dX8_yarn_46 : decode cX8_yarn 46 = .ok (.iinc 3 1, 3) := by decide +kernel
theorem dX8_yarn_49 : decode cX8_yarn 49 = .ok (.goto (-45), 3) := by decide +kernel
theorem dX8_yarn_52 : decode cX8_yarn 52 = .ok (.lload_n 1, 1) := by decide +kernel
theorem dX8_yarn_53 : decode cX8_yarn 53 = .ok (.lreturn, 1) := by decide +kernel
theorem dX8_many_0 : decode cX8_many 0 = .ok (.iload_n 1, 1) := by decide +kernel
theorem dX8_many_1 : decode cX8_many 1 = .ok (.invokestatic 114, 3) := by decide +kernel
theorem dX8_many_4 : decode cX8_many 4 = .ok (.ifCond .ne 10, 3) := by decide +kernel
theorem dX8_many_7 : decode cX8_many 7 = .ok (.aload_n 0, 1) := by decide +kernel
theorem dX8_many_8 : decode cX8_many 8 = .ok (.bipush (-92), 2) := by decide +kernel
theorem dX8_many_10 : decode cX8_many 10 = .ok (.invokevirtual 55, 3) := by decide +kernel
theorem dX8_many_13 : decode cX8_many 13 = .ok (.ireturn, 1) := by decide +kernel
theorem dX8_many_14 : decode cX8_many 14 = .ok (.iconst 0, 1) := by decide +kernel
theorem dX8_many_15 : decode cX8_many 15 = .ok (.istore_n 2, 1) := by decide +kernel
theorem dX8_many_16 : decode cX8_many 16 = .ok (.iconst 0, 1) := by decide +kernel
theorem dX8_many_17 : decode cX8_many 17 = .ok (.istore_n 3, 1) := by decide +kernel
theorem dX8_many_18 : decode cX8_many 18 = .ok (.iload_n 3, 1) := by decide +kernel
theorem dX8_many_19 : decode cX8_many 19 = .ok (.aload_n 0, 1) := by decide +kernel
theorem dX8_many_20 : decode cX8_many 20 = .ok (.getfield 10, 3) := by decide +kernel
theorem dX8_many_23 : decode cX8_many 23 = .ok (.getfield 175, 3) := by decide +kernel
theorem dX8_many_26 : decode cX8_many 26 = .ok (.if_icmp .ge 40, 3) := by decide +kernel
theorem dX8_many_29 : decode cX8_many 29 = .ok (.aload_n 0, 1) := by decide +kernel
theorem dX8_many_30 : decode cX8_many 30 = .ok (.getfield 10, 3) := by decide +kernel
theorem dX8_many_33 : decode cX8_many 33 = .ok (.iload_n 3, 1) := by decide +kernel
theorem dX8_many_34 : decode cX8_many 34 = .ok (.invokevirtual 92, 3) := by decide +kernel
theorem dX8_many_37 : decode cX8_many 37 = .ok (.astore 4, 2) := by decide +kernel
theorem dX8_many_39 : decode cX8_many 39 = .ok (.iload_n 2, 1) := by decide +kernel
theorem dX8_many_40 : decode cX8_many 40 = .ok (.aload 4, 2) := by decide +kernel
theorem dX8_many_42 : decode cX8_many 42 = .ok (.ifnonnull 7, 3) := by decide +kernel
theorem dX8_many_45 : decode cX8_many 45 = .ok (.iconst 0, 1) := by decide +kernel
theorem dX8_many_46 : decode cX8_many 46 = .ok (.goto 12, 3) := by decide +kernel
theorem dX8_many_49 : decode cX8_many 49 = .ok (.aload 4, 2) := by decide +kernel
theorem dX8_many_51 : decode cX8_many 51 = .ok (.getfield 96, 3) := by decide +kernel
theorem dX8_many_54 : decode cX8_many 54 = .ok (.iload_n 1, 1) := by decide +kernel
theorem dX8_many_55 : decode cX8_many 55 = .ok (.invokevirtual 274, 3) := by decide +kernel
theorem dX8_many_58 : decode cX8_many 58 = .ok (.iadd, 1) := by decide +kernel
theorem dX8_many_59 : decode cX8_many 59 = .ok (.istore_n 2, 1) := by decide +kernel
theorem dX8_many_60 : decode cX8_many 60 = .ok (.iinc 3 1, 3) := by decide +kernel
theorem dX8_many_63 : decode cX8_many 63 = .ok (.goto (-45), 3) := by decide +kernel
theorem dX8_many_66 : decode cX8_many 66 = .ok (.iload_n 2, 1) := by decide +kernel
theorem dX8_many_67 : decode cX8_many 67 = .ok (.ireturn, 1) := by decide +kernel
theorem dX8_differ_0 : decode cX8_differ 0 = .ok (.aload_n 0, 1) := by decide +kernel
theorem dX8_differ_1 : decode cX8_differ 1 = .ok (.getfield 10, 3) := by decide +kernel
theorem dX8_differ_4 : decode cX8_differ 4 = .ok (.iload_n 1, 1) := by decide +kernel
theorem dX8_differ_5 : decode cX8_differ 5 = .ok (.invokevirtual 92, 3) := by decide +kernel
theorem dX8_differ_8 : decode cX8_differ 8 = .ok (.astore_n 3, 1) := by decide +kernel
theorem dX8_differ_9 : decode cX8_differ 9 = .ok (.aload_n 0, 1) := by decide +kernel
theorem dX8_differ_10 : decode cX8_differ 10 = .ok (.getfield 10, 3) := by decide +kernel
theorem dX8_differ_13 : decode cX8_differ 13 = .ok (.iload_n 2, 1) := by decide +kernel
theorem dX8_differ_14 : decode cX8_differ 14 = .ok (.invokevirtual 92, 3) := by decide +kernel
theorem dX8_differ_17 : decode cX8_differ 17 = .ok (.astore 4, 2) := by decide +kernel
theorem dX8_differ_19 : decode cX8_differ 19 = .ok (.aload_n 3, 1) := by decide +kernel
theorem dX8_differ_20 : decode cX8_differ 20 = .ok (.ifnull 8, 3) := by decide +kernel
theorem dX8_differ_23 : decode cX8_differ 23 = .ok (.aload 4, 2) := by decide +kernel
theorem dX8_differ_25 : decode cX8_differ 25 = .ok (.ifnonnull 10, 3) := by decide +kernel
theorem dX8_differ_28 : decode cX8_differ 28 = .ok (.aload_n 0, 1) := by decide +kernel
theorem dX8_differ_29 : decode cX8_differ 29 = .ok (.bipush (-92), 2) := by decide +kernel
theorem dX8_differ_31 : decode cX8_differ 31 = .ok (.invokevirtual 55, 3) := by decide +kernel
theorem dX8_differ_34 : decode cX8_differ 34 = .ok (.ireturn, 1) := by decide +kernel
theorem dX8_differ_35 : decode cX8_differ 35 = .ok (.aload_n 3, 1) := by decide +kernel
theorem dX8_differ_36 : decode cX8_differ 36 = .ok (.getfield 96, 3) := by decide +kernel
theorem dX8_differ_39 : decode cX8_differ 39 = .ok (.getfield 227, 3) := by decide +kernel
theorem dX8_differ_42 : decode cX8_differ 42 = .ok (.aload 4, 2) := by decide +kernel
theorem dX8_differ_44 : decode cX8_differ 44 = .ok (.getfield 96, 3) := by decide +kernel
theorem dX8_differ_47 : decode cX8_differ 47 = .ok (.getfield 227, 3) := by decide +kernel
theorem dX8_differ_50 : decode cX8_differ 50 = .ok (.invokestatic 277, 3) := by decide +kernel
theorem dX8_differ_53 : decode cX8_differ 53 = .ok (.istore 5, 2) := by decide +kernel
theorem dX8_differ_55 : decode cX8_differ 55 = .ok (.iconst 0, 1) := by decide +kernel
theorem dX8_differ_56 : decode cX8_differ 56 = .ok (.istore 6, 2) := by decide +kernel
theorem dX8_differ_58 : decode cX8_differ 58 = .ok (.iload 6, 2) := by decide +kernel
theorem dX8_differ_60 : decode cX8_differ 60 = .ok (.iload 5, 2) := by decide +kernel
theorem dX8_differ_62 : decode cX8_differ 62 = .ok (.if_icmp .ge 28, 3) := by decide +kernel
theorem dX8_differ_65 : decode cX8_differ 65 = .ok (.aload_n 3, 1) := by decide +kernel
theorem dX8_differ_66 : decode cX8_differ 66 = .ok (.iload 6, 2) := by decide +kernel
theorem dX8_differ_68 : decode cX8_differ 68 = .ok (.invokevirtual 252, 3) := by decide +kernel
theorem dX8_differ_71 : decode cX8_differ 71 = .ok (.aload 4, 2) := by decide +kernel
theorem dX8_differ_73 : decode cX8_differ 73 = .ok (.iload 6, 2) := by decide +kernel
theorem dX8_differ_75 : decode cX8_differ 75 = .ok (.invokevirtual 252, 3) := by decide +kernel
theorem dX8_differ_78 : decode cX8_differ 78 = .ok (.if_icmp .eq 6, 3) := by decide +kernel
theorem dX8_differ_81 : decode cX8_differ 81 = .ok (.iload 6, 2) := by decide +kernel
theorem dX8_differ_83 : decode cX8_differ 83 = .ok (.ireturn, 1) := by decide +kernel
theorem dX8_differ_84 : decode cX8_differ 84 = .ok (.iinc 6 1, 3) := by decide +kernel
theorem dX8_differ_87 : decode cX8_differ 87 = .ok (.goto (-29), 3) := by decide +kernel
theorem dX8_differ_90 : decode cX8_differ 90 = .ok (.iconst (-1), 1) := by decide +kernel
theorem dX8_differ_91 : decode cX8_differ 91 = .ok (.ireturn, 1) := by decide +kernel
theorem dX8_judge_0 : decode cX8_judge 0 = .ok (.aload_n 0, 1) := by decide +kernel
theorem dX8_judge_1 : decode cX8_judge 1 = .ok (.getfield 10, 3) := by decide +kernel
theorem dX8_judge_4 : decode cX8_judge 4 = .ok (.iload_n 1, 1) := by decide +kernel
theorem dX8_judge_5 : decode cX8_judge 5 = .ok (.invokevirtual 92, 3) := by decide +kernel
theorem dX8_judge_8 : decode cX8_judge 8 = .ok (.astore 4, 2) := by decide +kernel
theorem dX8_judge_10 : decode cX8_judge 10 = .ok (.aload_n 0, 1) := by decide +kernel
theorem dX8_judge_11 : decode cX8_judge 11 = .ok (.iload_n 2, 1) := by decide +kernel
theorem dX8_judge_12 : decode cX8_judge 12 = .ok (.invokevirtual 47, 3) := by decide +kernel
theorem dX8_judge_15 : decode cX8_judge 15 = .ok (.astore 5, 2) := by decide +kernel
theorem dX8_judge_17 : decode cX8_judge 17 = .ok (.aload 4, 2) := by decide +kernel
theorem dX8_judge_19 : decode cX8_judge 19 = .ok (.ifnull 18, 3) := by decide +kernel
theorem dX8_judge_22 : decode cX8_judge 22 = .ok (.aload 5, 2) := by decide +kernel
theorem dX8_judge_24 : decode cX8_judge 24 = .ok (.ifnull 13, 3) := by decide +kernel
theorem dX8_judge_27 : decode cX8_judge 27 = .ok (.iload_n 3, 1) := by decide +kernel
theorem dX8_judge_28 : decode cX8_judge 28 = .ok (.ifCond .lt 9, 3) := by decide +kernel
theorem dX8_judge_31 : decode cX8_judge 31 = .ok (.iload_n 3, 1) := by decide +kernel
theorem dX8_judge_32 : decode cX8_judge 32 = .ok (.bipush 40, 2) := by decide +kernel
theorem dX8_judge_34 : decode cX8_judge 34 = .ok (.if_icmp .le 10, 3) := by decide +kernel
theorem dX8_judge_37 : decode cX8_judge 37 = .ok (.aload_n 0, 1) := by decide +kernel
theorem dX8_judge_38 : decode cX8_judge 38 = .ok (.bipush (-92), 2) := by decide +kernel
theorem dX8_judge_40 : decode cX8_judge 40 = .ok (.invokevirtual 55, 3) := by decide +kernel
theorem dX8_judge_43 : decode cX8_judge 43 = .ok (.ireturn, 1) := by decide +kernel
theorem dX8_judge_44 : decode cX8_judge 44 = .ok (.aload 5, 2) := by decide +kernel
theorem dX8_judge_46 : decode cX8_judge 46 = .ok (.invokevirtual 63, 3) := by decide +kernel
theorem dX8_judge_49 : decode cX8_judge 49 = .ok (.ifCond .ne 23, 3) := by decide +kernel
theorem dX8_judge_52 : decode cX8_judge 52 = .ok (.aload_n 0, 1) := by decide +kernel
theorem dX8_judge_53 : decode cX8_judge 53 = .ok (.aload 5, 2) := by decide +kernel
theorem dX8_judge_55 : decode cX8_judge 55 = .ok (.invokevirtual 67, 3) := by decide +kernel
theorem dX8_judge_58 : decode cX8_judge 58 = .ok (.ifCond .eq 8, 3) := by decide +kernel
theorem dX8_judge_61 : decode cX8_judge 61 = .ok (.bipush (-94), 2) := by decide +kernel
theorem dX8_judge_63 : decode cX8_judge 63 = .ok (.goto 5, 3) := by decide +kernel
theorem dX8_judge_66 : decode cX8_judge 66 = .ok (.bipush (-93), 2) := by decide +kernel
theorem dX8_judge_68 : decode cX8_judge 68 = .ok (.invokevirtual 55, 3) := by decide +kernel
theorem dX8_judge_71 : decode cX8_judge 71 = .ok (.ireturn, 1) := by decide +kernel
theorem dX8_judge_72 : decode cX8_judge 72 = .ok (.aload 5, 2) := by decide +kernel
theorem dX8_judge_74 : decode cX8_judge 74 = .ok (.getfield 282, 3) := by decide +kernel
theorem dX8_judge_77 : decode cX8_judge 77 = .ok (.iload_n 3, 1) := by decide +kernel
theorem dX8_judge_78 : decode cX8_judge 78 = .ok (.if_icmp .ge 10, 3) := by decide +kernel
theorem dX8_judge_81 : decode cX8_judge 81 = .ok (.aload_n 0, 1) := by decide +kernel
theorem dX8_judge_82 : decode cX8_judge 82 = .ok (.bipush (-92), 2) := by decide +kernel
theorem dX8_judge_84 : decode cX8_judge 84 = .ok (.invokevirtual 55, 3) := by decide +kernel
theorem dX8_judge_87 : decode cX8_judge 87 = .ok (.ireturn, 1) := by decide +kernel
theorem dX8_judge_88 : decode cX8_judge 88 = .ok (.iconst 0, 1) := by decide +kernel
theorem dX8_judge_89 : decode cX8_judge 89 = .ok (.istore 6, 2) := by decide +kernel
theorem dX8_judge_91 : decode cX8_judge 91 = .ok (.iload 6, 2) := by decide +kernel
theorem dX8_judge_93 : decode cX8_judge 93 = .ok (.iload_n 3, 1) := by decide +kernel
theorem dX8_judge_94 : decode cX8_judge 94 = .ok (.if_icmp .ge 47, 3) := by decide +kernel
theorem dX8_judge_97 : decode cX8_judge 97 = .ok (.aload 4, 2) := by decide +kernel
theorem dX8_judge_99 : decode cX8_judge 99 = .ok (.getfield 96, 3) := by decide +kernel
theorem dX8_judge_102 : decode cX8_judge 102 = .ok (.iload 6, 2) := by decide +kernel
theorem dX8_judge_104 : decode cX8_judge 104 = .ok (.invokevirtual 102, 3) := by decide +kernel
theorem dX8_judge_107 : decode cX8_judge 107 = .ok (.ifCond .eq 25, 3) := by decide +kernel
theorem dX8_judge_110 : decode cX8_judge 110 = .ok (.aload 5, 2) := by decide +kernel
theorem dX8_judge_112 : decode cX8_judge 112 = .ok (.iload 6, 2) := by decide +kernel
theorem dX8_judge_114 : decode cX8_judge 114 = .ok (.invokevirtual 85, 3) := by decide +kernel
theorem dX8_judge_117 : decode cX8_judge 117 = .ok (.aload 4, 2) := by decide +kernel
theorem dX8_judge_119 : decode cX8_judge 119 = .ok (.getfield 96, 3) := by decide +kernel
theorem dX8_judge_122 : decode cX8_judge 122 = .ok (.iload 6, 2) := by decide +kernel
theorem dX8_judge_124 : decode cX8_judge 124 = .ok (.invokevirtual 107, 3) := by decide +kernel
theorem dX8_judge_127 : decode cX8_judge 127 = .ok (.i2l, 1) := by decide +kernel
theorem dX8_judge_128 : decode cX8_judge 128 = .ok (.lcmp, 1) := by decide +kernel
theorem dX8_judge_129 : decode cX8_judge 129 = .ok (.ifCond .eq 6, 3) := by decide +kernel
theorem dX8_judge_132 : decode cX8_judge 132 = .ok (.iload 6, 2) := by decide +kernel
theorem dX8_judge_134 : decode cX8_judge 134 = .ok (.ireturn, 1) := by decide +kernel
theorem dX8_judge_135 : decode cX8_judge 135 = .ok (.iinc 6 1, 3) := by decide +kernel
theorem dX8_judge_138 : decode cX8_judge 138 = .ok (.goto (-47), 3) := by decide +kernel
theorem dX8_judge_141 : decode cX8_judge 141 = .ok (.aload 4, 2) := by decide +kernel
theorem dX8_judge_143 : decode cX8_judge 143 = .ok (.getfield 96, 3) := by decide +kernel
theorem dX8_judge_146 : decode cX8_judge 146 = .ok (.getfield 227, 3) := by decide +kernel
theorem dX8_judge_149 : decode cX8_judge 149 = .ok (.iload_n 3, 1) := by decide +kernel
theorem dX8_judge_150 : decode cX8_judge 150 = .ok (.if_icmp .le 7, 3) := by decide +kernel
theorem dX8_judge_153 : decode cX8_judge 153 = .ok (.iload_n 3, 1) := by decide +kernel
theorem dX8_judge_154 : decode cX8_judge 154 = .ok (.goto 4, 3) := by decide +kernel
theorem dX8_judge_157 : decode cX8_judge 157 = .ok (.iconst (-1), 1) := by decide +kernel
theorem dX8_judge_158 : decode cX8_judge 158 = .ok (.ireturn, 1) := by decide +kernel
theorem dX8_days_0 : decode cX8_days 0 = .ok (.iload_n 1, 1) := by decide +kernel
theorem dX8_days_1 : decode cX8_days 1 = .ok (.iconst 1, 1) := by decide +kernel
theorem dX8_days_2 : decode cX8_days 2 = .ok (.if_icmp .lt 9, 3) := by decide +kernel
theorem dX8_days_5 : decode cX8_days 5 = .ok (.iload_n 1, 1) := by decide +kernel
theorem dX8_days_6 : decode cX8_days 6 = .ok (.bipush 60, 2) := by decide +kernel
theorem dX8_days_8 : decode cX8_days 8 = .ok (.if_icmp .le 10, 3) := by decide +kernel
theorem dX8_days_11 : decode cX8_days 11 = .ok (.aload_n 0, 1) := by decide +kernel
theorem dX8_days_12 : decode cX8_days 12 = .ok (.bipush (-92), 2) := by decide +kernel
theorem dX8_days_14 : decode cX8_days 14 = .ok (.invokevirtual 55, 3) := by decide +kernel
theorem dX8_days_17 : decode cX8_days 17 = .ok (.ireturn, 1) := by decide +kernel
theorem dX8_days_18 : decode cX8_days 18 = .ok (.aload_n 0, 1) := by decide +kernel
theorem dX8_days_19 : decode cX8_days 19 = .ok (.getfield 10, 3) := by decide +kernel
theorem dX8_days_22 : decode cX8_days 22 = .ok (.getfield 149, 3) := by decide +kernel
theorem dX8_days_25 : decode cX8_days 25 = .ok (.ifCond .ne 10, 3) := by decide +kernel
theorem dX8_days_28 : decode cX8_days 28 = .ok (.aload_n 0, 1) := by decide +kernel
theorem dX8_days_29 : decode cX8_days 29 = .ok (.bipush (-95), 2) := by decide +kernel
theorem dX8_days_31 : decode cX8_days 31 = .ok (.invokevirtual 55, 3) := by decide +kernel
theorem dX8_days_34 : decode cX8_days 34 = .ok (.ireturn, 1) := by decide +kernel
theorem dX8_days_35 : decode cX8_days 35 = .ok (.iconst 0, 1) := by decide +kernel
theorem dX8_days_36 : decode cX8_days 36 = .ok (.istore_n 2, 1) := by decide +kernel
theorem dX8_days_37 : decode cX8_days 37 = .ok (.iconst 0, 1) := by decide +kernel
theorem dX8_days_38 : decode cX8_days 38 = .ok (.istore_n 3, 1) := by decide +kernel
theorem dX8_days_39 : decode cX8_days 39 = .ok (.iload_n 3, 1) := by decide +kernel
theorem dX8_days_40 : decode cX8_days 40 = .ok (.iload_n 1, 1) := by decide +kernel
theorem dX8_days_41 : decode cX8_days 41 = .ok (.if_icmp .ge 66, 3) := by decide +kernel
theorem dX8_days_44 : decode cX8_days 44 = .ok (.aload_n 0, 1) := by decide +kernel
theorem dX8_days_45 : decode cX8_days 45 = .ok (.getfield 10, 3) := by decide +kernel
theorem dX8_days_48 : decode cX8_days 48 = .ok (.aload_n 0, 1) := by decide +kernel
theorem dX8_days_49 : decode cX8_days 49 = .ok (.getfield 10, 3) := by decide +kernel
theorem dX8_days_52 : decode cX8_days 52 = .ok (.getfield 149, 3) := by decide +kernel
theorem dX8_days_55 : decode cX8_days 55 = .ok (.invokevirtual 283, 3) := by decide +kernel
theorem dX8_days_58 : decode cX8_days 58 = .ok (.istore 4, 2) := by decide +kernel
theorem dX8_days_60 : decode cX8_days 60 = .ok (.aload_n 0, 1) := by decide +kernel
theorem dX8_days_61 : decode cX8_days 61 = .ok (.getfield 10, 3) := by decide +kernel
theorem dX8_days_64 : decode cX8_days 64 = .ok (.iload 4, 2) := by decide +kernel
theorem dX8_days_66 : decode cX8_days 66 = .ok (.invokevirtual 155, 3) := by decide +kernel
theorem dX8_days_69 : decode cX8_days 69 = .ok (.astore 5, 2) := by decide +kernel
theorem dX8_days_71 : decode cX8_days 71 = .ok (.aload 5, 2) := by decide +kernel
theorem dX8_days_73 : decode cX8_days 73 = .ok (.ifnull 20, 3) := by decide +kernel
theorem dX8_days_76 : decode cX8_days 76 = .ok (.aload_n 0, 1) := by decide +kernel
theorem dX8_days_77 : decode cX8_days 77 = .ok (.aload 5, 2) := by decide +kernel
theorem dX8_days_79 : decode cX8_days 79 = .ok (.iload 4, 2) := by decide +kernel
theorem dX8_days_81 : decode cX8_days 81 = .ok (.invokevirtual 187, 3) := by decide +kernel
theorem dX8_days_84 : decode cX8_days 84 = .ok (.ifCond .eq 9, 3) := by decide +kernel
theorem dX8_days_87 : decode cX8_days 87 = .ok (.iinc 2 1, 3) := by decide +kernel
theorem dX8_days_90 : decode cX8_days 90 = .ok (.goto 11, 3) := by decide +kernel
theorem dX8_days_93 : decode cX8_days 93 = .ok (.aload_n 0, 1) := by decide +kernel
theorem dX8_days_94 : decode cX8_days 94 = .ok (.getfield 10, 3) := by decide +kernel
theorem dX8_days_97 : decode cX8_days 97 = .ok (.iconst 1, 1) := by decide +kernel
theorem dX8_days_98 : decode cX8_days 98 = .ok (.invokevirtual 204, 3) := by decide +kernel
theorem dX8_days_101 : decode cX8_days 101 = .ok (.iinc 3 1, 3) := by decide +kernel
theorem dX8_days_104 : decode cX8_days 104 = .ok (.goto (-65), 3) := by decide +kernel
theorem dX8_days_107 : decode cX8_days 107 = .ok (.iload_n 2, 1) := by decide +kernel
theorem dX8_days_108 : decode cX8_days 108 = .ok (.ireturn, 1) := by decide +kernel
theorem dX8_seed_0 : decode cX8_seed 0 = .ok (.aload_n 0, 1) := by decide +kernel
theorem dX8_seed_1 : decode cX8_seed 1 = .ok (.getfield 10, 3) := by decide +kernel
theorem dX8_seed_4 : decode cX8_seed 4 = .ok (.getfield 286, 3) := by decide +kernel
theorem dX8_seed_7 : decode cX8_seed 7 = .ok (.istore_n 2, 1) := by decide +kernel
theorem dX8_seed_8 : decode cX8_seed 8 = .ok (.aload_n 0, 1) := by decide +kernel
theorem dX8_seed_9 : decode cX8_seed 9 = .ok (.getfield 10, 3) := by decide +kernel
theorem dX8_seed_12 : decode cX8_seed 12 = .ok (.iload_n 1, 1) := by decide +kernel
theorem dX8_seed_13 : decode cX8_seed 13 = .ok (.putfield 286, 3) := by decide +kernel
theorem dX8_seed_16 : decode cX8_seed 16 = .ok (.iload_n 2, 1) := by decide +kernel
theorem dX8_seed_17 : decode cX8_seed 17 = .ok (.ireturn, 1) := by decide +kernel
theorem dX8_image_0 : decode cX8_image 0 = .ok (.aload_n 0, 1) := by decide +kernel
theorem dX8_image_1 : decode cX8_image 1 = .ok (.getfield 16, 3) := by decide +kernel
theorem dX8_image_4 : decode cX8_image 4 = .ok (.aload_n 0, 1) := by decide +kernel
theorem dX8_image_5 : decode cX8_image 5 = .ok (.getfield 10, 3) := by decide +kernel
theorem dX8_image_8 : decode cX8_image 8 = .ok (.invokevirtual 289, 3) := by decide +kernel
theorem dX8_image_11 : decode cX8_image 11 = .ok (.aload_n 0, 1) := by decide +kernel
theorem dX8_image_12 : decode cX8_image 12 = .ok (.iconst 1, 1) := by decide +kernel
theorem dX8_image_13 : decode cX8_image 13 = .ok (.putfield 293, 3) := by decide +kernel
theorem dX8_image_16 : decode cX8_image 16 = .ok (.iconst 1, 1) := by decide +kernel
theorem dX8_image_17 : decode cX8_image 17 = .ok (.ireturn, 1) := by decide +kernel
theorem dX8_back_0 : decode cX8_back 0 = .ok (.aload_n 0, 1) := by decide +kernel
theorem dX8_back_1 : decode cX8_back 1 = .ok (.getfield 293, 3) := by decide +kernel
theorem dX8_back_4 : decode cX8_back 4 = .ok (.ifCond .ne 10, 3) := by decide +kernel
theorem dX8_back_7 : decode cX8_back 7 = .ok (.aload_n 0, 1) := by decide +kernel
theorem dX8_back_8 : decode cX8_back 8 = .ok (.bipush (-95), 2) := by decide +kernel
theorem dX8_back_10 : decode cX8_back 10 = .ok (.invokevirtual 55, 3) := by decide +kernel
theorem dX8_back_13 : decode cX8_back 13 = .ok (.ireturn, 1) := by decide +kernel
theorem dX8_back_14 : decode cX8_back 14 = .ok (.aload_n 0, 1) := by decide +kernel
theorem dX8_back_15 : decode cX8_back 15 = .ok (.getfield 10, 3) := by decide +kernel
theorem dX8_back_18 : decode cX8_back 18 = .ok (.aload_n 0, 1) := by decide +kernel
theorem dX8_back_19 : decode cX8_back 19 = .ok (.getfield 16, 3) := by decide +kernel
theorem dX8_back_22 : decode cX8_back 22 = .ok (.invokevirtual 289, 3) := by decide +kernel
theorem dX8_back_25 : decode cX8_back 25 = .ok (.iconst 1, 1) := by decide +kernel
theorem dX8_back_26 : decode cX8_back 26 = .ok (.ireturn, 1) := by decide +kernel
theorem dX8_status_0 : decode cX8_status 0 = .ok (.iload_n 1, 1) := by decide +kernel
theorem dX8_status_1 : decode cX8_status 1 = .ok (.tableswitch 105 0 7 #[47, 55, 63, 71, 79, 87, 92, 100], 47) := by decide +kernel
theorem dX8_status_48 : decode cX8_status 48 = .ok (.aload_n 0, 1) := by decide +kernel
theorem dX8_status_49 : decode cX8_status 49 = .ok (.getfield 10, 3) := by decide +kernel
theorem dX8_status_52 : decode cX8_status 52 = .ok (.getfield 149, 3) := by decide +kernel
theorem dX8_status_55 : decode cX8_status 55 = .ok (.ireturn, 1) := by decide +kernel
theorem dX8_status_56 : decode cX8_status 56 = .ok (.aload_n 0, 1) := by decide +kernel
theorem dX8_status_57 : decode cX8_status 57 = .ok (.getfield 10, 3) := by decide +kernel
theorem dX8_status_60 : decode cX8_status 60 = .ok (.getfield 175, 3) := by decide +kernel
theorem dX8_status_63 : decode cX8_status 63 = .ok (.ireturn, 1) := by decide +kernel
theorem dX8_status_64 : decode cX8_status 64 = .ok (.aload_n 0, 1) := by decide +kernel
theorem dX8_status_65 : decode cX8_status 65 = .ok (.getfield 10, 3) := by decide +kernel
theorem dX8_status_68 : decode cX8_status 68 = .ok (.getfield 181, 3) := by decide +kernel
theorem dX8_status_71 : decode cX8_status 71 = .ok (.ireturn, 1) := by decide +kernel
theorem dX8_status_72 : decode cX8_status 72 = .ok (.aload_n 0, 1) := by decide +kernel
theorem dX8_status_73 : decode cX8_status 73 = .ok (.getfield 10, 3) := by decide +kernel
theorem dX8_status_76 : decode cX8_status 76 = .ok (.getfield 184, 3) := by decide +kernel
theorem dX8_status_79 : decode cX8_status 79 = .ok (.ireturn, 1) := by decide +kernel
theorem dX8_status_80 : decode cX8_status 80 = .ok (.aload_n 0, 1) := by decide +kernel
theorem dX8_status_81 : decode cX8_status 81 = .ok (.getfield 10, 3) := by decide +kernel
theorem dX8_status_84 : decode cX8_status 84 = .ok (.getfield 178, 3) := by decide +kernel
theorem dX8_status_87 : decode cX8_status 87 = .ok (.ireturn, 1) := by decide +kernel
theorem dX8_status_88 : decode cX8_status 88 = .ok (.aload_n 0, 1) := by decide +kernel
theorem dX8_status_89 : decode cX8_status 89 = .ok (.getfield 131, 3) := by decide +kernel
theorem dX8_status_92 : decode cX8_status 92 = .ok (.ireturn, 1) := by decide +kernel
theorem dX8_status_93 : decode cX8_status 93 = .ok (.aload_n 0, 1) := by decide +kernel
theorem dX8_status_94 : decode cX8_status 94 = .ok (.getfield 10, 3) := by decide +kernel
theorem dX8_status_97 : decode cX8_status 97 = .ok (.getfield 286, 3) := by decide +kernel
theorem dX8_status_100 : decode cX8_status 100 = .ok (.ireturn, 1) := by decide +kernel
theorem dX8_status_101 : decode cX8_status 101 = .ok (.aload_n 0, 1) := by decide +kernel
theorem dX8_status_102 : decode cX8_status 102 = .ok (.invokevirtual 296, 3) := by decide +kernel
theorem dX8_status_105 : decode cX8_status 105 = .ok (.ireturn, 1) := by decide +kernel
theorem dX8_status_106 : decode cX8_status 106 = .ok (.aload_n 0, 1) := by decide +kernel
theorem dX8_status_107 : decode cX8_status 107 = .ok (.iload_n 1, 1) := by decide +kernel
theorem dX8_status_108 : decode cX8_status 108 = .ok (.bipush 12, 2) := by decide +kernel
theorem dX8_status_110 : decode cX8_status 110 = .ok (.isub, 1) := by decide +kernel
theorem dX8_status_111 : decode cX8_status 111 = .ok (.invokevirtual 299, 3) := by decide +kernel
theorem dX8_status_114 : decode cX8_status 114 = .ok (.ireturn, 1) := by decide +kernel
theorem dX8_refuse_0 : decode cX8_refuse 0 = .ok (.bipush (-92), 2) := by decide +kernel
theorem dX8_refuse_2 : decode cX8_refuse 2 = .ok (.iload_n 1, 1) := by decide +kernel
theorem dX8_refuse_3 : decode cX8_refuse 3 = .ok (.isub, 1) := by decide +kernel
theorem dX8_refuse_4 : decode cX8_refuse 4 = .ok (.istore_n 2, 1) := by decide +kernel
theorem dX8_refuse_5 : decode cX8_refuse 5 = .ok (.iload_n 2, 1) := by decide +kernel
theorem dX8_refuse_6 : decode cX8_refuse 6 = .ok (.ifCond .lt 22, 3) := by decide +kernel
theorem dX8_refuse_9 : decode cX8_refuse 9 = .ok (.iload_n 2, 1) := by decide +kernel
theorem dX8_refuse_10 : decode cX8_refuse 10 = .ok (.aload_n 0, 1) := by decide +kernel
theorem dX8_refuse_11 : decode cX8_refuse 11 = .ok (.getfield 43, 3) := by decide +kernel
theorem dX8_refuse_14 : decode cX8_refuse 14 = .ok (.arraylength, 1) := by decide +kernel
theorem dX8_refuse_15 : decode cX8_refuse 15 = .ok (.if_icmp .ge 13, 3) := by decide +kernel
theorem dX8_refuse_18 : decode cX8_refuse 18 = .ok (.aload_n 0, 1) := by decide +kernel
theorem dX8_refuse_19 : decode cX8_refuse 19 = .ok (.getfield 43, 3) := by decide +kernel
theorem dX8_refuse_22 : decode cX8_refuse 22 = .ok (.iload_n 2, 1) := by decide +kernel
theorem dX8_refuse_23 : decode cX8_refuse 23 = .ok (.dup2, 1) := by decide +kernel
theorem dX8_refuse_24 : decode cX8_refuse 24 = .ok (.iaload, 1) := by decide +kernel
theorem dX8_refuse_25 : decode cX8_refuse 25 = .ok (.iconst 1, 1) := by decide +kernel
theorem dX8_refuse_26 : decode cX8_refuse 26 = .ok (.iadd, 1) := by decide +kernel
theorem dX8_refuse_27 : decode cX8_refuse 27 = .ok (.iastore, 1) := by decide +kernel
theorem dX8_refuse_28 : decode cX8_refuse 28 = .ok (.iload_n 1, 1) := by decide +kernel
theorem dX8_refuse_29 : decode cX8_refuse 29 = .ok (.ireturn, 1) := by decide +kernel
theorem dX8_refuseLong_0 : decode cX8_refuseLong 0 = .ok (.ldc2_w 302, 3) := by decide +kernel
theorem dX8_refuseLong_3 : decode cX8_refuseLong 3 = .ok (.aload_n 0, 1) := by decide +kernel
theorem dX8_refuseLong_4 : decode cX8_refuseLong 4 = .ok (.iload_n 1, 1) := by decide +kernel
theorem dX8_refuseLong_5 : decode cX8_refuseLong 5 = .ok (.invokevirtual 55, 3) := by decide +kernel
theorem dX8_refuseLong_8 : decode cX8_refuseLong 8 = .ok (.i2l, 1) := by decide +kernel
theorem dX8_refuseLong_9 : decode cX8_refuseLong 9 = .ok (.ladd, 1) := by decide +kernel
theorem dX8_refuseLong_10 : decode cX8_refuseLong 10 = .ok (.lreturn, 1) := by decide +kernel
theorem dX8_refusalsOf_0 : decode cX8_refusalsOf 0 = .ok (.iload_n 1, 1) := by decide +kernel
theorem dX8_refusalsOf_1 : decode cX8_refusalsOf 1 = .ok (.ifCond .lt 21, 3) := by decide +kernel
theorem dX8_refusalsOf_4 : decode cX8_refusalsOf 4 = .ok (.iload_n 1, 1) := by decide +kernel
theorem dX8_refusalsOf_5 : decode cX8_refusalsOf 5 = .ok (.aload_n 0, 1) := by decide +kernel
theorem dX8_refusalsOf_6 : decode cX8_refusalsOf 6 = .ok (.getfield 43, 3) := by decide +kernel
theorem dX8_refusalsOf_9 : decode cX8_refusalsOf 9 = .ok (.arraylength, 1) := by decide +kernel
theorem dX8_refusalsOf_10 : decode cX8_refusalsOf 10 = .ok (.if_icmp .ge 12, 3) := by decide +kernel
theorem dX8_refusalsOf_13 : decode cX8_refusalsOf 13 = .ok (.aload_n 0, 1) := by decide +kernel
theorem dX8_refusalsOf_14 : decode cX8_refusalsOf 14 = .ok (.getfield 43, 3) := by decide +kernel
theorem dX8_refusalsOf_17 : decode cX8_refusalsOf 17 = .ok (.iload_n 1, 1) := by decide +kernel
theorem dX8_refusalsOf_18 : decode cX8_refusalsOf 18 = .ok (.iaload, 1) := by decide +kernel
theorem dX8_refusalsOf_19 : decode cX8_refusalsOf 19 = .ok (.goto 4, 3) := by decide +kernel
theorem dX8_refusalsOf_22 : decode cX8_refusalsOf 22 = .ok (.iconst (-1), 1) := by decide +kernel
theorem dX8_refusalsOf_23 : decode cX8_refusalsOf 23 = .ok (.ireturn, 1) := by decide +kernel
theorem dX8_shelfAt_0 : decode cX8_shelfAt 0 = .ok (.iload_n 1, 1) := by decide +kernel
theorem dX8_shelfAt_1 : decode cX8_shelfAt 1 = .ok (.ifCond .lt 21, 3) := by decide +kernel
theorem dX8_shelfAt_4 : decode cX8_shelfAt 4 = .ok (.iload_n 1, 1) := by decide +kernel
theorem dX8_shelfAt_5 : decode cX8_shelfAt 5 = .ok (.aload_n 0, 1) := by decide +kernel
theorem dX8_shelfAt_6 : decode cX8_shelfAt 6 = .ok (.getfield 25, 3) := by decide +kernel
theorem dX8_shelfAt_9 : decode cX8_shelfAt 9 = .ok (.arraylength, 1) := by decide +kernel
theorem dX8_shelfAt_10 : decode cX8_shelfAt 10 = .ok (.if_icmp .ge 12, 3) := by decide +kernel
theorem dX8_shelfAt_13 : decode cX8_shelfAt 13 = .ok (.aload_n 0, 1) := by decide +kernel
theorem dX8_shelfAt_14 : decode cX8_shelfAt 14 = .ok (.getfield 25, 3) := by decide +kernel
theorem dX8_shelfAt_17 : decode cX8_shelfAt 17 = .ok (.iload_n 1, 1) := by decide +kernel
theorem dX8_shelfAt_18 : decode cX8_shelfAt 18 = .ok (.aaload, 1) := by decide +kernel
theorem dX8_shelfAt_19 : decode cX8_shelfAt 19 = .ok (.goto 4, 3) := by decide +kernel
theorem dX8_shelfAt_22 : decode cX8_shelfAt 22 = .ok (.aconst_null, 1) := by decide +kernel
theorem dX8_shelfAt_23 : decode cX8_shelfAt 23 = .ok (.areturn, 1) := by decide +kernel
theorem dX8_shelvesInUse_0 : decode cX8_shelvesInUse 0 = .ok (.iconst 0, 1) := by decide +kernel
theorem dX8_shelvesInUse_1 : decode cX8_shelvesInUse 1 = .ok (.istore_n 1, 1) := by decide +kernel
theorem dX8_shelvesInUse_2 : decode cX8_shelvesInUse 2 = .ok (.iconst 0, 1) := by decide +kernel
theorem dX8_shelvesInUse_3 : decode cX8_shelvesInUse 3 = .ok (.istore_n 2, 1) := by decide +kernel
theorem dX8_shelvesInUse_4 : decode cX8_shelvesInUse 4 = .ok (.iload_n 2, 1) := by decide +kernel
theorem dX8_shelvesInUse_5 : decode cX8_shelvesInUse 5 = .ok (.aload_n 0, 1) := by decide +kernel
theorem dX8_shelvesInUse_6 : decode cX8_shelvesInUse 6 = .ok (.getfield 25, 3) := by decide +kernel
theorem dX8_shelvesInUse_9 : decode cX8_shelvesInUse 9 = .ok (.arraylength, 1) := by decide +kernel
theorem dX8_shelvesInUse_10 : decode cX8_shelvesInUse 10 = .ok (.if_icmp .ge 26, 3) := by decide +kernel
theorem dX8_shelvesInUse_13 : decode cX8_shelvesInUse 13 = .ok (.iload_n 1, 1) := by decide +kernel
theorem dX8_shelvesInUse_14 : decode cX8_shelvesInUse 14 = .ok (.aload_n 0, 1) := by decide +kernel
theorem dX8_shelvesInUse_15 : decode cX8_shelvesInUse 15 = .ok (.iload_n 2, 1) := by decide +kernel
theorem dX8_shelvesInUse_16 : decode cX8_shelvesInUse 16 = .ok (.invokevirtual 304, 3) := by decide +kernel
theorem dX8_shelvesInUse_19 : decode cX8_shelvesInUse 19 = .ok (.iconst (-1), 1) := by decide +kernel
theorem dX8_shelvesInUse_20 : decode cX8_shelvesInUse 20 = .ok (.if_icmp .ne 7, 3) := by decide +kernel
theorem dX8_shelvesInUse_23 : decode cX8_shelvesInUse 23 = .ok (.iconst 0, 1) := by decide +kernel
theorem dX8_shelvesInUse_24 : decode cX8_shelvesInUse 24 = .ok (.goto 4, 3) := by decide +kernel
theorem dX8_shelvesInUse_27 : decode cX8_shelvesInUse 27 = .ok (.iconst 1, 1) := by decide +kernel
theorem dX8_shelvesInUse_28 : decode cX8_shelvesInUse 28 = .ok (.iadd, 1) := by decide +kernel
theorem dX8_shelvesInUse_29 : decode cX8_shelvesInUse 29 = .ok (.istore_n 1, 1) := by decide +kernel
theorem dX8_shelvesInUse_30 : decode cX8_shelvesInUse 30 = .ok (.iinc 2 1, 3) := by decide +kernel
theorem dX8_shelvesInUse_33 : decode cX8_shelvesInUse 33 = .ok (.goto (-29), 3) := by decide +kernel
theorem dX8_shelvesInUse_36 : decode cX8_shelvesInUse 36 = .ok (.iload_n 1, 1) := by decide +kernel
theorem dX8_shelvesInUse_37 : decode cX8_shelvesInUse 37 = .ok (.ireturn, 1) := by decide +kernel
theorem dX8_workInTruth_0 : decode cX8_workInTruth 0 = .ok (.aload_n 0, 1) := by decide +kernel
theorem dX8_workInTruth_1 : decode cX8_workInTruth 1 = .ok (.getfield 10, 3) := by decide +kernel
theorem dX8_workInTruth_4 : decode cX8_workInTruth 4 = .ok (.getfield 175, 3) := by decide +kernel
theorem dX8_workInTruth_7 : decode cX8_workInTruth 7 = .ok (.bipush 50, 2) := by decide +kernel
theorem dX8_workInTruth_9 : decode cX8_workInTruth 9 = .ok (.if_icmp .lt 19, 3) := by decide +kernel
theorem dX8_workInTruth_12 : decode cX8_workInTruth 12 = .ok (.aload_n 0, 1) := by decide +kernel
theorem dX8_workInTruth_13 : decode cX8_workInTruth 13 = .ok (.getfield 32, 3) := by decide +kernel
theorem dX8_workInTruth_16 : decode cX8_workInTruth 16 = .ok (.aload_n 0, 1) := by decide +kernel
theorem dX8_workInTruth_17 : decode cX8_workInTruth 17 = .ok (.getfield 10, 3) := by decide +kernel
theorem dX8_workInTruth_20 : decode cX8_workInTruth 20 = .ok (.getfield 181, 3) := by decide +kernel
theorem dX8_workInTruth_23 : decode cX8_workInTruth 23 = .ok (.invokevirtual 307, 3) := by decide +kernel
theorem dX8_workInTruth_26 : decode cX8_workInTruth 26 = .ok (.iconst 0, 1) := by decide +kernel
theorem dX8_workInTruth_27 : decode cX8_workInTruth 27 = .ok (.ireturn, 1) := by decide +kernel
theorem dX8_workInTruth_28 : decode cX8_workInTruth 28 = .ok (.aload_n 0, 1) := by decide +kernel
theorem dX8_workInTruth_29 : decode cX8_workInTruth 29 = .ok (.getfield 32, 3) := by decide +kernel
theorem dX8_workInTruth_32 : decode cX8_workInTruth 32 = .ok (.aload_n 1, 1) := by decide +kernel
theorem dX8_workInTruth_33 : decode cX8_workInTruth 33 = .ok (.aload_n 0, 1) := by decide +kernel
theorem dX8_workInTruth_34 : decode cX8_workInTruth 34 = .ok (.getfield 10, 3) := by decide +kernel
theorem dX8_workInTruth_37 : decode cX8_workInTruth 37 = .ok (.getfield 181, 3) := by decide +kernel
theorem dX8_workInTruth_40 : decode cX8_workInTruth 40 = .ok (.invokevirtual 216, 3) := by decide +kernel
theorem dX8_workInTruth_43 : decode cX8_workInTruth 43 = .ok (.aload_n 0, 1) := by decide +kernel
theorem dX8_workInTruth_44 : decode cX8_workInTruth 44 = .ok (.getfield 32, 3) := by decide +kernel
theorem dX8_workInTruth_47 : decode cX8_workInTruth 47 = .ok (.invokevirtual 220, 3) := by decide +kernel
theorem dX8_workInTruth_50 : decode cX8_workInTruth 50 = .ok (.ifCond .ne 22, 3) := by decide +kernel
theorem dX8_workInTruth_53 : decode cX8_workInTruth 53 = .ok (.aload_n 0, 1) := by decide +kernel
theorem dX8_workInTruth_54 : decode cX8_workInTruth 54 = .ok (.getfield 10, 3) := by decide +kernel
theorem dX8_workInTruth_57 : decode cX8_workInTruth 57 = .ok (.aload_n 0, 1) := by decide +kernel
theorem dX8_workInTruth_58 : decode cX8_workInTruth 58 = .ok (.getfield 32, 3) := by decide +kernel
theorem dX8_workInTruth_61 : decode cX8_workInTruth 61 = .ok (.iload_n 2, 1) := by decide +kernel
theorem dX8_workInTruth_62 : decode cX8_workInTruth 62 = .ok (.invokevirtual 310, 3) := by decide +kernel
theorem dX8_workInTruth_65 : decode cX8_workInTruth 65 = .ok (.ifCond .eq 7, 3) := by decide +kernel
theorem dX8_workInTruth_68 : decode cX8_workInTruth 68 = .ok (.iconst 1, 1) := by decide +kernel
theorem dX8_workInTruth_69 : decode cX8_workInTruth 69 = .ok (.goto 4, 3) := by decide +kernel
theorem dX8_workInTruth_72 : decode cX8_workInTruth 72 = .ok (.iconst 0, 1) := by decide +kernel
theorem dX8_workInTruth_73 : decode cX8_workInTruth 73 = .ok (.ireturn, 1) := by decide +kernel
theorem dX8_keepWhy_0 : decode cX8_keepWhy 0 = .ok (.aload_n 0, 1) := by decide +kernel
theorem dX8_keepWhy_1 : decode cX8_keepWhy 1 = .ok (.getfield 39, 3) := by decide +kernel
theorem dX8_keepWhy_4 : decode cX8_keepWhy 4 = .ok (.bipush 11, 2) := by decide +kernel
theorem dX8_keepWhy_6 : decode cX8_keepWhy 6 = .ok (.iload_n 1, 1) := by decide +kernel
theorem dX8_keepWhy_7 : decode cX8_keepWhy 7 = .ok (.aload_n 0, 1) := by decide +kernel
theorem dX8_keepWhy_8 : decode cX8_keepWhy 8 = .ok (.getfield 32, 3) := by decide +kernel
theorem dX8_keepWhy_11 : decode cX8_keepWhy 11 = .ok (.getfield 226, 3) := by decide +kernel
theorem dX8_keepWhy_14 : decode cX8_keepWhy 14 = .ok (.getfield 227, 3) := by decide +kernel
theorem dX8_keepWhy_17 : decode cX8_keepWhy 17 = .ok (.invokevirtual 200, 3) := by decide +kernel
theorem dX8_keepWhy_20 : decode cX8_keepWhy 20 = .ok (.iconst 0, 1) := by decide +kernel
theorem dX8_keepWhy_21 : decode cX8_keepWhy 21 = .ok (.istore_n 2, 1) := by decide +kernel
theorem dX8_keepWhy_22 : decode cX8_keepWhy 22 = .ok (.iload_n 2, 1) := by decide +kernel
theorem dX8_keepWhy_23 : decode cX8_keepWhy 23 = .ok (.aload_n 0, 1) := by decide +kernel
theorem dX8_keepWhy_24 : decode cX8_keepWhy 24 = .ok (.getfield 32, 3) := by decide +kernel
theorem dX8_keepWhy_27 : decode cX8_keepWhy 27 = .ok (.getfield 314, 3) := by decide +kernel
theorem dX8_keepWhy_30 : decode cX8_keepWhy 30 = .ok (.if_icmp .ge 34, 3) := by decide +kernel
theorem dX8_keepWhy_33 : decode cX8_keepWhy 33 = .ok (.aload_n 0, 1) := by decide +kernel
theorem dX8_keepWhy_34 : decode cX8_keepWhy 34 = .ok (.getfield 39, 3) := by decide +kernel
theorem dX8_keepWhy_37 : decode cX8_keepWhy 37 = .ok (.bipush 10, 2) := by decide +kernel
theorem dX8_keepWhy_39 : decode cX8_keepWhy 39 = .ok (.aload_n 0, 1) := by decide +kernel
theorem dX8_keepWhy_40 : decode cX8_keepWhy 40 = .ok (.getfield 32, 3) := by decide +kernel
theorem dX8_keepWhy_43 : decode cX8_keepWhy 43 = .ok (.iload_n 2, 1) := by decide +kernel
theorem dX8_keepWhy_44 : decode cX8_keepWhy 44 = .ok (.invokevirtual 317, 3) := by decide +kernel
theorem dX8_keepWhy_47 : decode cX8_keepWhy 47 = .ok (.aload_n 0, 1) := by decide +kernel
theorem dX8_keepWhy_48 : decode cX8_keepWhy 48 = .ok (.getfield 32, 3) := by decide +kernel
theorem dX8_keepWhy_51 : decode cX8_keepWhy 51 = .ok (.iload_n 2, 1) := by decide +kernel
theorem dX8_keepWhy_52 : decode cX8_keepWhy 52 = .ok (.invokevirtual 320, 3) := by decide +kernel
theorem dX8_keepWhy_55 : decode cX8_keepWhy 55 = .ok (.invokevirtual 200, 3) := by decide +kernel
theorem dX8_keepWhy_58 : decode cX8_keepWhy 58 = .ok (.iinc 2 1, 3) := by decide +kernel
theorem dX8_keepWhy_61 : decode cX8_keepWhy 61 = .ok (.goto (-39), 3) := by decide +kernel
theorem dX8_keepWhy_64 : decode cX8_keepWhy 64 = .ok (.aload_n 0, 1) := by decide +kernel
theorem dX8_keepWhy_65 : decode cX8_keepWhy 65 = .ok (.getfield 39, 3) := by decide +kernel
theorem dX8_keepWhy_68 : decode cX8_keepWhy 68 = .ok (.aload_n 0, 1) := by decide +kernel
theorem dX8_keepWhy_69 : decode cX8_keepWhy 69 = .ok (.getfield 32, 3) := by decide +kernel
theorem dX8_keepWhy_72 : decode cX8_keepWhy 72 = .ok (.getfield 232, 3) := by decide +kernel
theorem dX8_keepWhy_75 : decode cX8_keepWhy 75 = .ok (.aload_n 0, 1) := by decide +kernel
theorem dX8_keepWhy_76 : decode cX8_keepWhy 76 = .ok (.getfield 32, 3) := by decide +kernel
theorem dX8_keepWhy_79 : decode cX8_keepWhy 79 = .ok (.getfield 323, 3) := by decide +kernel
theorem dX8_keepWhy_82 : decode cX8_keepWhy 82 = .ok (.aload_n 0, 1) := by decide +kernel
theorem dX8_keepWhy_83 : decode cX8_keepWhy 83 = .ok (.getfield 32, 3) := by decide +kernel
theorem dX8_keepWhy_86 : decode cX8_keepWhy 86 = .ok (.getfield 326, 3) := by decide +kernel
theorem dX8_keepWhy_89 : decode cX8_keepWhy 89 = .ok (.invokevirtual 200, 3) := by decide +kernel
theorem dX8_keepWhy_92 : decode cX8_keepWhy 92 = .ok (.return_, 1) := by decide +kernel
theorem dX8_countBehind_0 : decode cX8_countBehind 0 = .ok (.iload_n 3, 1) := by decide +kernel
theorem dX8_countBehind_1 : decode cX8_countBehind 1 = .ok (.istore 4, 2) := by decide +kernel
theorem dX8_countBehind_3 : decode cX8_countBehind 3 = .ok (.iload_n 1, 1) := by decide +kernel
theorem dX8_countBehind_4 : decode cX8_countBehind 4 = .ok (.istore 5, 2) := by decide +kernel
theorem dX8_countBehind_6 : decode cX8_countBehind 6 = .ok (.iload 5, 2) := by decide +kernel
theorem dX8_countBehind_8 : decode cX8_countBehind 8 = .ok (.iload_n 2, 1) := by decide +kernel
theorem dX8_countBehind_9 : decode cX8_countBehind 9 = .ok (.if_icmp .gt 59, 3) := by decide +kernel
theorem dX8_countBehind_12 : decode cX8_countBehind 12 = .ok (.aload_n 0, 1) := by decide +kernel
theorem dX8_countBehind_13 : decode cX8_countBehind 13 = .ok (.getfield 10, 3) := by decide +kernel
theorem dX8_countBehind_16 : decode cX8_countBehind 16 = .ok (.iload 5, 2) := by decide +kernel
theorem dX8_countBehind_18 : decode cX8_countBehind 18 = .ok (.invokevirtual 155, 3) := by decide +kernel
theorem dX8_countBehind_21 : decode cX8_countBehind 21 = .ok (.astore 6, 2) := by decide +kernel
theorem dX8_countBehind_23 : decode cX8_countBehind 23 = .ok (.aload 6, 2) := by decide +kernel
theorem dX8_countBehind_25 : decode cX8_countBehind 25 = .ok (.ifnonnull 5, 3) := by decide +kernel
theorem dX8_countBehind_28 : decode cX8_countBehind 28 = .ok (.iconst (-1), 1) := by decide +kernel
theorem dX8_countBehind_29 : decode cX8_countBehind 29 = .ok (.ireturn, 1) := by decide +kernel
theorem dX8_countBehind_30 : decode cX8_countBehind 30 = .ok (.aload_n 0, 1) := by decide +kernel
theorem dX8_countBehind_31 : decode cX8_countBehind 31 = .ok (.getfield 32, 3) := by decide +kernel
theorem dX8_countBehind_34 : decode cX8_countBehind 34 = .ok (.aload 6, 2) := by decide +kernel
theorem dX8_countBehind_36 : decode cX8_countBehind 36 = .ok (.iload 4, 2) := by decide +kernel
theorem dX8_countBehind_38 : decode cX8_countBehind 38 = .ok (.invokevirtual 216, 3) := by decide +kernel
theorem dX8_countBehind_41 : decode cX8_countBehind 41 = .ok (.aload_n 0, 1) := by decide +kernel
theorem dX8_countBehind_42 : decode cX8_countBehind 42 = .ok (.getfield 32, 3) := by decide +kernel
theorem dX8_countBehind_45 : decode cX8_countBehind 45 = .ok (.invokevirtual 220, 3) := by decide +kernel
theorem dX8_countBehind_48 : decode cX8_countBehind 48 = .ok (.ifCond .eq 5, 3) := by decide +kernel
theorem dX8_countBehind_51 : decode cX8_countBehind 51 = .ok (.iconst (-1), 1) := by decide +kernel
theorem dX8_countBehind_52 : decode cX8_countBehind 52 = .ok (.ireturn, 1) := by decide +kernel
theorem dX8_countBehind_53 : decode cX8_countBehind 53 = .ok (.aload_n 0, 1) := by decide +kernel
theorem dX8_countBehind_54 : decode cX8_countBehind 54 = .ok (.getfield 32, 3) := by decide +kernel
theorem dX8_countBehind_57 : decode cX8_countBehind 57 = .ok (.getfield 223, 3) := by decide +kernel
theorem dX8_countBehind_60 : decode cX8_countBehind 60 = .ok (.istore 4, 2) := by decide +kernel
theorem dX8_countBehind_62 : decode cX8_countBehind 62 = .ok (.iinc 5 1, 3) := by decide +kernel
theorem dX8_countBehind_65 : decode cX8_countBehind 65 = .ok (.goto (-59), 3) := by decide +kernel
theorem dX8_countBehind_68 : decode cX8_countBehind 68 = .ok (.iload 4, 2) := by decide +kernel
theorem dX8_countBehind_70 : decode cX8_countBehind 70 = .ok (.ireturn, 1) := by decide +kernel
end
section
/-! decode rows (printed by the program of the task) -/
theorem dX9_isIn_0 : decode cX9_isIn 0 = .ok (.lload_n 0, 1) := by decide +kernel
theorem dX9_isIn_1 : decode cX9_isIn 1 = .ok (.lload_n 2, 1) := by decide +kernel
theorem dX9_isIn_2 : decode cX9_isIn 2 = .ok (.lcmp, 1) := by decide +kernel
theorem dX9_isIn_3 : decode cX9_isIn 3 = .ok (.ifCond .lt 14, 3) := by decide +kernel
theorem dX9_isIn_6 : decode cX9_isIn 6 = .ok (.lload_n 0, 1) := by decide +kernel
theorem dX9_isIn_7 : decode cX9_isIn 7 = .ok (.lload 4, 2) := by decide +kernel
theorem dX9_isIn_9 : decode cX9_isIn 9 = .ok (.lcmp, 1) := by decide +kernel
theorem dX9_isIn_10 : decode cX9_isIn 10 = .ok (.ifCond .gt 7, 3) := by decide +kernel
theorem dX9_isIn_13 : decode cX9_isIn 13 = .ok (.iconst 1, 1) := by decide +kernel
theorem dX9_isIn_14 : decode cX9_isIn 14 = .ok (.goto 4, 3) := by decide +kernel
theorem dX9_isIn_17 : decode cX9_isIn 17 = .ok (.iconst 0, 1) := by decide +kernel
theorem dX9_isIn_18 : decode cX9_isIn 18 = .ok (.ireturn, 1) := by decide +kernel
theorem dX9_refuses_0 : decode cX9_refuses 0 = .ok (.aload_n 0, 1) := by decide +kernel
theorem dX9_refuses_1 : decode cX9_refuses 1 = .ok (.getfield 1, 3) := by decide +kernel
theorem dX9_refuses_4 : decode cX9_refuses 4 = .ok (.bipush (-92), 2) := by decide +kernel
theorem dX9_refuses_6 : decode cX9_refuses 6 = .ok (.iload_n 1, 1) := by decide +kernel
theorem dX9_refuses_7 : decode cX9_refuses 7 = .ok (.isub, 1) := by decide +kernel
theorem dX9_refuses_8 : decode cX9_refuses 8 = .ok (.dup2, 1) := by decide +kernel
theorem dX9_refuses_9 : decode cX9_refuses 9 = .ok (.iaload, 1) := by decide +kernel
theorem dX9_refuses_10 : decode cX9_refuses 10 = .ok (.iconst 1, 1) := by decide +kernel
theorem dX9_refuses_11 : decode cX9_refuses 11 = .ok (.iadd, 1) := by decide +kernel
theorem dX9_refuses_12 : decode cX9_refuses 12 = .ok (.iastore, 1) := by decide +kernel
theorem dX9_refuses_13 : decode cX9_refuses 13 = .ok (.iload_n 1, 1) := by decide +kernel
theorem dX9_refuses_14 : decode cX9_refuses 14 = .ok (.ireturn, 1) := by decide +kernel
theorem dX9_init_0 : decode cX9_init 0 = .ok (.aload_n 0, 1) := by decide +kernel
theorem dX9_init_1 : decode cX9_init 1 = .ok (.invokespecial 7, 3) := by decide +kernel
theorem dX9_init_4 : decode cX9_init 4 = .ok (.aload_n 0, 1) := by decide +kernel
theorem dX9_init_5 : decode cX9_init 5 = .ok (.iconst 5, 1) := by decide +kernel
theorem dX9_init_6 : decode cX9_init 6 = .ok (.newarray .int, 2) := by decide +kernel
theorem dX9_init_8 : decode cX9_init 8 = .ok (.putfield 1, 3) := by decide +kernel
theorem dX9_init_11 : decode cX9_init 11 = .ok (.aload_n 0, 1) := by decide +kernel
theorem dX9_init_12 : decode cX9_init 12 = .ok (.sipush 15226, 3) := by decide +kernel
theorem dX9_init_15 : decode cX9_init 15 = .ok (.newarray .int, 2) := by decide +kernel
theorem dX9_init_17 : decode cX9_init 17 = .ok (.putfield 13, 3) := by decide +kernel
theorem dX9_init_20 : decode cX9_init 20 = .ok (.aload_n 0, 1) := by decide +kernel
theorem dX9_init_21 : decode cX9_init 21 = .ok (.sipush 15226, 3) := by decide +kernel
theorem dX9_init_24 : decode cX9_init 24 = .ok (.newarray .int, 2) := by decide +kernel
theorem dX9_init_26 : decode cX9_init 26 = .ok (.putfield 16, 3) := by decide +kernel
theorem dX9_init_29 : decode cX9_init 29 = .ok (.aload_n 0, 1) := by decide +kernel
theorem dX9_init_30 : decode cX9_init 30 = .ok (.sipush 250, 3) := by decide +kernel
theorem dX9_init_33 : decode cX9_init 33 = .ok (.newarray .int, 2) := by decide +kernel
theorem dX9_init_35 : decode cX9_init 35 = .ok (.putfield 19, 3) := by decide +kernel
theorem dX9_init_38 : decode cX9_init 38 = .ok (.aload_n 0, 1) := by decide +kernel
theorem dX9_init_39 : decode cX9_init 39 = .ok (.sipush 250, 3) := by decide +kernel
theorem dX9_init_42 : decode cX9_init 42 = .ok (.newarray .int, 2) := by decide +kernel
theorem dX9_init_44 : decode cX9_init 44 = .ok (.putfield 22, 3) := by decide +kernel
theorem dX9_init_47 : decode cX9_init 47 = .ok (.aload_n 0, 1) := by decide +kernel
theorem dX9_init_48 : decode cX9_init 48 = .ok (.sipush 200, 3) := by decide +kernel
theorem dX9_init_51 : decode cX9_init 51 = .ok (.newarray .int, 2) := by decide +kernel
theorem dX9_init_53 : decode cX9_init 53 = .ok (.putfield 25, 3) := by decide +kernel
theorem dX9_init_56 : decode cX9_init 56 = .ok (.aload_n 0, 1) := by decide +kernel
theorem dX9_init_57 : decode cX9_init 57 = .ok (.bipush 6, 2) := by decide +kernel
theorem dX9_init_59 : decode cX9_init 59 = .ok (.newarray .int, 2) := by decide +kernel
theorem dX9_init_61 : decode cX9_init 61 = .ok (.putfield 28, 3) := by decide +kernel
theorem dX9_init_64 : decode cX9_init 64 = .ok (.aload_n 0, 1) := by decide +kernel
theorem dX9_init_65 : decode cX9_init 65 = .ok (.bipush 6, 2) := by decide +kernel
theorem dX9_init_67 : decode cX9_init 67 = .ok (.newarray .int, 2) := by decide +kernel
theorem dX9_init_69 : decode cX9_init 69 = .ok (.putfield 31, 3) := by decide +kernel
theorem dX9_init_72 : decode cX9_init 72 = .ok (.aload_n 0, 1) := by decide +kernel
theorem dX9_init_73 : decode cX9_init 73 = .ok (.bipush 30, 2) := by decide +kernel
theorem dX9_init_75 : decode cX9_init 75 = .ok (.newarray .int, 2) := by decide +kernel
theorem dX9_init_77 : decode cX9_init 77 = .ok (.putfield 34, 3) := by decide +kernel
theorem dX9_init_80 : decode cX9_init 80 = .ok (.aload_n 0, 1) := by decide +kernel
theorem dX9_init_81 : decode cX9_init 81 = .ok (.bipush 8, 2) := by decide +kernel
theorem dX9_init_83 : decode cX9_init 83 = .ok (.newarray .int, 2) := by decide +kernel
theorem dX9_init_85 : decode cX9_init 85 = .ok (.dup, 1) := by decide +kernel
theorem dX9_init_86 : decode cX9_init 86 = .ok (.iconst 0, 1) := by decide +kernel
theorem dX9_init_87 : decode cX9_init 87 = .ok (.iconst (-1), 1) := by decide +kernel
theorem dX9_init_88 : decode cX9_init 88 = .ok (.iastore, 1) := by decide +kernel
theorem dX9_init_89 : decode cX9_init 89 = .ok (.dup, 1) := by decide +kernel
theorem dX9_init_90 : decode cX9_init 90 = .ok (.iconst 1, 1) := by decide +kernel
theorem dX9_init_91 : decode cX9_init 91 = .ok (.iconst (-1), 1) := by decide +kernel
theorem dX9_init_92 : decode cX9_init 92 = .ok (.iastore, 1) := by decide +kernel
theorem dX9_init_93 : decode cX9_init 93 = .ok (.dup, 1) := by decide +kernel
theorem dX9_init_94 : decode cX9_init 94 = .ok (.iconst 2, 1) := by decide +kernel
theorem dX9_init_95 : decode cX9_init 95 = .ok (.iconst (-1), 1) := by decide +kernel
theorem dX9_init_96 : decode cX9_init 96 = .ok (.iastore, 1) := by decide +kernel
theorem dX9_init_97 : decode cX9_init 97 = .ok (.dup, 1) := by decide +kernel
theorem dX9_init_98 : decode cX9_init 98 = .ok (.iconst 3, 1) := by decide +kernel
theorem dX9_init_99 : decode cX9_init 99 = .ok (.iconst (-1), 1) := by decide +kernel
theorem dX9_init_100 : decode cX9_init 100 = .ok (.iastore, 1) := by decide +kernel
theorem dX9_init_101 : decode cX9_init 101 = .ok (.dup, 1) := by decide +kernel
theorem dX9_init_102 : decode cX9_init 102 = .ok (.iconst 4, 1) := by decide +kernel
theorem dX9_init_103 : decode cX9_init 103 = .ok (.iconst (-1), 1) := by decide +kernel
theorem dX9_init_104 : decode cX9_init 104 = .ok (.iastore, 1) := by decide +kernel
theorem dX9_init_105 : decode cX9_init 105 = .ok (.dup, 1) := by decide +kernel
theorem dX9_init_106 : decode cX9_init 106 = .ok (.iconst 5, 1) := by decide +kernel
theorem dX9_init_107 : decode cX9_init 107 = .ok (.iconst (-1), 1) := by decide +kernel
theorem dX9_init_108 : decode cX9_init 108 = .ok (.iastore, 1) := by decide +kernel
theorem dX9_init_109 : decode cX9_init 109 = .ok (.dup, 1) := by decide +kernel
theorem dX9_init_110 : decode cX9_init 110 = .ok (.bipush 6, 2) := by decide +kernel
theorem dX9_init_112 : decode cX9_init 112 = .ok (.iconst (-1), 1) := by decide +kernel
theorem dX9_init_113 : decode cX9_init 113 = .ok (.iastore, 1) := by decide +kernel
theorem dX9_init_114 : decode cX9_init 114 = .ok (.dup, 1) := by decide +kernel
theorem dX9_init_115 : decode cX9_init 115 = .ok (.bipush 7, 2) := by decide +kernel
theorem dX9_init_117 : decode cX9_init 117 = .ok (.iconst (-1), 1) := by decide +kernel
theorem dX9_init_118 : decode cX9_init 118 = .ok (.iastore, 1) := by decide +kernel
theorem dX9_init_119 : decode cX9_init 119 = .ok (.putfield 37, 3) := by decide +kernel
theorem dX9_init_122 : decode cX9_init 122 = .ok (.aload_n 0, 1) := by decide +kernel
theorem dX9_init_123 : decode cX9_init 123 = .ok (.bipush 8, 2) := by decide +kernel
theorem dX9_init_125 : decode cX9_init 125 = .ok (.newarray .int, 2) := by decide +kernel
theorem dX9_init_127 : decode cX9_init 127 = .ok (.putfield 40, 3) := by decide +kernel
theorem dX9_init_130 : decode cX9_init 130 = .ok (.aload_n 0, 1) := by decide +kernel
theorem dX9_init_131 : decode cX9_init 131 = .ok (.sipush 320, 3) := by decide +kernel
theorem dX9_init_134 : decode cX9_init 134 = .ok (.newarray .long, 2) := by decide +kernel
theorem dX9_init_136 : decode cX9_init 136 = .ok (.putfield 43, 3) := by decide +kernel
theorem dX9_init_139 : decode cX9_init 139 = .ok (.aload_n 0, 1) := by decide +kernel
theorem dX9_init_140 : decode cX9_init 140 = .ok (.bipush 40, 2) := by decide +kernel
theorem dX9_init_142 : decode cX9_init 142 = .ok (.newarray .long, 2) := by decide +kernel
theorem dX9_init_144 : decode cX9_init 144 = .ok (.putfield 47, 3) := by decide +kernel
theorem dX9_init_147 : decode cX9_init 147 = .ok (.aload_n 0, 1) := by decide +kernel
theorem dX9_init_148 : decode cX9_init 148 = .ok (.getfield 13, 3) := by decide +kernel
theorem dX9_init_151 : decode cX9_init 151 = .ok (.sipush 5024, 3) := by decide +kernel
theorem dX9_init_154 : decode cX9_init 154 = .ok (.iconst 1, 1) := by decide +kernel
theorem dX9_init_155 : decode cX9_init 155 = .ok (.iastore, 1) := by decide +kernel
theorem dX9_init_156 : decode cX9_init 156 = .ok (.return_, 1) := by decide +kernel
theorem dX9_pours_0 : decode cX9_pours 0 = .ok (.iconst 0, 1) := by decide +kernel
theorem dX9_pours_1 : decode cX9_pours 1 = .ok (.istore_n 2, 1) := by decide +kernel
theorem dX9_pours_2 : decode cX9_pours 2 = .ok (.iload_n 2, 1) := by decide +kernel
theorem dX9_pours_3 : decode cX9_pours 3 = .ok (.sipush 15226, 3) := by decide +kernel
theorem dX9_pours_6 : decode cX9_pours 6 = .ok (.if_icmp .ge 15, 3) := by decide +kernel
theorem dX9_pours_9 : decode cX9_pours 9 = .ok (.aload_n 1, 1) := by decide +kernel
theorem dX9_pours_10 : decode cX9_pours 10 = .ok (.iload_n 2, 1) := by decide +kernel
theorem dX9_pours_11 : decode cX9_pours 11 = .ok (.aload_n 0, 1) := by decide +kernel
theorem dX9_pours_12 : decode cX9_pours 12 = .ok (.iload_n 2, 1) := by decide +kernel
theorem dX9_pours_13 : decode cX9_pours 13 = .ok (.iaload, 1) := by decide +kernel
theorem dX9_pours_14 : decode cX9_pours 14 = .ok (.iastore, 1) := by decide +kernel
theorem dX9_pours_15 : decode cX9_pours 15 = .ok (.iinc 2 1, 3) := by decide +kernel
theorem dX9_pours_18 : decode cX9_pours 18 = .ok (.goto (-16), 3) := by decide +kernel
theorem dX9_pours_21 : decode cX9_pours 21 = .ok (.return_, 1) := by decide +kernel
theorem dX9_takes_0 : decode cX9_takes 0 = .ok (.iload_n 0, 1) := by decide +kernel
theorem dX9_takes_1 : decode cX9_takes 1 = .ok (.bipush 12, 2) := by decide +kernel
theorem dX9_takes_3 : decode cX9_takes 3 = .ok (.if_icmp .ne 7, 3) := by decide +kernel
theorem dX9_takes_6 : decode cX9_takes 6 = .ok (.iconst 3, 1) := by decide +kernel
theorem dX9_takes_7 : decode cX9_takes 7 = .ok (.goto 36, 3) := by decide +kernel
theorem dX9_takes_10 : decode cX9_takes 10 = .ok (.iload_n 0, 1) := by decide +kernel
theorem dX9_takes_11 : decode cX9_takes 11 = .ok (.bipush 9, 2) := by decide +kernel
theorem dX9_takes_13 : decode cX9_takes 13 = .ok (.if_icmp .eq 9, 3) := by decide +kernel
theorem dX9_takes_16 : decode cX9_takes 16 = .ok (.iload_n 0, 1) := by decide +kernel
theorem dX9_takes_17 : decode cX9_takes 17 = .ok (.bipush 10, 2) := by decide +kernel
theorem dX9_takes_19 : decode cX9_takes 19 = .ok (.if_icmp .ne 7, 3) := by decide +kernel
theorem dX9_takes_22 : decode cX9_takes 22 = .ok (.iconst 2, 1) := by decide +kernel
theorem dX9_takes_23 : decode cX9_takes 23 = .ok (.goto 20, 3) := by decide +kernel
theorem dX9_takes_26 : decode cX9_takes 26 = .ok (.iload_n 0, 1) := by decide +kernel
theorem dX9_takes_27 : decode cX9_takes 27 = .ok (.bipush 7, 2) := by decide +kernel
theorem dX9_takes_29 : decode cX9_takes 29 = .ok (.if_icmp .eq 9, 3) := by decide +kernel
theorem dX9_takes_32 : decode cX9_takes 32 = .ok (.iload_n 0, 1) := by decide +kernel
theorem dX9_takes_33 : decode cX9_takes 33 = .ok (.bipush 8, 2) := by decide +kernel
theorem dX9_takes_35 : decode cX9_takes 35 = .ok (.if_icmp .ne 7, 3) := by decide +kernel
theorem dX9_takes_38 : decode cX9_takes 38 = .ok (.iconst 0, 1) := by decide +kernel
theorem dX9_takes_39 : decode cX9_takes 39 = .ok (.goto 4, 3) := by decide +kernel
theorem dX9_takes_42 : decode cX9_takes 42 = .ok (.iconst 1, 1) := by decide +kernel
theorem dX9_takes_43 : decode cX9_takes 43 = .ok (.ireturn, 1) := by decide +kernel
theorem dX9_makes_0 : decode cX9_makes 0 = .ok (.iload_n 0, 1) := by decide +kernel
theorem dX9_makes_1 : decode cX9_makes 1 = .ok (.bipush 11, 2) := by decide +kernel
theorem dX9_makes_3 : decode cX9_makes 3 = .ok (.if_icmp .ne 7, 3) := by decide +kernel
theorem dX9_makes_6 : decode cX9_makes 6 = .ok (.iconst 0, 1) := by decide +kernel
theorem dX9_makes_7 : decode cX9_makes 7 = .ok (.goto 4, 3) := by decide +kernel
theorem dX9_makes_10 : decode cX9_makes 10 = .ok (.iconst 1, 1) := by decide +kernel
theorem dX9_makes_11 : decode cX9_makes 11 = .ok (.ireturn, 1) := by decide +kernel
theorem dX9_yarnOf_0 : decode cX9_yarnOf 0 = .ok (.iload_n 0, 1) := by decide +kernel
theorem dX9_yarnOf_1 : decode cX9_yarnOf 1 = .ok (.tableswitch 70 4 11 #[47, 50, 53, 55, 58, 61, 64, 67], 47) := by decide +kernel
theorem dX9_yarnOf_48 : decode cX9_yarnOf 48 = .ok (.bipush 10, 2) := by decide +kernel
theorem dX9_yarnOf_50 : decode cX9_yarnOf 50 = .ok (.ireturn, 1) := by decide +kernel
theorem dX9_yarnOf_51 : decode cX9_yarnOf 51 = .ok (.bipush 11, 2) := by decide +kernel
theorem dX9_yarnOf_53 : decode cX9_yarnOf 53 = .ok (.ireturn, 1) := by decide +kernel
theorem dX9_yarnOf_54 : decode cX9_yarnOf 54 = .ok (.iconst 4, 1) := by decide +kernel
theorem dX9_yarnOf_55 : decode cX9_yarnOf 55 = .ok (.ireturn, 1) := by decide +kernel
theorem dX9_yarnOf_56 : decode cX9_yarnOf 56 = .ok (.bipush 13, 2) := by decide +kernel
theorem dX9_yarnOf_58 : decode cX9_yarnOf 58 = .ok (.ireturn, 1) := by decide +kernel
theorem dX9_yarnOf_59 : decode cX9_yarnOf 59 = .ok (.bipush 9, 2) := by decide +kernel
theorem dX9_yarnOf_61 : decode cX9_yarnOf 61 = .ok (.ireturn, 1) := by decide +kernel
theorem dX9_yarnOf_62 : decode cX9_yarnOf 62 = .ok (.bipush 12, 2) := by decide +kernel
theorem dX9_yarnOf_64 : decode cX9_yarnOf 64 = .ok (.ireturn, 1) := by decide +kernel
theorem dX9_yarnOf_65 : decode cX9_yarnOf 65 = .ok (.bipush 14, 2) := by decide +kernel
theorem dX9_yarnOf_67 : decode cX9_yarnOf 67 = .ok (.ireturn, 1) := by decide +kernel
theorem dX9_yarnOf_68 : decode cX9_yarnOf 68 = .ok (.bipush 15, 2) := by decide +kernel
theorem dX9_yarnOf_70 : decode cX9_yarnOf 70 = .ok (.ireturn, 1) := by decide +kernel
theorem dX9_yarnOf_71 : decode cX9_yarnOf 71 = .ok (.bipush 18, 2) := by decide +kernel
theorem dX9_yarnOf_73 : decode cX9_yarnOf 73 = .ok (.ireturn, 1) := by decide +kernel
theorem dX9_mirror_0 : decode cX9_mirror 0 = .ok (.iload_n 0, 1) := by decide +kernel
theorem dX9_mirror_1 : decode cX9_mirror 1 = .ok (.bipush 9, 2) := by decide +kernel
theorem dX9_mirror_3 : decode cX9_mirror 3 = .ok (.if_icmp .ne 8, 3) := by decide +kernel
theorem dX9_mirror_6 : decode cX9_mirror 6 = .ok (.bipush 10, 2) := by decide +kernel
theorem dX9_mirror_8 : decode cX9_mirror 8 = .ok (.goto 15, 3) := by decide +kernel
theorem dX9_mirror_11 : decode cX9_mirror 11 = .ok (.iload_n 0, 1) := by decide +kernel
theorem dX9_mirror_12 : decode cX9_mirror 12 = .ok (.bipush 10, 2) := by decide +kernel
theorem dX9_mirror_14 : decode cX9_mirror 14 = .ok (.if_icmp .ne 8, 3) := by decide +kernel
theorem dX9_mirror_17 : decode cX9_mirror 17 = .ok (.bipush 9, 2) := by decide +kernel
theorem dX9_mirror_19 : decode cX9_mirror 19 = .ok (.goto 4, 3) := by decide +kernel
theorem dX9_mirror_22 : decode cX9_mirror 22 = .ok (.iload_n 0, 1) := by decide +kernel
theorem dX9_mirror_23 : decode cX9_mirror 23 = .ok (.ireturn, 1) := by decide +kernel
theorem dX9_turn_0 : decode cX9_turn 0 = .ok (.iload_n 0, 1) := by decide +kernel
theorem dX9_turn_1 : decode cX9_turn 1 = .ok (.iconst 4, 1) := by decide +kernel
theorem dX9_turn_2 : decode cX9_turn 2 = .ok (.if_icmp .ne 7, 3) := by decide +kernel
theorem dX9_turn_5 : decode cX9_turn 5 = .ok (.iconst 5, 1) := by decide +kernel
theorem dX9_turn_6 : decode cX9_turn 6 = .ok (.goto 16, 3) := by decide +kernel
theorem dX9_turn_9 : decode cX9_turn 9 = .ok (.iload_n 0, 1) := by decide +kernel
theorem dX9_turn_10 : decode cX9_turn 10 = .ok (.iconst 5, 1) := by decide +kernel
theorem dX9_turn_11 : decode cX9_turn 11 = .ok (.if_icmp .ne 7, 3) := by decide +kernel
theorem dX9_turn_14 : decode cX9_turn 14 = .ok (.iconst 4, 1) := by decide +kernel
theorem dX9_turn_15 : decode cX9_turn 15 = .ok (.goto 7, 3) := by decide +kernel
theorem dX9_turn_18 : decode cX9_turn 18 = .ok (.iload_n 0, 1) := by decide +kernel
theorem dX9_turn_19 : decode cX9_turn 19 = .ok (.invokestatic 50, 3) := by decide +kernel
theorem dX9_turn_22 : decode cX9_turn 22 = .ok (.ireturn, 1) := by decide +kernel
theorem dX9_isUnder_0 : decode cX9_isUnder 0 = .ok (.iload_n 1, 1) := by decide +kernel
theorem dX9_isUnder_1 : decode cX9_isUnder 1 = .ok (.ifCond .eq 59, 3) := by decide +kernel
theorem dX9_isUnder_4 : decode cX9_isUnder 4 = .ok (.iload_n 1, 1) := by decide +kernel
theorem dX9_isUnder_5 : decode cX9_isUnder 5 = .ok (.iload_n 0, 1) := by decide +kernel
theorem dX9_isUnder_6 : decode cX9_isUnder 6 = .ok (.if_icmp .eq 54, 3) := by decide +kernel
theorem dX9_isUnder_9 : decode cX9_isUnder 9 = .ok (.iload_n 1, 1) := by decide +kernel
theorem dX9_isUnder_10 : decode cX9_isUnder 10 = .ok (.iconst 1, 1) := by decide +kernel
theorem dX9_isUnder_11 : decode cX9_isUnder 11 = .ok (.if_icmp .ne 9, 3) := by decide +kernel
theorem dX9_isUnder_14 : decode cX9_isUnder 14 = .ok (.iload_n 0, 1) := by decide +kernel
theorem dX9_isUnder_15 : decode cX9_isUnder 15 = .ok (.bipush 7, 2) := by decide +kernel
theorem dX9_isUnder_17 : decode cX9_isUnder 17 = .ok (.if_icmp .lt 43, 3) := by decide +kernel
theorem dX9_isUnder_20 : decode cX9_isUnder 20 = .ok (.iload_n 1, 1) := by decide +kernel
theorem dX9_isUnder_21 : decode cX9_isUnder 21 = .ok (.iconst 2, 1) := by decide +kernel
theorem dX9_isUnder_22 : decode cX9_isUnder 22 = .ok (.if_icmp .ne 15, 3) := by decide +kernel
theorem dX9_isUnder_25 : decode cX9_isUnder 25 = .ok (.iload_n 0, 1) := by decide +kernel
theorem dX9_isUnder_26 : decode cX9_isUnder 26 = .ok (.bipush 7, 2) := by decide +kernel
theorem dX9_isUnder_28 : decode cX9_isUnder 28 = .ok (.if_icmp .eq 32, 3) := by decide +kernel
theorem dX9_isUnder_31 : decode cX9_isUnder 31 = .ok (.iload_n 0, 1) := by decide +kernel
theorem dX9_isUnder_32 : decode cX9_isUnder 32 = .ok (.bipush 8, 2) := by decide +kernel
theorem dX9_isUnder_34 : decode cX9_isUnder 34 = .ok (.if_icmp .eq 26, 3) := by decide +kernel
theorem dX9_isUnder_37 : decode cX9_isUnder 37 = .ok (.iload_n 1, 1) := by decide +kernel
theorem dX9_isUnder_38 : decode cX9_isUnder 38 = .ok (.iconst 3, 1) := by decide +kernel
theorem dX9_isUnder_39 : decode cX9_isUnder 39 = .ok (.if_icmp .ne 9, 3) := by decide +kernel
theorem dX9_isUnder_42 : decode cX9_isUnder 42 = .ok (.iload_n 0, 1) := by decide +kernel
theorem dX9_isUnder_43 : decode cX9_isUnder 43 = .ok (.bipush 8, 2) := by decide +kernel
theorem dX9_isUnder_45 : decode cX9_isUnder 45 = .ok (.if_icmp .gt 15, 3) := by decide +kernel
theorem dX9_isUnder_48 : decode cX9_isUnder 48 = .ok (.iload_n 1, 1) := by decide +kernel
theorem dX9_isUnder_49 : decode cX9_isUnder 49 = .ok (.bipush 10, 2) := by decide +kernel
theorem dX9_isUnder_51 : decode cX9_isUnder 51 = .ok (.if_icmp .ne 13, 3) := by decide +kernel
theorem dX9_isUnder_54 : decode cX9_isUnder 54 = .ok (.iload_n 0, 1) := by decide +kernel
theorem dX9_isUnder_55 : decode cX9_isUnder 55 = .ok (.bipush 12, 2) := by decide +kernel
theorem dX9_isUnder_57 : decode cX9_isUnder 57 = .ok (.if_icmp .ne 7, 3) := by decide +kernel
theorem dX9_isUnder_60 : decode cX9_isUnder 60 = .ok (.iconst 1, 1) := by decide +kernel
theorem dX9_isUnder_61 : decode cX9_isUnder 61 = .ok (.goto 4, 3) := by decide +kernel
theorem dX9_isUnder_64 : decode cX9_isUnder 64 = .ok (.iconst 0, 1) := by decide +kernel
theorem dX9_isUnder_65 : decode cX9_isUnder 65 = .ok (.ireturn, 1) := by decide +kernel
theorem dX9_kindOf_0 : decode cX9_kindOf 0 = .ok (.iload_n 0, 1) := by decide +kernel
theorem dX9_kindOf_1 : decode cX9_kindOf 1 = .ok (.sipush 256, 3) := by decide +kernel
theorem dX9_kindOf_4 : decode cX9_kindOf 4 = .ok (.imul, 1) := by decide +kernel
theorem dX9_kindOf_5 : decode cX9_kindOf 5 = .ok (.iload_n 1, 1) := by decide +kernel
theorem dX9_kindOf_6 : decode cX9_kindOf 6 = .ok (.iadd, 1) := by decide +kernel
theorem dX9_kindOf_7 : decode cX9_kindOf 7 = .ok (.istore_n 2, 1) := by decide +kernel
theorem dX9_kindOf_8 : decode cX9_kindOf 8 = .ok (.iload_n 2, 1) := by decide +kernel
theorem dX9_kindOf_9 : decode cX9_kindOf 9 = .ok (.lookupswitch 108 #[(25199, 102), (27392, 83), (27508, 96), (27904, 93), (28672, 85), (29540, 105), (29547, 99), (29548, 87), (31087, 90)], 83) := by decide +kernel
theorem dX9_kindOf_92 : decode cX9_kindOf 92 = .ok (.iconst 4, 1) := by decide +kernel
theorem dX9_kindOf_93 : decode cX9_kindOf 93 = .ok (.ireturn, 1) := by decide +kernel
theorem dX9_kindOf_94 : decode cX9_kindOf 94 = .ok (.iconst 5, 1) := by decide +kernel
theorem dX9_kindOf_95 : decode cX9_kindOf 95 = .ok (.ireturn, 1) := by decide +kernel
theorem dX9_kindOf_96 : decode cX9_kindOf 96 = .ok (.bipush 6, 2) := by decide +kernel
theorem dX9_kindOf_98 : decode cX9_kindOf 98 = .ok (.ireturn, 1) := by decide +kernel
theorem dX9_kindOf_99 : decode cX9_kindOf 99 = .ok (.bipush 7, 2) := by decide +kernel
theorem dX9_kindOf_101 : decode cX9_kindOf 101 = .ok (.ireturn, 1) := by decide +kernel
theorem dX9_kindOf_102 : decode cX9_kindOf 102 = .ok (.bipush 8, 2) := by decide +kernel
theorem dX9_kindOf_104 : decode cX9_kindOf 104 = .ok (.ireturn, 1) := by decide +kernel
theorem dX9_kindOf_105 : decode cX9_kindOf 105 = .ok (.bipush 9, 2) := by decide +kernel
theorem dX9_kindOf_107 : decode cX9_kindOf 107 = .ok (.ireturn, 1) := by decide +kernel
theorem dX9_kindOf_108 : decode cX9_kindOf 108 = .ok (.bipush 10, 2) := by decide +kernel
theorem dX9_kindOf_110 : decode cX9_kindOf 110 = .ok (.ireturn, 1) := by decide +kernel
theorem dX9_kindOf_111 : decode cX9_kindOf 111 = .ok (.bipush 11, 2) := by decide +kernel
theorem dX9_kindOf_113 : decode cX9_kindOf 113 = .ok (.ireturn, 1) := by decide +kernel
theorem dX9_kindOf_114 : decode cX9_kindOf 114 = .ok (.bipush 12, 2) := by decide +kernel
theorem dX9_kindOf_116 : decode cX9_kindOf 116 = .ok (.ireturn, 1) := by decide +kernel
theorem dX9_kindOf_117 : decode cX9_kindOf 117 = .ok (.iconst (-1), 1) := by decide +kernel
theorem dX9_kindOf_118 : decode cX9_kindOf 118 = .ok (.ireturn, 1) := by decide +kernel
theorem dX9_letter_0 : decode cX9_letter 0 = .ok (.iload_n 0, 1) := by decide +kernel
theorem dX9_letter_1 : decode cX9_letter 1 = .ok (.iconst 4, 1) := by decide +kernel
theorem dX9_letter_2 : decode cX9_letter 2 = .ok (.if_icmp .eq 9, 3) := by decide +kernel
theorem dX9_letter_5 : decode cX9_letter 5 = .ok (.iload_n 0, 1) := by decide +kernel
theorem dX9_letter_6 : decode cX9_letter 6 = .ok (.bipush 9, 2) := by decide +kernel
theorem dX9_letter_8 : decode cX9_letter 8 = .ok (.if_icmp .ne 8, 3) := by decide +kernel
theorem dX9_letter_11 : decode cX9_letter 11 = .ok (.bipush 107, 2) := by decide +kernel
theorem dX9_letter_13 : decode cX9_letter 13 = .ok (.goto 60, 3) := by decide +kernel
theorem dX9_letter_16 : decode cX9_letter 16 = .ok (.iload_n 0, 1) := by decide +kernel
theorem dX9_letter_17 : decode cX9_letter 17 = .ok (.iconst 5, 1) := by decide +kernel
theorem dX9_letter_18 : decode cX9_letter 18 = .ok (.if_icmp .ne 8, 3) := by decide +kernel
theorem dX9_letter_21 : decode cX9_letter 21 = .ok (.bipush 112, 2) := by decide +kernel
theorem dX9_letter_23 : decode cX9_letter 23 = .ok (.goto 50, 3) := by decide +kernel
theorem dX9_letter_26 : decode cX9_letter 26 = .ok (.iload_n 0, 1) := by decide +kernel
theorem dX9_letter_27 : decode cX9_letter 27 = .ok (.bipush 6, 2) := by decide +kernel
theorem dX9_letter_29 : decode cX9_letter 29 = .ok (.if_icmp .eq 15, 3) := by decide +kernel
theorem dX9_letter_32 : decode cX9_letter 32 = .ok (.iload_n 0, 1) := by decide +kernel
theorem dX9_letter_33 : decode cX9_letter 33 = .ok (.bipush 10, 2) := by decide +kernel
theorem dX9_letter_35 : decode cX9_letter 35 = .ok (.if_icmp .eq 9, 3) := by decide +kernel
theorem dX9_letter_38 : decode cX9_letter 38 = .ok (.iload_n 0, 1) := by decide +kernel
theorem dX9_letter_39 : decode cX9_letter 39 = .ok (.bipush 12, 2) := by decide +kernel
theorem dX9_letter_41 : decode cX9_letter 41 = .ok (.if_icmp .ne 8, 3) := by decide +kernel
theorem dX9_letter_44 : decode cX9_letter 44 = .ok (.bipush 115, 2) := by decide +kernel
theorem dX9_letter_46 : decode cX9_letter 46 = .ok (.goto 27, 3) := by decide +kernel
theorem dX9_letter_49 : decode cX9_letter 49 = .ok (.iload_n 0, 1) := by decide +kernel
theorem dX9_letter_50 : decode cX9_letter 50 = .ok (.bipush 7, 2) := by decide +kernel
theorem dX9_letter_52 : decode cX9_letter 52 = .ok (.if_icmp .ne 8, 3) := by decide +kernel
theorem dX9_letter_55 : decode cX9_letter 55 = .ok (.bipush 121, 2) := by decide +kernel
theorem dX9_letter_57 : decode cX9_letter 57 = .ok (.goto 16, 3) := by decide +kernel
theorem dX9_letter_60 : decode cX9_letter 60 = .ok (.iload_n 0, 1) := by decide +kernel
theorem dX9_letter_61 : decode cX9_letter 61 = .ok (.bipush 8, 2) := by decide +kernel
theorem dX9_letter_63 : decode cX9_letter 63 = .ok (.if_icmp .ne 8, 3) := by decide +kernel
theorem dX9_letter_66 : decode cX9_letter 66 = .ok (.bipush 109, 2) := by decide +kernel
theorem dX9_letter_68 : decode cX9_letter 68 = .ok (.goto 5, 3) := by decide +kernel
theorem dX9_letter_71 : decode cX9_letter 71 = .ok (.bipush 98, 2) := by decide +kernel
theorem dX9_letter_73 : decode cX9_letter 73 = .ok (.istore_n 2, 1) := by decide +kernel
theorem dX9_letter_74 : decode cX9_letter 74 = .ok (.iload_n 0, 1) := by decide +kernel
theorem dX9_letter_75 : decode cX9_letter 75 = .ok (.bipush 6, 2) := by decide +kernel
theorem dX9_letter_77 : decode cX9_letter 77 = .ok (.if_icmp .ne 8, 3) := by decide +kernel
theorem dX9_letter_80 : decode cX9_letter 80 = .ok (.bipush 108, 2) := by decide +kernel
theorem dX9_letter_82 : decode cX9_letter 82 = .ok (.goto 54, 3) := by decide +kernel
theorem dX9_letter_85 : decode cX9_letter 85 = .ok (.iload_n 0, 1) := by decide +kernel
theorem dX9_letter_86 : decode cX9_letter 86 = .ok (.bipush 7, 2) := by decide +kernel
theorem dX9_letter_88 : decode cX9_letter 88 = .ok (.if_icmp .eq 9, 3) := by decide +kernel
theorem dX9_letter_91 : decode cX9_letter 91 = .ok (.iload_n 0, 1) := by decide +kernel
theorem dX9_letter_92 : decode cX9_letter 92 = .ok (.bipush 11, 2) := by decide +kernel
theorem dX9_letter_94 : decode cX9_letter 94 = .ok (.if_icmp .ne 8, 3) := by decide +kernel
theorem dX9_letter_97 : decode cX9_letter 97 = .ok (.bipush 111, 2) := by decide +kernel
theorem dX9_letter_99 : decode cX9_letter 99 = .ok (.goto 37, 3) := by decide +kernel
theorem dX9_letter_102 : decode cX9_letter 102 = .ok (.iload_n 0, 1) := by decide +kernel
theorem dX9_letter_103 : decode cX9_letter 103 = .ok (.bipush 9, 2) := by decide +kernel
theorem dX9_letter_105 : decode cX9_letter 105 = .ok (.if_icmp .ne 8, 3) := by decide +kernel
theorem dX9_letter_108 : decode cX9_letter 108 = .ok (.bipush 116, 2) := by decide +kernel
theorem dX9_letter_110 : decode cX9_letter 110 = .ok (.goto 26, 3) := by decide +kernel
theorem dX9_letter_113 : decode cX9_letter 113 = .ok (.iload_n 0, 1) := by decide +kernel
theorem dX9_letter_114 : decode cX9_letter 114 = .ok (.bipush 10, 2) := by decide +kernel
theorem dX9_letter_116 : decode cX9_letter 116 = .ok (.if_icmp .ne 8, 3) := by decide +kernel
theorem dX9_letter_119 : decode cX9_letter 119 = .ok (.bipush 107, 2) := by decide +kernel
theorem dX9_letter_121 : decode cX9_letter 121 = .ok (.goto 15, 3) := by decide +kernel
theorem dX9_letter_124 : decode cX9_letter 124 = .ok (.iload_n 0, 1) := by decide +kernel
theorem dX9_letter_125 : decode cX9_letter 125 = .ok (.bipush 12, 2) := by decide +kernel
theorem dX9_letter_127 : decode cX9_letter 127 = .ok (.if_icmp .ne 8, 3) := by decide +kernel
theorem dX9_letter_130 : decode cX9_letter 130 = .ok (.bipush 100, 2) := by decide +kernel
theorem dX9_letter_132 : decode cX9_letter 132 = .ok (.goto 4, 3) := by decide +kernel
theorem dX9_letter_135 : decode cX9_letter 135 = .ok (.iconst 0, 1) := by decide +kernel
theorem dX9_letter_136 : decode cX9_letter 136 = .ok (.istore_n 3, 1) := by decide +kernel
theorem dX9_letter_137 : decode cX9_letter 137 = .ok (.iload_n 1, 1) := by decide +kernel
theorem dX9_letter_138 : decode cX9_letter 138 = .ok (.ifCond .ne 7, 3) := by decide +kernel
theorem dX9_letter_141 : decode cX9_letter 141 = .ok (.iload_n 2, 1) := by decide +kernel
theorem dX9_letter_142 : decode cX9_letter 142 = .ok (.goto 4, 3) := by decide +kernel
theorem dX9_letter_145 : decode cX9_letter 145 = .ok (.iload_n 3, 1) := by decide +kernel
theorem dX9_letter_146 : decode cX9_letter 146 = .ok (.ireturn, 1) := by decide +kernel
theorem dX9_feed_0 : decode cX9_feed 0 = .ok (.iload_n 1, 1) := by decide +kernel
theorem dX9_feed_1 : decode cX9_feed 1 = .ok (.i2l, 1) := by decide +kernel
theorem dX9_feed_2 : decode cX9_feed 2 = .ok (.lconst 0, 1) := by decide +kernel
theorem dX9_feed_3 : decode cX9_feed 3 = .ok (.ldc2_w 54, 3) := by decide +kernel
theorem dX9_feed_6 : decode cX9_feed 6 = .ok (.invokestatic 56, 3) := by decide +kernel
theorem dX9_feed_9 : decode cX9_feed 9 = .ok (.ifCond .ne 10, 3) := by decide +kernel
theorem dX9_feed_12 : decode cX9_feed 12 = .ok (.aload_n 0, 1) := by decide +kernel
theorem dX9_feed_13 : decode cX9_feed 13 = .ok (.bipush (-92), 2) := by decide +kernel
theorem dX9_feed_15 : decode cX9_feed 15 = .ok (.invokevirtual 60, 3) := by decide +kernel
theorem dX9_feed_18 : decode cX9_feed 18 = .ok (.ireturn, 1) := by decide +kernel
theorem dX9_feed_19 : decode cX9_feed 19 = .ok (.aload_n 0, 1) := by decide +kernel
theorem dX9_feed_20 : decode cX9_feed 20 = .ok (.getfield 63, 3) := by decide +kernel
theorem dX9_feed_23 : decode cX9_feed 23 = .ok (.sipush 250, 3) := by decide +kernel
theorem dX9_feed_26 : decode cX9_feed 26 = .ok (.if_icmp .ne 10, 3) := by decide +kernel
theorem dX9_feed_29 : decode cX9_feed 29 = .ok (.aload_n 0, 1) := by decide +kernel
theorem dX9_feed_30 : decode cX9_feed 30 = .ok (.bipush (-96), 2) := by decide +kernel
theorem dX9_feed_32 : decode cX9_feed 32 = .ok (.invokevirtual 60, 3) := by decide +kernel
theorem dX9_feed_35 : decode cX9_feed 35 = .ok (.ireturn, 1) := by decide +kernel
theorem dX9_feed_36 : decode cX9_feed 36 = .ok (.aload_n 0, 1) := by decide +kernel
theorem dX9_feed_37 : decode cX9_feed 37 = .ok (.getfield 19, 3) := by decide +kernel
theorem dX9_feed_40 : decode cX9_feed 40 = .ok (.aload_n 0, 1) := by decide +kernel
theorem dX9_feed_41 : decode cX9_feed 41 = .ok (.getfield 63, 3) := by decide +kernel
theorem dX9_feed_44 : decode cX9_feed 44 = .ok (.iload_n 1, 1) := by decide +kernel
theorem dX9_feed_45 : decode cX9_feed 45 = .ok (.iastore, 1) := by decide +kernel
theorem dX9_feed_46 : decode cX9_feed 46 = .ok (.aload_n 0, 1) := by decide +kernel
theorem dX9_feed_47 : decode cX9_feed 47 = .ok (.dup, 1) := by decide +kernel
theorem dX9_feed_48 : decode cX9_feed 48 = .ok (.getfield 63, 3) := by decide +kernel
theorem dX9_feed_51 : decode cX9_feed 51 = .ok (.iconst 1, 1) := by decide +kernel
theorem dX9_feed_52 : decode cX9_feed 52 = .ok (.iadd, 1) := by decide +kernel
theorem dX9_feed_53 : decode cX9_feed 53 = .ok (.putfield 63, 3) := by decide +kernel
theorem dX9_feed_56 : decode cX9_feed 56 = .ok (.aload_n 0, 1) := by decide +kernel
theorem dX9_feed_57 : decode cX9_feed 57 = .ok (.getfield 63, 3) := by decide +kernel
theorem dX9_feed_60 : decode cX9_feed 60 = .ok (.ireturn, 1) := by decide +kernel
theorem dX9_wipe_0 : decode cX9_wipe 0 = .ok (.aload_n 0, 1) := by decide +kernel
theorem dX9_wipe_1 : decode cX9_wipe 1 = .ok (.getfield 63, 3) := by decide +kernel
theorem dX9_wipe_4 : decode cX9_wipe 4 = .ok (.istore_n 1, 1) := by decide +kernel
theorem dX9_wipe_5 : decode cX9_wipe 5 = .ok (.aload_n 0, 1) := by decide +kernel
theorem dX9_wipe_6 : decode cX9_wipe 6 = .ok (.iconst 0, 1) := by decide +kernel
theorem dX9_wipe_7 : decode cX9_wipe 7 = .ok (.putfield 63, 3) := by decide +kernel
theorem dX9_wipe_10 : decode cX9_wipe 10 = .ok (.iload_n 1, 1) := by decide +kernel
theorem dX9_wipe_11 : decode cX9_wipe 11 = .ok (.ireturn, 1) := by decide +kernel
theorem dX9_peek_0 : decode cX9_peek 0 = .ok (.aload_n 0, 1) := by decide +kernel
theorem dX9_peek_1 : decode cX9_peek 1 = .ok (.getfield 67, 3) := by decide +kernel
theorem dX9_peek_4 : decode cX9_peek 4 = .ok (.aload_n 0, 1) := by decide +kernel
theorem dX9_peek_5 : decode cX9_peek 5 = .ok (.getfield 70, 3) := by decide +kernel
theorem dX9_peek_8 : decode cX9_peek 8 = .ok (.if_icmp .ge 15, 3) := by decide +kernel
theorem dX9_peek_11 : decode cX9_peek 11 = .ok (.aload_n 0, 1) := by decide +kernel
theorem dX9_peek_12 : decode cX9_peek 12 = .ok (.getfield 22, 3) := by decide +kernel
theorem dX9_peek_15 : decode cX9_peek 15 = .ok (.aload_n 0, 1) := by decide +kernel
theorem dX9_peek_16 : decode cX9_peek 16 = .ok (.getfield 67, 3) := by decide +kernel
theorem dX9_peek_19 : decode cX9_peek 19 = .ok (.iaload, 1) := by decide +kernel
theorem dX9_peek_20 : decode cX9_peek 20 = .ok (.goto 4, 3) := by decide +kernel
theorem dX9_peek_23 : decode cX9_peek 23 = .ok (.iconst (-1), 1) := by decide +kernel
theorem dX9_peek_24 : decode cX9_peek 24 = .ok (.ireturn, 1) := by decide +kernel
theorem dX9_isFigure_0 : decode cX9_isFigure 0 = .ok (.iload_n 0, 1) := by decide +kernel
theorem dX9_isFigure_1 : decode cX9_isFigure 1 = .ok (.i2l, 1) := by decide +kernel
theorem dX9_isFigure_2 : decode cX9_isFigure 2 = .ok (.ldc2_w 73, 3) := by decide +kernel
theorem dX9_isFigure_5 : decode cX9_isFigure 5 = .ok (.ldc2_w 75, 3) := by decide +kernel
theorem dX9_isFigure_8 : decode cX9_isFigure 8 = .ok (.invokestatic 56, 3) := by decide +kernel
theorem dX9_isFigure_11 : decode cX9_isFigure 11 = .ok (.ireturn, 1) := by decide +kernel
theorem dX9_number_0 : decode cX9_number 0 = .ok (.aload_n 0, 1) := by decide +kernel
theorem dX9_number_1 : decode cX9_number 1 = .ok (.getfield 67, 3) := by decide +kernel
theorem dX9_number_4 : decode cX9_number 4 = .ok (.istore_n 3, 1) := by decide +kernel
theorem dX9_number_5 : decode cX9_number 5 = .ok (.iconst 0, 1) := by decide +kernel
theorem dX9_number_6 : decode cX9_number 6 = .ok (.istore 4, 2) := by decide +kernel
theorem dX9_number_8 : decode cX9_number 8 = .ok (.iconst 0, 1) := by decide +kernel
theorem dX9_number_9 : decode cX9_number 9 = .ok (.istore 5, 2) := by decide +kernel
theorem dX9_number_11 : decode cX9_number 11 = .ok (.iload 5, 2) := by decide +kernel
theorem dX9_number_13 : decode cX9_number 13 = .ok (.iconst 2, 1) := by decide +kernel
theorem dX9_number_14 : decode cX9_number 14 = .ok (.if_icmp .ge 44, 3) := by decide +kernel
theorem dX9_number_17 : decode cX9_number 17 = .ok (.aload_n 0, 1) := by decide +kernel
theorem dX9_number_18 : decode cX9_number 18 = .ok (.invokevirtual 77, 3) := by decide +kernel
theorem dX9_number_21 : decode cX9_number 21 = .ok (.invokestatic 81, 3) := by decide +kernel
theorem dX9_number_24 : decode cX9_number 24 = .ok (.ifCond .eq 34, 3) := by decide +kernel
theorem dX9_number_27 : decode cX9_number 27 = .ok (.bipush 10, 2) := by decide +kernel
theorem dX9_number_29 : decode cX9_number 29 = .ok (.iload 4, 2) := by decide +kernel
theorem dX9_number_31 : decode cX9_number 31 = .ok (.imul, 1) := by decide +kernel
theorem dX9_number_32 : decode cX9_number 32 = .ok (.aload_n 0, 1) := by decide +kernel
theorem dX9_number_33 : decode cX9_number 33 = .ok (.invokevirtual 77, 3) := by decide +kernel
theorem dX9_number_36 : decode cX9_number 36 = .ok (.iadd, 1) := by decide +kernel
theorem dX9_number_37 : decode cX9_number 37 = .ok (.bipush 48, 2) := by decide +kernel
theorem dX9_number_39 : decode cX9_number 39 = .ok (.isub, 1) := by decide +kernel
theorem dX9_number_40 : decode cX9_number 40 = .ok (.istore 4, 2) := by decide +kernel
theorem dX9_number_42 : decode cX9_number 42 = .ok (.aload_n 0, 1) := by decide +kernel
theorem dX9_number_43 : decode cX9_number 43 = .ok (.dup, 1) := by decide +kernel
theorem dX9_number_44 : decode cX9_number 44 = .ok (.getfield 67, 3) := by decide +kernel
theorem dX9_number_47 : decode cX9_number 47 = .ok (.iconst 1, 1) := by decide +kernel
theorem dX9_number_48 : decode cX9_number 48 = .ok (.iadd, 1) := by decide +kernel
theorem dX9_number_49 : decode cX9_number 49 = .ok (.putfield 67, 3) := by decide +kernel
theorem dX9_number_52 : decode cX9_number 52 = .ok (.iinc 5 1, 3) := by decide +kernel
theorem dX9_number_55 : decode cX9_number 55 = .ok (.goto (-44), 3) := by decide +kernel
theorem dX9_number_58 : decode cX9_number 58 = .ok (.aload_n 0, 1) := by decide +kernel
theorem dX9_number_59 : decode cX9_number 59 = .ok (.getfield 67, 3) := by decide +kernel
theorem dX9_number_62 : decode cX9_number 62 = .ok (.iload_n 3, 1) := by decide +kernel
theorem dX9_number_63 : decode cX9_number 63 = .ok (.if_icmp .eq 16, 3) := by decide +kernel
theorem dX9_number_66 : decode cX9_number 66 = .ok (.iload 4, 2) := by decide +kernel
theorem dX9_number_68 : decode cX9_number 68 = .ok (.i2l, 1) := by decide +kernel
theorem dX9_number_69 : decode cX9_number 69 = .ok (.iload_n 1, 1) := by decide +kernel
theorem dX9_number_70 : decode cX9_number 70 = .ok (.i2l, 1) := by decide +kernel
theorem dX9_number_71 : decode cX9_number 71 = .ok (.iload_n 2, 1) := by decide +kernel
theorem dX9_number_72 : decode cX9_number 72 = .ok (.i2l, 1) := by decide +kernel
theorem dX9_number_73 : decode cX9_number 73 = .ok (.invokestatic 56, 3) := by decide +kernel
theorem dX9_number_76 : decode cX9_number 76 = .ok (.ifCond .ne 13, 3) := by decide +kernel
theorem dX9_number_79 : decode cX9_number 79 = .ok (.aload_n 0, 1) := by decide +kernel
theorem dX9_number_80 : decode cX9_number 80 = .ok (.iload_n 3, 1) := by decide +kernel
theorem dX9_number_81 : decode cX9_number 81 = .ok (.putfield 67, 3) := by decide +kernel
theorem dX9_number_84 : decode cX9_number 84 = .ok (.aload_n 0, 1) := by decide +kernel
theorem dX9_number_85 : decode cX9_number 85 = .ok (.iconst 0, 1) := by decide +kernel
theorem dX9_number_86 : decode cX9_number 86 = .ok (.putfield 85, 3) := by decide +kernel
theorem dX9_number_89 : decode cX9_number 89 = .ok (.iload 4, 2) := by decide +kernel
theorem dX9_number_91 : decode cX9_number 91 = .ok (.ireturn, 1) := by decide +kernel
theorem dX9_word_0 : decode cX9_word 0 = .ok (.aload_n 0, 1) := by decide +kernel
theorem dX9_word_1 : decode cX9_word 1 = .ok (.getfield 67, 3) := by decide +kernel
theorem dX9_word_4 : decode cX9_word 4 = .ok (.istore_n 1, 1) := by decide +kernel
theorem dX9_word_5 : decode cX9_word 5 = .ok (.aload_n 0, 1) := by decide +kernel
theorem dX9_word_6 : decode cX9_word 6 = .ok (.invokevirtual 77, 3) := by decide +kernel
theorem dX9_word_9 : decode cX9_word 9 = .ok (.i2l, 1) := by decide +kernel
theorem dX9_word_10 : decode cX9_word 10 = .ok (.ldc2_w 89, 3) := by decide +kernel
theorem dX9_word_13 : decode cX9_word 13 = .ok (.ldc2_w 91, 3) := by decide +kernel
theorem dX9_word_16 : decode cX9_word 16 = .ok (.invokestatic 56, 3) := by decide +kernel
theorem dX9_word_19 : decode cX9_word 19 = .ok (.ifCond .eq 16, 3) := by decide +kernel
theorem dX9_word_22 : decode cX9_word 22 = .ok (.aload_n 0, 1) := by decide +kernel
theorem dX9_word_23 : decode cX9_word 23 = .ok (.dup, 1) := by decide +kernel
theorem dX9_word_24 : decode cX9_word 24 = .ok (.getfield 67, 3) := by decide +kernel
theorem dX9_word_27 : decode cX9_word 27 = .ok (.iconst 1, 1) := by decide +kernel
theorem dX9_word_28 : decode cX9_word 28 = .ok (.iadd, 1) := by decide +kernel
theorem dX9_word_29 : decode cX9_word 29 = .ok (.putfield 67, 3) := by decide +kernel
theorem dX9_word_32 : decode cX9_word 32 = .ok (.goto (-27), 3) := by decide +kernel
theorem dX9_word_35 : decode cX9_word 35 = .ok (.aload_n 0, 1) := by decide +kernel
theorem dX9_word_36 : decode cX9_word 36 = .ok (.getfield 67, 3) := by decide +kernel
theorem dX9_word_39 : decode cX9_word 39 = .ok (.iload_n 1, 1) := by decide +kernel
theorem dX9_word_40 : decode cX9_word 40 = .ok (.isub, 1) := by decide +kernel
theorem dX9_word_41 : decode cX9_word 41 = .ok (.istore_n 2, 1) := by decide +kernel
theorem dX9_word_42 : decode cX9_word 42 = .ok (.iload_n 2, 1) := by decide +kernel
theorem dX9_word_43 : decode cX9_word 43 = .ok (.iconst 1, 1) := by decide +kernel
theorem dX9_word_44 : decode cX9_word 44 = .ok (.if_icmp .lt 8, 3) := by decide +kernel
theorem dX9_word_47 : decode cX9_word 47 = .ok (.iload_n 2, 1) := by decide +kernel
theorem dX9_word_48 : decode cX9_word 48 = .ok (.iconst 2, 1) := by decide +kernel
theorem dX9_word_49 : decode cX9_word 49 = .ok (.if_icmp .le 7, 3) := by decide +kernel
theorem dX9_word_52 : decode cX9_word 52 = .ok (.iconst (-1), 1) := by decide +kernel
theorem dX9_word_53 : decode cX9_word 53 = .ok (.goto 29, 3) := by decide +kernel
theorem dX9_word_56 : decode cX9_word 56 = .ok (.aload_n 0, 1) := by decide +kernel
theorem dX9_word_57 : decode cX9_word 57 = .ok (.getfield 22, 3) := by decide +kernel
theorem dX9_word_60 : decode cX9_word 60 = .ok (.iload_n 1, 1) := by decide +kernel
theorem dX9_word_61 : decode cX9_word 61 = .ok (.iaload, 1) := by decide +kernel
theorem dX9_word_62 : decode cX9_word 62 = .ok (.iload_n 2, 1) := by decide +kernel
theorem dX9_word_63 : decode cX9_word 63 = .ok (.iconst 2, 1) := by decide +kernel
theorem dX9_word_64 : decode cX9_word 64 = .ok (.if_icmp .ne 14, 3) := by decide +kernel
theorem dX9_word_67 : decode cX9_word 67 = .ok (.aload_n 0, 1) := by decide +kernel
theorem dX9_word_68 : decode cX9_word 68 = .ok (.getfield 22, 3) := by decide +kernel
theorem dX9_word_71 : decode cX9_word 71 = .ok (.iload_n 1, 1) := by decide +kernel
theorem dX9_word_72 : decode cX9_word 72 = .ok (.iconst 1, 1) := by decide +kernel
theorem dX9_word_73 : decode cX9_word 73 = .ok (.iadd, 1) := by decide +kernel
theorem dX9_word_74 : decode cX9_word 74 = .ok (.iaload, 1) := by decide +kernel
theorem dX9_word_75 : decode cX9_word 75 = .ok (.goto 4, 3) := by decide +kernel
theorem dX9_word_78 : decode cX9_word 78 = .ok (.iconst 0, 1) := by decide +kernel
theorem dX9_word_79 : decode cX9_word 79 = .ok (.invokestatic 93, 3) := by decide +kernel
theorem dX9_word_82 : decode cX9_word 82 = .ok (.istore_n 3, 1) := by decide +kernel
theorem dX9_word_83 : decode cX9_word 83 = .ok (.iload_n 3, 1) := by decide +kernel
theorem dX9_word_84 : decode cX9_word 84 = .ok (.ifCond .ge 13, 3) := by decide +kernel
theorem dX9_word_87 : decode cX9_word 87 = .ok (.aload_n 0, 1) := by decide +kernel
theorem dX9_word_88 : decode cX9_word 88 = .ok (.iload_n 1, 1) := by decide +kernel
theorem dX9_word_89 : decode cX9_word 89 = .ok (.putfield 67, 3) := by decide +kernel
theorem dX9_word_92 : decode cX9_word 92 = .ok (.aload_n 0, 1) := by decide +kernel
theorem dX9_word_93 : decode cX9_word 93 = .ok (.iconst 0, 1) := by decide +kernel
theorem dX9_word_94 : decode cX9_word 94 = .ok (.putfield 85, 3) := by decide +kernel
theorem dX9_word_97 : decode cX9_word 97 = .ok (.iload_n 3, 1) := by decide +kernel
theorem dX9_word_98 : decode cX9_word 98 = .ok (.ireturn, 1) := by decide +kernel
theorem dX9_reads_0 : decode cX9_reads 0 = .ok (.iconst 1, 1) := by decide +kernel
theorem dX9_reads_1 : decode cX9_reads 1 = .ok (.istore_n 2, 1) := by decide +kernel
theorem dX9_reads_2 : decode cX9_reads 2 = .ok (.iload_n 2, 1) := by decide +kernel
theorem dX9_reads_3 : decode cX9_reads 3 = .ok (.ifCond .eq 232, 3) := by decide +kernel
theorem dX9_reads_6 : decode cX9_reads 6 = .ok (.aload_n 0, 1) := by decide +kernel
theorem dX9_reads_7 : decode cX9_reads 7 = .ok (.getfield 85, 3) := by decide +kernel
theorem dX9_reads_10 : decode cX9_reads 10 = .ok (.ifCond .eq 225, 3) := by decide +kernel
theorem dX9_reads_13 : decode cX9_reads 13 = .ok (.aload_n 0, 1) := by decide +kernel
theorem dX9_reads_14 : decode cX9_reads 14 = .ok (.dup, 1) := by decide +kernel
theorem dX9_reads_15 : decode cX9_reads 15 = .ok (.getfield 97, 3) := by decide +kernel
theorem dX9_reads_18 : decode cX9_reads 18 = .ok (.iconst 1, 1) := by decide +kernel
theorem dX9_reads_19 : decode cX9_reads 19 = .ok (.iadd, 1) := by decide +kernel
theorem dX9_reads_20 : decode cX9_reads 20 = .ok (.putfield 97, 3) := by decide +kernel
theorem dX9_reads_23 : decode cX9_reads 23 = .ok (.aload_n 0, 1) := by decide +kernel
theorem dX9_reads_24 : decode cX9_reads 24 = .ok (.aload_n 0, 1) := by decide +kernel
theorem dX9_reads_25 : decode cX9_reads 25 = .ok (.getfield 100, 3) := by decide +kernel
theorem dX9_reads_28 : decode cX9_reads 28 = .ok (.iload_n 1, 1) := by decide +kernel
theorem dX9_reads_29 : decode cX9_reads 29 = .ok (.invokestatic 103, 3) := by decide +kernel
theorem dX9_reads_32 : decode cX9_reads 32 = .ok (.putfield 100, 3) := by decide +kernel
theorem dX9_reads_35 : decode cX9_reads 35 = .ok (.aload_n 0, 1) := by decide +kernel
theorem dX9_reads_36 : decode cX9_reads 36 = .ok (.invokevirtual 77, 3) := by decide +kernel
theorem dX9_reads_39 : decode cX9_reads 39 = .ok (.istore_n 3, 1) := by decide +kernel
theorem dX9_reads_40 : decode cX9_reads 40 = .ok (.iload_n 3, 1) := by decide +kernel
theorem dX9_reads_41 : decode cX9_reads 41 = .ok (.bipush 40, 2) := by decide +kernel
theorem dX9_reads_43 : decode cX9_reads 43 = .ok (.if_icmp .eq 9, 3) := by decide +kernel
theorem dX9_reads_46 : decode cX9_reads 46 = .ok (.iload_n 3, 1) := by decide +kernel
theorem dX9_reads_47 : decode cX9_reads 47 = .ok (.bipush 60, 2) := by decide +kernel
theorem dX9_reads_49 : decode cX9_reads 49 = .ok (.if_icmp .ne 113, 3) := by decide +kernel
theorem dX9_reads_52 : decode cX9_reads 52 = .ok (.iload_n 1, 1) := by decide +kernel
theorem dX9_reads_53 : decode cX9_reads 53 = .ok (.iconst 5, 1) := by decide +kernel
theorem dX9_reads_54 : decode cX9_reads 54 = .ok (.if_icmp .ge 108, 3) := by decide +kernel
theorem dX9_reads_57 : decode cX9_reads 57 = .ok (.aload_n 0, 1) := by decide +kernel
theorem dX9_reads_58 : decode cX9_reads 58 = .ok (.aload_n 0, 1) := by decide +kernel
theorem dX9_reads_59 : decode cX9_reads 59 = .ok (.getfield 108, 3) := by decide +kernel
theorem dX9_reads_62 : decode cX9_reads 62 = .ok (.ifCond .ne 9, 3) := by decide +kernel
theorem dX9_reads_65 : decode cX9_reads 65 = .ok (.iload_n 3, 1) := by decide +kernel
theorem dX9_reads_66 : decode cX9_reads 66 = .ok (.bipush 60, 2) := by decide +kernel
theorem dX9_reads_68 : decode cX9_reads 68 = .ok (.if_icmp .ne 7, 3) := by decide +kernel
theorem dX9_reads_71 : decode cX9_reads 71 = .ok (.iconst 1, 1) := by decide +kernel
theorem dX9_reads_72 : decode cX9_reads 72 = .ok (.goto 4, 3) := by decide +kernel
theorem dX9_reads_75 : decode cX9_reads 75 = .ok (.iconst 0, 1) := by decide +kernel
theorem dX9_reads_76 : decode cX9_reads 76 = .ok (.putfield 108, 3) := by decide +kernel
theorem dX9_reads_79 : decode cX9_reads 79 = .ok (.aload_n 0, 1) := by decide +kernel
theorem dX9_reads_80 : decode cX9_reads 80 = .ok (.dup, 1) := by decide +kernel
theorem dX9_reads_81 : decode cX9_reads 81 = .ok (.getfield 67, 3) := by decide +kernel
theorem dX9_reads_84 : decode cX9_reads 84 = .ok (.iconst 1, 1) := by decide +kernel
theorem dX9_reads_85 : decode cX9_reads 85 = .ok (.iadd, 1) := by decide +kernel
theorem dX9_reads_86 : decode cX9_reads 86 = .ok (.putfield 67, 3) := by decide +kernel
theorem dX9_reads_89 : decode cX9_reads 89 = .ok (.aload_n 0, 1) := by decide +kernel
theorem dX9_reads_90 : decode cX9_reads 90 = .ok (.iload_n 1, 1) := by decide +kernel
theorem dX9_reads_91 : decode cX9_reads 91 = .ok (.iconst 1, 1) := by decide +kernel
theorem dX9_reads_92 : decode cX9_reads 92 = .ok (.iadd, 1) := by decide +kernel
theorem dX9_reads_93 : decode cX9_reads 93 = .ok (.invokevirtual 111, 3) := by decide +kernel
theorem dX9_reads_96 : decode cX9_reads 96 = .ok (.aload_n 0, 1) := by decide +kernel
theorem dX9_reads_97 : decode cX9_reads 97 = .ok (.getfield 85, 3) := by decide +kernel
theorem dX9_reads_100 : decode cX9_reads 100 = .ok (.ifCond .eq 54, 3) := by decide +kernel
theorem dX9_reads_103 : decode cX9_reads 103 = .ok (.aload_n 0, 1) := by decide +kernel
theorem dX9_reads_104 : decode cX9_reads 104 = .ok (.invokevirtual 77, 3) := by decide +kernel
theorem dX9_reads_107 : decode cX9_reads 107 = .ok (.iload_n 3, 1) := by decide +kernel
theorem dX9_reads_108 : decode cX9_reads 108 = .ok (.bipush 40, 2) := by decide +kernel
theorem dX9_reads_110 : decode cX9_reads 110 = .ok (.if_icmp .ne 8, 3) := by decide +kernel
theorem dX9_reads_113 : decode cX9_reads 113 = .ok (.bipush 41, 2) := by decide +kernel
theorem dX9_reads_115 : decode cX9_reads 115 = .ok (.goto 5, 3) := by decide +kernel
theorem dX9_reads_118 : decode cX9_reads 118 = .ok (.bipush 62, 2) := by decide +kernel
theorem dX9_reads_120 : decode cX9_reads 120 = .ok (.if_icmp .ne 34, 3) := by decide +kernel
theorem dX9_reads_123 : decode cX9_reads 123 = .ok (.aload_n 0, 1) := by decide +kernel
theorem dX9_reads_124 : decode cX9_reads 124 = .ok (.dup, 1) := by decide +kernel
theorem dX9_reads_125 : decode cX9_reads 125 = .ok (.getfield 67, 3) := by decide +kernel
theorem dX9_reads_128 : decode cX9_reads 128 = .ok (.iconst 1, 1) := by decide +kernel
theorem dX9_reads_129 : decode cX9_reads 129 = .ok (.iadd, 1) := by decide +kernel
theorem dX9_reads_130 : decode cX9_reads 130 = .ok (.putfield 67, 3) := by decide +kernel
theorem dX9_reads_133 : decode cX9_reads 133 = .ok (.aload_n 0, 1) := by decide +kernel
theorem dX9_reads_134 : decode cX9_reads 134 = .ok (.iload_n 3, 1) := by decide +kernel
theorem dX9_reads_135 : decode cX9_reads 135 = .ok (.bipush 40, 2) := by decide +kernel
theorem dX9_reads_137 : decode cX9_reads 137 = .ok (.if_icmp .ne 7, 3) := by decide +kernel
theorem dX9_reads_140 : decode cX9_reads 140 = .ok (.iconst 1, 1) := by decide +kernel
theorem dX9_reads_141 : decode cX9_reads 141 = .ok (.goto 4, 3) := by decide +kernel
theorem dX9_reads_144 : decode cX9_reads 144 = .ok (.iconst 0, 1) := by decide +kernel
theorem dX9_reads_145 : decode cX9_reads 145 = .ok (.bipush 60, 2) := by decide +kernel
theorem dX9_reads_147 : decode cX9_reads 147 = .ok (.invokevirtual 115, 3) := by decide +kernel
theorem dX9_reads_150 : decode cX9_reads 150 = .ok (.pop, 1) := by decide +kernel
theorem dX9_reads_151 : decode cX9_reads 151 = .ok (.goto 41, 3) := by decide +kernel
theorem dX9_reads_154 : decode cX9_reads 154 = .ok (.aload_n 0, 1) := by decide +kernel
theorem dX9_reads_155 : decode cX9_reads 155 = .ok (.iconst 0, 1) := by decide +kernel
theorem dX9_reads_156 : decode cX9_reads 156 = .ok (.putfield 85, 3) := by decide +kernel
theorem dX9_reads_159 : decode cX9_reads 159 = .ok (.goto 33, 3) := by decide +kernel
theorem dX9_reads_162 : decode cX9_reads 162 = .ok (.aload_n 0, 1) := by decide +kernel
theorem dX9_reads_163 : decode cX9_reads 163 = .ok (.invokevirtual 118, 3) := by decide +kernel
theorem dX9_reads_166 : decode cX9_reads 166 = .ok (.pop, 1) := by decide +kernel
theorem dX9_reads_167 : decode cX9_reads 167 = .ok (.aload_n 0, 1) := by decide +kernel
theorem dX9_reads_168 : decode cX9_reads 168 = .ok (.getfield 85, 3) := by decide +kernel
theorem dX9_reads_171 : decode cX9_reads 171 = .ok (.ifCond .eq 21, 3) := by decide +kernel
theorem dX9_reads_174 : decode cX9_reads 174 = .ok (.aload_n 0, 1) := by decide +kernel
theorem dX9_reads_175 : decode cX9_reads 175 = .ok (.invokevirtual 77, 3) := by decide +kernel
theorem dX9_reads_178 : decode cX9_reads 178 = .ok (.invokestatic 81, 3) := by decide +kernel
theorem dX9_reads_181 : decode cX9_reads 181 = .ok (.ifCond .eq 11, 3) := by decide +kernel
theorem dX9_reads_184 : decode cX9_reads 184 = .ok (.aload_n 0, 1) := by decide +kernel
theorem dX9_reads_185 : decode cX9_reads 185 = .ok (.iconst 1, 1) := by decide +kernel
theorem dX9_reads_186 : decode cX9_reads 186 = .ok (.bipush 60, 2) := by decide +kernel
theorem dX9_reads_188 : decode cX9_reads 188 = .ok (.invokevirtual 115, 3) := by decide +kernel
theorem dX9_reads_191 : decode cX9_reads 191 = .ok (.pop, 1) := by decide +kernel
theorem dX9_reads_192 : decode cX9_reads 192 = .ok (.aload_n 0, 1) := by decide +kernel
theorem dX9_reads_193 : decode cX9_reads 193 = .ok (.getfield 85, 3) := by decide +kernel
theorem dX9_reads_196 : decode cX9_reads 196 = .ok (.ifCond .eq 16, 3) := by decide +kernel
theorem dX9_reads_199 : decode cX9_reads 199 = .ok (.aload_n 0, 1) := by decide +kernel
theorem dX9_reads_200 : decode cX9_reads 200 = .ok (.invokevirtual 77, 3) := by decide +kernel
theorem dX9_reads_203 : decode cX9_reads 203 = .ok (.bipush 44, 2) := by decide +kernel
theorem dX9_reads_205 : decode cX9_reads 205 = .ok (.if_icmp .ne 7, 3) := by decide +kernel
theorem dX9_reads_208 : decode cX9_reads 208 = .ok (.iconst 1, 1) := by decide +kernel
theorem dX9_reads_209 : decode cX9_reads 209 = .ok (.goto 4, 3) := by decide +kernel
theorem dX9_reads_212 : decode cX9_reads 212 = .ok (.iconst 0, 1) := by decide +kernel
theorem dX9_reads_213 : decode cX9_reads 213 = .ok (.istore_n 2, 1) := by decide +kernel
theorem dX9_reads_214 : decode cX9_reads 214 = .ok (.aload_n 0, 1) := by decide +kernel
theorem dX9_reads_215 : decode cX9_reads 215 = .ok (.dup, 1) := by decide +kernel
theorem dX9_reads_216 : decode cX9_reads 216 = .ok (.getfield 67, 3) := by decide +kernel
theorem dX9_reads_219 : decode cX9_reads 219 = .ok (.iload_n 2, 1) := by decide +kernel
theorem dX9_reads_220 : decode cX9_reads 220 = .ok (.ifCond .eq 7, 3) := by decide +kernel
theorem dX9_reads_223 : decode cX9_reads 223 = .ok (.iconst 1, 1) := by decide +kernel
theorem dX9_reads_224 : decode cX9_reads 224 = .ok (.goto 4, 3) := by decide +kernel
theorem dX9_reads_227 : decode cX9_reads 227 = .ok (.iconst 0, 1) := by decide +kernel
theorem dX9_reads_228 : decode cX9_reads 228 = .ok (.iadd, 1) := by decide +kernel
theorem dX9_reads_229 : decode cX9_reads 229 = .ok (.putfield 67, 3) := by decide +kernel
theorem dX9_reads_232 : decode cX9_reads 232 = .ok (.goto (-230), 3) := by decide +kernel
theorem dX9_reads_235 : decode cX9_reads 235 = .ok (.return_, 1) := by decide +kernel
theorem dX9_readsAll_0 : decode cX9_readsAll 0 = .ok (.aload_n 0, 1) := by decide +kernel
theorem dX9_readsAll_1 : decode cX9_readsAll 1 = .ok (.iconst 0, 1) := by decide +kernel
theorem dX9_readsAll_2 : decode cX9_readsAll 2 = .ok (.putfield 67, 3) := by decide +kernel
theorem dX9_readsAll_5 : decode cX9_readsAll 5 = .ok (.aload_n 0, 1) := by decide +kernel
theorem dX9_readsAll_6 : decode cX9_readsAll 6 = .ok (.iconst 1, 1) := by decide +kernel
theorem dX9_readsAll_7 : decode cX9_readsAll 7 = .ok (.putfield 85, 3) := by decide +kernel
theorem dX9_readsAll_10 : decode cX9_readsAll 10 = .ok (.aload_n 0, 1) := by decide +kernel
theorem dX9_readsAll_11 : decode cX9_readsAll 11 = .ok (.iconst 0, 1) := by decide +kernel
theorem dX9_readsAll_12 : decode cX9_readsAll 12 = .ok (.putfield 97, 3) := by decide +kernel
theorem dX9_readsAll_15 : decode cX9_readsAll 15 = .ok (.aload_n 0, 1) := by decide +kernel
theorem dX9_readsAll_16 : decode cX9_readsAll 16 = .ok (.iconst 0, 1) := by decide +kernel
theorem dX9_readsAll_17 : decode cX9_readsAll 17 = .ok (.putfield 100, 3) := by decide +kernel
theorem dX9_readsAll_20 : decode cX9_readsAll 20 = .ok (.aload_n 0, 1) := by decide +kernel
theorem dX9_readsAll_21 : decode cX9_readsAll 21 = .ok (.iconst 0, 1) := by decide +kernel
theorem dX9_readsAll_22 : decode cX9_readsAll 22 = .ok (.putfield 108, 3) := by decide +kernel
theorem dX9_readsAll_25 : decode cX9_readsAll 25 = .ok (.aload_n 0, 1) := by decide +kernel
theorem dX9_readsAll_26 : decode cX9_readsAll 26 = .ok (.iconst 0, 1) := by decide +kernel
theorem dX9_readsAll_27 : decode cX9_readsAll 27 = .ok (.invokevirtual 111, 3) := by decide +kernel
theorem dX9_readsAll_30 : decode cX9_readsAll 30 = .ok (.return_, 1) := by decide +kernel
theorem dX9_takesText_0 : decode cX9_takesText 0 = .ok (.aload_n 0, 1) := by decide +kernel
theorem dX9_takesText_1 : decode cX9_takesText 1 = .ok (.aload_n 0, 1) := by decide +kernel
theorem dX9_takesText_2 : decode cX9_takesText 2 = .ok (.getfield 13, 3) := by decide +kernel
theorem dX9_takesText_5 : decode cX9_takesText 5 = .ok (.sipush 251, 3) := by decide +kernel
theorem dX9_takesText_8 : decode cX9_takesText 8 = .ok (.iload_n 1, 1) := by decide +kernel
theorem dX9_takesText_9 : decode cX9_takesText 9 = .ok (.imul, 1) := by decide +kernel
theorem dX9_takesText_10 : decode cX9_takesText 10 = .ok (.iaload, 1) := by decide +kernel
theorem dX9_takesText_11 : decode cX9_takesText 11 = .ok (.putfield 70, 3) := by decide +kernel
theorem dX9_takesText_14 : decode cX9_takesText 14 = .ok (.iconst 0, 1) := by decide +kernel
theorem dX9_takesText_15 : decode cX9_takesText 15 = .ok (.istore_n 2, 1) := by decide +kernel
theorem dX9_takesText_16 : decode cX9_takesText 16 = .ok (.iload_n 2, 1) := by decide +kernel
theorem dX9_takesText_17 : decode cX9_takesText 17 = .ok (.aload_n 0, 1) := by decide +kernel
theorem dX9_takesText_18 : decode cX9_takesText 18 = .ok (.getfield 70, 3) := by decide +kernel
theorem dX9_takesText_21 : decode cX9_takesText 21 = .ok (.if_icmp .ge 29, 3) := by decide +kernel
theorem dX9_takesText_24 : decode cX9_takesText 24 = .ok (.aload_n 0, 1) := by decide +kernel
theorem dX9_takesText_25 : decode cX9_takesText 25 = .ok (.getfield 22, 3) := by decide +kernel
theorem dX9_takesText_28 : decode cX9_takesText 28 = .ok (.iload_n 2, 1) := by decide +kernel
theorem dX9_takesText_29 : decode cX9_takesText 29 = .ok (.aload_n 0, 1) := by decide +kernel
theorem dX9_takesText_30 : decode cX9_takesText 30 = .ok (.getfield 13, 3) := by decide +kernel
theorem dX9_takesText_33 : decode cX9_takesText 33 = .ok (.sipush 251, 3) := by decide +kernel
theorem dX9_takesText_36 : decode cX9_takesText 36 = .ok (.iload_n 1, 1) := by decide +kernel
theorem dX9_takesText_37 : decode cX9_takesText 37 = .ok (.imul, 1) := by decide +kernel
theorem dX9_takesText_38 : decode cX9_takesText 38 = .ok (.iconst 1, 1) := by decide +kernel
theorem dX9_takesText_39 : decode cX9_takesText 39 = .ok (.iadd, 1) := by decide +kernel
theorem dX9_takesText_40 : decode cX9_takesText 40 = .ok (.iload_n 2, 1) := by decide +kernel
theorem dX9_takesText_41 : decode cX9_takesText 41 = .ok (.iadd, 1) := by decide +kernel
theorem dX9_takesText_42 : decode cX9_takesText 42 = .ok (.iaload, 1) := by decide +kernel
theorem dX9_takesText_43 : decode cX9_takesText 43 = .ok (.iastore, 1) := by decide +kernel
theorem dX9_takesText_44 : decode cX9_takesText 44 = .ok (.iinc 2 1, 3) := by decide +kernel
theorem dX9_takesText_47 : decode cX9_takesText 47 = .ok (.goto (-31), 3) := by decide +kernel
theorem dX9_takesText_50 : decode cX9_takesText 50 = .ok (.return_, 1) := by decide +kernel
theorem dX9_isLine_0 : decode cX9_isLine 0 = .ok (.iload_n 1, 1) := by decide +kernel
theorem dX9_isLine_1 : decode cX9_isLine 1 = .ok (.i2l, 1) := by decide +kernel
theorem dX9_isLine_2 : decode cX9_isLine 2 = .ok (.lconst 0, 1) := by decide +kernel
theorem dX9_isLine_3 : decode cX9_isLine 3 = .ok (.aload_n 0, 1) := by decide +kernel
theorem dX9_isLine_4 : decode cX9_isLine 4 = .ok (.getfield 13, 3) := by decide +kernel
theorem dX9_isLine_7 : decode cX9_isLine 7 = .ok (.sipush 5020, 3) := by decide +kernel
theorem dX9_isLine_10 : decode cX9_isLine 10 = .ok (.iaload, 1) := by decide +kernel
theorem dX9_isLine_11 : decode cX9_isLine 11 = .ok (.iconst 1, 1) := by decide +kernel
theorem dX9_isLine_12 : decode cX9_isLine 12 = .ok (.isub, 1) := by decide +kernel
theorem dX9_isLine_13 : decode cX9_isLine 13 = .ok (.i2l, 1) := by decide +kernel
theorem dX9_isLine_14 : decode cX9_isLine 14 = .ok (.invokestatic 56, 3) := by decide +kernel
theorem dX9_isLine_17 : decode cX9_isLine 17 = .ok (.ireturn, 1) := by decide +kernel
theorem dX9_line_0 : decode cX9_line 0 = .ok (.aload_n 0, 1) := by decide +kernel
theorem dX9_line_1 : decode cX9_line 1 = .ok (.aload_n 0, 1) := by decide +kernel
theorem dX9_line_2 : decode cX9_line 2 = .ok (.getfield 63, 3) := by decide +kernel
theorem dX9_line_5 : decode cX9_line 5 = .ok (.putfield 70, 3) := by decide +kernel
theorem dX9_line_8 : decode cX9_line 8 = .ok (.iconst 0, 1) := by decide +kernel
theorem dX9_line_9 : decode cX9_line 9 = .ok (.istore_n 1, 1) := by decide +kernel
theorem dX9_line_10 : decode cX9_line 10 = .ok (.iload_n 1, 1) := by decide +kernel
theorem dX9_line_11 : decode cX9_line 11 = .ok (.aload_n 0, 1) := by decide +kernel
theorem dX9_line_12 : decode cX9_line 12 = .ok (.getfield 70, 3) := by decide +kernel
theorem dX9_line_15 : decode cX9_line 15 = .ok (.if_icmp .ge 21, 3) := by decide +kernel
theorem dX9_line_18 : decode cX9_line 18 = .ok (.aload_n 0, 1) := by decide +kernel
theorem dX9_line_19 : decode cX9_line 19 = .ok (.getfield 22, 3) := by decide +kernel
theorem dX9_line_22 : decode cX9_line 22 = .ok (.iload_n 1, 1) := by decide +kernel
theorem dX9_line_23 : decode cX9_line 23 = .ok (.aload_n 0, 1) := by decide +kernel
theorem dX9_line_24 : decode cX9_line 24 = .ok (.getfield 19, 3) := by decide +kernel
theorem dX9_line_27 : decode cX9_line 27 = .ok (.iload_n 1, 1) := by decide +kernel
theorem dX9_line_28 : decode cX9_line 28 = .ok (.iaload, 1) := by decide +kernel
theorem dX9_line_29 : decode cX9_line 29 = .ok (.iastore, 1) := by decide +kernel
theorem dX9_line_30 : decode cX9_line 30 = .ok (.iinc 1 1, 3) := by decide +kernel
theorem dX9_line_33 : decode cX9_line 33 = .ok (.goto (-23), 3) := by decide +kernel
theorem dX9_line_36 : decode cX9_line 36 = .ok (.aload_n 0, 1) := by decide +kernel
theorem dX9_line_37 : decode cX9_line 37 = .ok (.iconst 0, 1) := by decide +kernel
theorem dX9_line_38 : decode cX9_line 38 = .ok (.putfield 63, 3) := by decide +kernel
theorem dX9_line_41 : decode cX9_line 41 = .ok (.aload_n 0, 1) := by decide +kernel
theorem dX9_line_42 : decode cX9_line 42 = .ok (.invokevirtual 121, 3) := by decide +kernel
theorem dX9_line_45 : decode cX9_line 45 = .ok (.aload_n 0, 1) := by decide +kernel
theorem dX9_line_46 : decode cX9_line 46 = .ok (.getfield 85, 3) := by decide +kernel
theorem dX9_line_49 : decode cX9_line 49 = .ok (.ifCond .eq 14, 3) := by decide +kernel
theorem dX9_line_52 : decode cX9_line 52 = .ok (.aload_n 0, 1) := by decide +kernel
theorem dX9_line_53 : decode cX9_line 53 = .ok (.getfield 67, 3) := by decide +kernel
theorem dX9_line_56 : decode cX9_line 56 = .ok (.aload_n 0, 1) := by decide +kernel
theorem dX9_line_57 : decode cX9_line 57 = .ok (.getfield 70, 3) := by decide +kernel
theorem dX9_line_60 : decode cX9_line 60 = .ok (.if_icmp .ge 19, 3) := by decide +kernel
theorem dX9_line_63 : decode cX9_line 63 = .ok (.aload_n 0, 1) := by decide +kernel
theorem dX9_line_64 : decode cX9_line 64 = .ok (.bipush (-92), 2) := by decide +kernel
theorem dX9_line_66 : decode cX9_line 66 = .ok (.invokevirtual 60, 3) := by decide +kernel
theorem dX9_line_69 : decode cX9_line 69 = .ok (.pop, 1) := by decide +kernel
theorem dX9_line_70 : decode cX9_line 70 = .ok (.sipush (-600), 3) := by decide +kernel
theorem dX9_line_73 : decode cX9_line 73 = .ok (.aload_n 0, 1) := by decide +kernel
theorem dX9_line_74 : decode cX9_line 74 = .ok (.getfield 67, 3) := by decide +kernel
theorem dX9_line_77 : decode cX9_line 77 = .ok (.isub, 1) := by decide +kernel
theorem dX9_line_78 : decode cX9_line 78 = .ok (.ireturn, 1) := by decide +kernel
theorem dX9_line_79 : decode cX9_line 79 = .ok (.aload_n 0, 1) := by decide +kernel
theorem dX9_line_80 : decode cX9_line 80 = .ok (.getfield 13, 3) := by decide +kernel
theorem dX9_line_83 : decode cX9_line 83 = .ok (.sipush 5020, 3) := by decide +kernel
theorem dX9_line_86 : decode cX9_line 86 = .ok (.iaload, 1) := by decide +kernel
theorem dX9_line_87 : decode cX9_line 87 = .ok (.bipush 20, 2) := by decide +kernel
theorem dX9_line_89 : decode cX9_line 89 = .ok (.if_icmp .ne 10, 3) := by decide +kernel
theorem dX9_line_92 : decode cX9_line 92 = .ok (.aload_n 0, 1) := by decide +kernel
theorem dX9_line_93 : decode cX9_line 93 = .ok (.bipush (-96), 2) := by decide +kernel
theorem dX9_line_95 : decode cX9_line 95 = .ok (.invokevirtual 60, 3) := by decide +kernel
theorem dX9_line_98 : decode cX9_line 98 = .ok (.ireturn, 1) := by decide +kernel
theorem dX9_line_99 : decode cX9_line 99 = .ok (.sipush 251, 3) := by decide +kernel
theorem dX9_line_102 : decode cX9_line 102 = .ok (.aload_n 0, 1) := by decide +kernel
theorem dX9_line_103 : decode cX9_line 103 = .ok (.getfield 13, 3) := by decide +kernel
theorem dX9_line_106 : decode cX9_line 106 = .ok (.sipush 5020, 3) := by decide +kernel
theorem dX9_line_109 : decode cX9_line 109 = .ok (.iaload, 1) := by decide +kernel
theorem dX9_line_110 : decode cX9_line 110 = .ok (.imul, 1) := by decide +kernel
theorem dX9_line_111 : decode cX9_line 111 = .ok (.istore_n 1, 1) := by decide +kernel
theorem dX9_line_112 : decode cX9_line 112 = .ok (.aload_n 0, 1) := by decide +kernel
theorem dX9_line_113 : decode cX9_line 113 = .ok (.getfield 13, 3) := by decide +kernel
theorem dX9_line_116 : decode cX9_line 116 = .ok (.iload_n 1, 1) := by decide +kernel
theorem dX9_line_117 : decode cX9_line 117 = .ok (.aload_n 0, 1) := by decide +kernel
theorem dX9_line_118 : decode cX9_line 118 = .ok (.getfield 70, 3) := by decide +kernel
theorem dX9_line_121 : decode cX9_line 121 = .ok (.iastore, 1) := by decide +kernel
theorem dX9_line_122 : decode cX9_line 122 = .ok (.iconst 0, 1) := by decide +kernel
theorem dX9_line_123 : decode cX9_line 123 = .ok (.istore_n 2, 1) := by decide +kernel
theorem dX9_line_124 : decode cX9_line 124 = .ok (.iload_n 2, 1) := by decide +kernel
theorem dX9_line_125 : decode cX9_line 125 = .ok (.aload_n 0, 1) := by decide +kernel
theorem dX9_line_126 : decode cX9_line 126 = .ok (.getfield 70, 3) := by decide +kernel
theorem dX9_line_129 : decode cX9_line 129 = .ok (.if_icmp .ge 25, 3) := by decide +kernel
theorem dX9_line_132 : decode cX9_line 132 = .ok (.aload_n 0, 1) := by decide +kernel
theorem dX9_line_133 : decode cX9_line 133 = .ok (.getfield 13, 3) := by decide +kernel
theorem dX9_line_136 : decode cX9_line 136 = .ok (.iload_n 1, 1) := by decide +kernel
theorem dX9_line_137 : decode cX9_line 137 = .ok (.iconst 1, 1) := by decide +kernel
theorem dX9_line_138 : decode cX9_line 138 = .ok (.iadd, 1) := by decide +kernel
theorem dX9_line_139 : decode cX9_line 139 = .ok (.iload_n 2, 1) := by decide +kernel
theorem dX9_line_140 : decode cX9_line 140 = .ok (.iadd, 1) := by decide +kernel
theorem dX9_line_141 : decode cX9_line 141 = .ok (.aload_n 0, 1) := by decide +kernel
theorem dX9_line_142 : decode cX9_line 142 = .ok (.getfield 22, 3) := by decide +kernel
theorem dX9_line_145 : decode cX9_line 145 = .ok (.iload_n 2, 1) := by decide +kernel
theorem dX9_line_146 : decode cX9_line 146 = .ok (.iaload, 1) := by decide +kernel
theorem dX9_line_147 : decode cX9_line 147 = .ok (.iastore, 1) := by decide +kernel
theorem dX9_line_148 : decode cX9_line 148 = .ok (.iinc 2 1, 3) := by decide +kernel
theorem dX9_line_151 : decode cX9_line 151 = .ok (.goto (-27), 3) := by decide +kernel
theorem dX9_line_154 : decode cX9_line 154 = .ok (.aload_n 0, 1) := by decide +kernel
theorem dX9_line_155 : decode cX9_line 155 = .ok (.getfield 13, 3) := by decide +kernel
theorem dX9_line_158 : decode cX9_line 158 = .ok (.sipush 5020, 3) := by decide +kernel
theorem dX9_line_161 : decode cX9_line 161 = .ok (.dup2, 1) := by decide +kernel
theorem dX9_line_162 : decode cX9_line 162 = .ok (.iaload, 1) := by decide +kernel
theorem dX9_line_163 : decode cX9_line 163 = .ok (.iconst 1, 1) := by decide +kernel
theorem dX9_line_164 : decode cX9_line 164 = .ok (.iadd, 1) := by decide +kernel
theorem dX9_line_165 : decode cX9_line 165 = .ok (.iastore, 1) := by decide +kernel
theorem dX9_line_166 : decode cX9_line 166 = .ok (.aload_n 0, 1) := by decide +kernel
theorem dX9_line_167 : decode cX9_line 167 = .ok (.getfield 13, 3) := by decide +kernel
theorem dX9_line_170 : decode cX9_line 170 = .ok (.sipush 5020, 3) := by decide +kernel
theorem dX9_line_173 : decode cX9_line 173 = .ok (.iaload, 1) := by decide +kernel
theorem dX9_line_174 : decode cX9_line 174 = .ok (.iconst 1, 1) := by decide +kernel
theorem dX9_line_175 : decode cX9_line 175 = .ok (.isub, 1) := by decide +kernel
theorem dX9_line_176 : decode cX9_line 176 = .ok (.ireturn, 1) := by decide +kernel
theorem dX9_drop_0 : decode cX9_drop 0 = .ok (.aload_n 0, 1) := by decide +kernel
theorem dX9_drop_1 : decode cX9_drop 1 = .ok (.getfield 13, 3) := by decide +kernel
theorem dX9_drop_4 : decode cX9_drop 4 = .ok (.sipush 5020, 3) := by decide +kernel
theorem dX9_drop_7 : decode cX9_drop 7 = .ok (.iaload, 1) := by decide +kernel
theorem dX9_drop_8 : decode cX9_drop 8 = .ok (.ifCond .ne 10, 3) := by decide +kernel
theorem dX9_drop_11 : decode cX9_drop 11 = .ok (.aload_n 0, 1) := by decide +kernel
theorem dX9_drop_12 : decode cX9_drop 12 = .ok (.bipush (-95), 2) := by decide +kernel
theorem dX9_drop_14 : decode cX9_drop 14 = .ok (.invokevirtual 60, 3) := by decide +kernel
theorem dX9_drop_17 : decode cX9_drop 17 = .ok (.ireturn, 1) := by decide +kernel
theorem dX9_drop_18 : decode cX9_drop 18 = .ok (.aload_n 0, 1) := by decide +kernel
theorem dX9_drop_19 : decode cX9_drop 19 = .ok (.getfield 13, 3) := by decide +kernel
theorem dX9_drop_22 : decode cX9_drop 22 = .ok (.sipush 5020, 3) := by decide +kernel
theorem dX9_drop_25 : decode cX9_drop 25 = .ok (.dup2, 1) := by decide +kernel
theorem dX9_drop_26 : decode cX9_drop 26 = .ok (.iaload, 1) := by decide +kernel
theorem dX9_drop_27 : decode cX9_drop 27 = .ok (.iconst 1, 1) := by decide +kernel
theorem dX9_drop_28 : decode cX9_drop 28 = .ok (.isub, 1) := by decide +kernel
theorem dX9_drop_29 : decode cX9_drop 29 = .ok (.iastore, 1) := by decide +kernel
theorem dX9_drop_30 : decode cX9_drop 30 = .ok (.aload_n 0, 1) := by decide +kernel
theorem dX9_drop_31 : decode cX9_drop 31 = .ok (.getfield 13, 3) := by decide +kernel
theorem dX9_drop_34 : decode cX9_drop 34 = .ok (.sipush 5020, 3) := by decide +kernel
theorem dX9_drop_37 : decode cX9_drop 37 = .ok (.iaload, 1) := by decide +kernel
theorem dX9_drop_38 : decode cX9_drop 38 = .ok (.ireturn, 1) := by decide +kernel
theorem dX9_lineOf_0 : decode cX9_lineOf 0 = .ok (.aload_n 0, 1) := by decide +kernel
theorem dX9_lineOf_1 : decode cX9_lineOf 1 = .ok (.iload_n 1, 1) := by decide +kernel
theorem dX9_lineOf_2 : decode cX9_lineOf 2 = .ok (.invokevirtual 124, 3) := by decide +kernel
theorem dX9_lineOf_5 : decode cX9_lineOf 5 = .ok (.ifCond .eq 15, 3) := by decide +kernel
theorem dX9_lineOf_8 : decode cX9_lineOf 8 = .ok (.iload_n 2, 1) := by decide +kernel
theorem dX9_lineOf_9 : decode cX9_lineOf 9 = .ok (.i2l, 1) := by decide +kernel
theorem dX9_lineOf_10 : decode cX9_lineOf 10 = .ok (.lconst 0, 1) := by decide +kernel
theorem dX9_lineOf_11 : decode cX9_lineOf 11 = .ok (.ldc2_w 127, 3) := by decide +kernel
theorem dX9_lineOf_14 : decode cX9_lineOf 14 = .ok (.invokestatic 56, 3) := by decide +kernel
theorem dX9_lineOf_17 : decode cX9_lineOf 17 = .ok (.ifCond .ne 10, 3) := by decide +kernel
theorem dX9_lineOf_20 : decode cX9_lineOf 20 = .ok (.aload_n 0, 1) := by decide +kernel
theorem dX9_lineOf_21 : decode cX9_lineOf 21 = .ok (.bipush (-92), 2) := by decide +kernel
theorem dX9_lineOf_23 : decode cX9_lineOf 23 = .ok (.invokevirtual 60, 3) := by decide +kernel
theorem dX9_lineOf_26 : decode cX9_lineOf 26 = .ok (.ireturn, 1) := by decide +kernel
theorem dX9_lineOf_27 : decode cX9_lineOf 27 = .ok (.aload_n 0, 1) := by decide +kernel
theorem dX9_lineOf_28 : decode cX9_lineOf 28 = .ok (.iload_n 1, 1) := by decide +kernel
theorem dX9_lineOf_29 : decode cX9_lineOf 29 = .ok (.invokevirtual 129, 3) := by decide +kernel
theorem dX9_lineOf_32 : decode cX9_lineOf 32 = .ok (.aload_n 0, 1) := by decide +kernel
theorem dX9_lineOf_33 : decode cX9_lineOf 33 = .ok (.invokevirtual 121, 3) := by decide +kernel
theorem dX9_lineOf_36 : decode cX9_lineOf 36 = .ok (.iload_n 2, 1) := by decide +kernel
theorem dX9_lineOf_37 : decode cX9_lineOf 37 = .ok (.ifCond .ne 10, 3) := by decide +kernel
theorem dX9_lineOf_40 : decode cX9_lineOf 40 = .ok (.aload_n 0, 1) := by decide +kernel
theorem dX9_lineOf_41 : decode cX9_lineOf 41 = .ok (.getfield 97, 3) := by decide +kernel
theorem dX9_lineOf_44 : decode cX9_lineOf 44 = .ok (.goto 39, 3) := by decide +kernel
theorem dX9_lineOf_47 : decode cX9_lineOf 47 = .ok (.iload_n 2, 1) := by decide +kernel
theorem dX9_lineOf_48 : decode cX9_lineOf 48 = .ok (.iconst 1, 1) := by decide +kernel
theorem dX9_lineOf_49 : decode cX9_lineOf 49 = .ok (.if_icmp .ne 10, 3) := by decide +kernel
theorem dX9_lineOf_52 : decode cX9_lineOf 52 = .ok (.aload_n 0, 1) := by decide +kernel
theorem dX9_lineOf_53 : decode cX9_lineOf 53 = .ok (.getfield 100, 3) := by decide +kernel
theorem dX9_lineOf_56 : decode cX9_lineOf 56 = .ok (.goto 27, 3) := by decide +kernel
theorem dX9_lineOf_59 : decode cX9_lineOf 59 = .ok (.iload_n 2, 1) := by decide +kernel
theorem dX9_lineOf_60 : decode cX9_lineOf 60 = .ok (.iconst 2, 1) := by decide +kernel
theorem dX9_lineOf_61 : decode cX9_lineOf 61 = .ok (.if_icmp .ne 10, 3) := by decide +kernel
theorem dX9_lineOf_64 : decode cX9_lineOf 64 = .ok (.aload_n 0, 1) := by decide +kernel
theorem dX9_lineOf_65 : decode cX9_lineOf 65 = .ok (.getfield 70, 3) := by decide +kernel
theorem dX9_lineOf_68 : decode cX9_lineOf 68 = .ok (.goto 15, 3) := by decide +kernel
theorem dX9_lineOf_71 : decode cX9_lineOf 71 = .ok (.aload_n 0, 1) := by decide +kernel
theorem dX9_lineOf_72 : decode cX9_lineOf 72 = .ok (.getfield 108, 3) := by decide +kernel
theorem dX9_lineOf_75 : decode cX9_lineOf 75 = .ok (.ifCond .eq 7, 3) := by decide +kernel
theorem dX9_lineOf_78 : decode cX9_lineOf 78 = .ok (.iconst 1, 1) := by decide +kernel
theorem dX9_lineOf_79 : decode cX9_lineOf 79 = .ok (.goto 4, 3) := by decide +kernel
theorem dX9_lineOf_82 : decode cX9_lineOf 82 = .ok (.iconst 0, 1) := by decide +kernel
theorem dX9_lineOf_83 : decode cX9_lineOf 83 = .ok (.ireturn, 1) := by decide +kernel
theorem dX9_text_0 : decode cX9_text 0 = .ok (.aload_n 0, 1) := by decide +kernel
theorem dX9_text_1 : decode cX9_text 1 = .ok (.iload_n 1, 1) := by decide +kernel
theorem dX9_text_2 : decode cX9_text 2 = .ok (.invokevirtual 124, 3) := by decide +kernel
theorem dX9_text_5 : decode cX9_text 5 = .ok (.ifCond .ne 10, 3) := by decide +kernel
theorem dX9_text_8 : decode cX9_text 8 = .ok (.aload_n 0, 1) := by decide +kernel
theorem dX9_text_9 : decode cX9_text 9 = .ok (.bipush (-92), 2) := by decide +kernel
theorem dX9_text_11 : decode cX9_text 11 = .ok (.invokevirtual 60, 3) := by decide +kernel
theorem dX9_text_14 : decode cX9_text 14 = .ok (.ireturn, 1) := by decide +kernel
theorem dX9_text_15 : decode cX9_text 15 = .ok (.iload_n 2, 1) := by decide +kernel
theorem dX9_text_16 : decode cX9_text 16 = .ok (.i2l, 1) := by decide +kernel
theorem dX9_text_17 : decode cX9_text 17 = .ok (.lconst 0, 1) := by decide +kernel
theorem dX9_text_18 : decode cX9_text 18 = .ok (.aload_n 0, 1) := by decide +kernel
theorem dX9_text_19 : decode cX9_text 19 = .ok (.getfield 13, 3) := by decide +kernel
theorem dX9_text_22 : decode cX9_text 22 = .ok (.sipush 251, 3) := by decide +kernel
theorem dX9_text_25 : decode cX9_text 25 = .ok (.iload_n 1, 1) := by decide +kernel
theorem dX9_text_26 : decode cX9_text 26 = .ok (.imul, 1) := by decide +kernel
theorem dX9_text_27 : decode cX9_text 27 = .ok (.iaload, 1) := by decide +kernel
theorem dX9_text_28 : decode cX9_text 28 = .ok (.iconst 1, 1) := by decide +kernel
theorem dX9_text_29 : decode cX9_text 29 = .ok (.isub, 1) := by decide +kernel
theorem dX9_text_30 : decode cX9_text 30 = .ok (.i2l, 1) := by decide +kernel
theorem dX9_text_31 : decode cX9_text 31 = .ok (.invokestatic 56, 3) := by decide +kernel
theorem dX9_text_34 : decode cX9_text 34 = .ok (.ifCond .eq 20, 3) := by decide +kernel
theorem dX9_text_37 : decode cX9_text 37 = .ok (.aload_n 0, 1) := by decide +kernel
theorem dX9_text_38 : decode cX9_text 38 = .ok (.getfield 13, 3) := by decide +kernel
theorem dX9_text_41 : decode cX9_text 41 = .ok (.sipush 251, 3) := by decide +kernel
theorem dX9_text_44 : decode cX9_text 44 = .ok (.iload_n 1, 1) := by decide +kernel
theorem dX9_text_45 : decode cX9_text 45 = .ok (.imul, 1) := by decide +kernel
theorem dX9_text_46 : decode cX9_text 46 = .ok (.iconst 1, 1) := by decide +kernel
theorem dX9_text_47 : decode cX9_text 47 = .ok (.iadd, 1) := by decide +kernel
theorem dX9_text_48 : decode cX9_text 48 = .ok (.iload_n 2, 1) := by decide +kernel
theorem dX9_text_49 : decode cX9_text 49 = .ok (.iadd, 1) := by decide +kernel
theorem dX9_text_50 : decode cX9_text 50 = .ok (.iaload, 1) := by decide +kernel
theorem dX9_text_51 : decode cX9_text 51 = .ok (.goto 4, 3) := by decide +kernel
theorem dX9_text_54 : decode cX9_text 54 = .ok (.iconst (-1), 1) := by decide +kernel
theorem dX9_text_55 : decode cX9_text 55 = .ok (.ireturn, 1) := by decide +kernel
theorem dX9_hits_0 : decode cX9_hits 0 = .ok (.aload_n 0, 1) := by decide +kernel
theorem dX9_hits_1 : decode cX9_hits 1 = .ok (.iload_n 1, 1) := by decide +kernel
theorem dX9_hits_2 : decode cX9_hits 2 = .ok (.putfield 132, 3) := by decide +kernel
theorem dX9_hits_5 : decode cX9_hits 5 = .ok (.aload_n 0, 1) := by decide +kernel
theorem dX9_hits_6 : decode cX9_hits 6 = .ok (.iload_n 2, 1) := by decide +kernel
theorem dX9_hits_7 : decode cX9_hits 7 = .ok (.putfield 135, 3) := by decide +kernel
theorem dX9_hits_10 : decode cX9_hits 10 = .ok (.aload_n 0, 1) := by decide +kernel
theorem dX9_hits_11 : decode cX9_hits 11 = .ok (.iload_n 3, 1) := by decide +kernel
theorem dX9_hits_12 : decode cX9_hits 12 = .ok (.putfield 138, 3) := by decide +kernel
theorem dX9_hits_15 : decode cX9_hits 15 = .ok (.return_, 1) := by decide +kernel
theorem dX9_end_0 : decode cX9_end 0 = .ok (.iconst 0, 1) := by decide +kernel
theorem dX9_end_1 : decode cX9_end 1 = .ok (.istore_n 2, 1) := by decide +kernel
theorem dX9_end_2 : decode cX9_end 2 = .ok (.iload_n 1, 1) := by decide +kernel
theorem dX9_end_3 : decode cX9_end 3 = .ok (.istore_n 3, 1) := by decide +kernel
theorem dX9_end_4 : decode cX9_end 4 = .ok (.iload_n 3, 1) := by decide +kernel
theorem dX9_end_5 : decode cX9_end 5 = .ok (.aload_n 0, 1) := by decide +kernel
theorem dX9_end_6 : decode cX9_end 6 = .ok (.getfield 70, 3) := by decide +kernel
theorem dX9_end_9 : decode cX9_end 9 = .ok (.if_icmp .ge 91, 3) := by decide +kernel
theorem dX9_end_12 : decode cX9_end 12 = .ok (.iload_n 2, 1) := by decide +kernel
theorem dX9_end_13 : decode cX9_end 13 = .ok (.ifCond .gt 25, 3) := by decide +kernel
theorem dX9_end_16 : decode cX9_end 16 = .ok (.aload_n 0, 1) := by decide +kernel
theorem dX9_end_17 : decode cX9_end 17 = .ok (.getfield 22, 3) := by decide +kernel
theorem dX9_end_20 : decode cX9_end 20 = .ok (.iload_n 3, 1) := by decide +kernel
theorem dX9_end_21 : decode cX9_end 21 = .ok (.iaload, 1) := by decide +kernel
theorem dX9_end_22 : decode cX9_end 22 = .ok (.bipush 41, 2) := by decide +kernel
theorem dX9_end_24 : decode cX9_end 24 = .ok (.if_icmp .eq 76, 3) := by decide +kernel
theorem dX9_end_27 : decode cX9_end 27 = .ok (.aload_n 0, 1) := by decide +kernel
theorem dX9_end_28 : decode cX9_end 28 = .ok (.getfield 22, 3) := by decide +kernel
theorem dX9_end_31 : decode cX9_end 31 = .ok (.iload_n 3, 1) := by decide +kernel
theorem dX9_end_32 : decode cX9_end 32 = .ok (.iaload, 1) := by decide +kernel
theorem dX9_end_33 : decode cX9_end 33 = .ok (.bipush 62, 2) := by decide +kernel
theorem dX9_end_35 : decode cX9_end 35 = .ok (.if_icmp .eq 65, 3) := by decide +kernel
theorem dX9_end_38 : decode cX9_end 38 = .ok (.iload_n 2, 1) := by decide +kernel
theorem dX9_end_39 : decode cX9_end 39 = .ok (.aload_n 0, 1) := by decide +kernel
theorem dX9_end_40 : decode cX9_end 40 = .ok (.getfield 22, 3) := by decide +kernel
theorem dX9_end_43 : decode cX9_end 43 = .ok (.iload_n 3, 1) := by decide +kernel
theorem dX9_end_44 : decode cX9_end 44 = .ok (.iaload, 1) := by decide +kernel
theorem dX9_end_45 : decode cX9_end 45 = .ok (.bipush 40, 2) := by decide +kernel
theorem dX9_end_47 : decode cX9_end 47 = .ok (.if_icmp .eq 14, 3) := by decide +kernel
theorem dX9_end_50 : decode cX9_end 50 = .ok (.aload_n 0, 1) := by decide +kernel
theorem dX9_end_51 : decode cX9_end 51 = .ok (.getfield 22, 3) := by decide +kernel
theorem dX9_end_54 : decode cX9_end 54 = .ok (.iload_n 3, 1) := by decide +kernel
theorem dX9_end_55 : decode cX9_end 55 = .ok (.iaload, 1) := by decide +kernel
theorem dX9_end_56 : decode cX9_end 56 = .ok (.bipush 60, 2) := by decide +kernel
theorem dX9_end_58 : decode cX9_end 58 = .ok (.if_icmp .ne 7, 3) := by decide +kernel
theorem dX9_end_61 : decode cX9_end 61 = .ok (.iconst 1, 1) := by decide +kernel
theorem dX9_end_62 : decode cX9_end 62 = .ok (.goto 30, 3) := by decide +kernel
theorem dX9_end_65 : decode cX9_end 65 = .ok (.aload_n 0, 1) := by decide +kernel
theorem dX9_end_66 : decode cX9_end 66 = .ok (.getfield 22, 3) := by decide +kernel
theorem dX9_end_69 : decode cX9_end 69 = .ok (.iload_n 3, 1) := by decide +kernel
theorem dX9_end_70 : decode cX9_end 70 = .ok (.iaload, 1) := by decide +kernel
theorem dX9_end_71 : decode cX9_end 71 = .ok (.bipush 41, 2) := by decide +kernel
theorem dX9_end_73 : decode cX9_end 73 = .ok (.if_icmp .eq 14, 3) := by decide +kernel
theorem dX9_end_76 : decode cX9_end 76 = .ok (.aload_n 0, 1) := by decide +kernel
theorem dX9_end_77 : decode cX9_end 77 = .ok (.getfield 22, 3) := by decide +kernel
theorem dX9_end_80 : decode cX9_end 80 = .ok (.iload_n 3, 1) := by decide +kernel
theorem dX9_end_81 : decode cX9_end 81 = .ok (.iaload, 1) := by decide +kernel
theorem dX9_end_82 : decode cX9_end 82 = .ok (.bipush 62, 2) := by decide +kernel
theorem dX9_end_84 : decode cX9_end 84 = .ok (.if_icmp .ne 7, 3) := by decide +kernel
theorem dX9_end_87 : decode cX9_end 87 = .ok (.iconst (-1), 1) := by decide +kernel
theorem dX9_end_88 : decode cX9_end 88 = .ok (.goto 4, 3) := by decide +kernel
theorem dX9_end_91 : decode cX9_end 91 = .ok (.iconst 0, 1) := by decide +kernel
theorem dX9_end_92 : decode cX9_end 92 = .ok (.iadd, 1) := by decide +kernel
theorem dX9_end_93 : decode cX9_end 93 = .ok (.istore_n 2, 1) := by decide +kernel
theorem dX9_end_94 : decode cX9_end 94 = .ok (.iinc 3 1, 3) := by decide +kernel
theorem dX9_end_97 : decode cX9_end 97 = .ok (.goto (-93), 3) := by decide +kernel
theorem dX9_end_100 : decode cX9_end 100 = .ok (.iload_n 3, 1) := by decide +kernel
theorem dX9_end_101 : decode cX9_end 101 = .ok (.ireturn, 1) := by decide +kernel
theorem dX9_stitches_0 : decode cX9_stitches 0 = .ok (.iconst 0, 1) := by decide +kernel
theorem dX9_stitches_1 : decode cX9_stitches 1 = .ok (.istore 5, 2) := by decide +kernel
theorem dX9_stitches_3 : decode cX9_stitches 3 = .ok (.iload 5, 2) := by decide +kernel
theorem dX9_stitches_5 : decode cX9_stitches 5 = .ok (.iload_n 2, 1) := by decide +kernel
theorem dX9_stitches_6 : decode cX9_stitches 6 = .ok (.if_icmp .ge 130, 3) := by decide +kernel
theorem dX9_stitches_9 : decode cX9_stitches 9 = .ok (.aload_n 0, 1) := by decide +kernel
theorem dX9_stitches_10 : decode cX9_stitches 10 = .ok (.getfield 132, 3) := by decide +kernel
theorem dX9_stitches_13 : decode cX9_stitches 13 = .ok (.ifCond .ne 123, 3) := by decide +kernel
theorem dX9_stitches_16 : decode cX9_stitches 16 = .ok (.iload_n 1, 1) := by decide +kernel
theorem dX9_stitches_17 : decode cX9_stitches 17 = .ok (.invokestatic 141, 3) := by decide +kernel
theorem dX9_stitches_20 : decode cX9_stitches 20 = .ok (.aload_n 0, 1) := by decide +kernel
theorem dX9_stitches_21 : decode cX9_stitches 21 = .ok (.getfield 144, 3) := by decide +kernel
theorem dX9_stitches_24 : decode cX9_stitches 24 = .ok (.if_icmp .le 14, 3) := by decide +kernel
theorem dX9_stitches_27 : decode cX9_stitches 27 = .ok (.aload_n 0, 1) := by decide +kernel
theorem dX9_stitches_28 : decode cX9_stitches 28 = .ok (.iconst 1, 1) := by decide +kernel
theorem dX9_stitches_29 : decode cX9_stitches 29 = .ok (.iload_n 3, 1) := by decide +kernel
theorem dX9_stitches_30 : decode cX9_stitches 30 = .ok (.iload 4, 2) := by decide +kernel
theorem dX9_stitches_32 : decode cX9_stitches 32 = .ok (.invokevirtual 147, 3) := by decide +kernel
theorem dX9_stitches_35 : decode cX9_stitches 35 = .ok (.goto 95, 3) := by decide +kernel
theorem dX9_stitches_38 : decode cX9_stitches 38 = .ok (.aload_n 0, 1) := by decide +kernel
theorem dX9_stitches_39 : decode cX9_stitches 39 = .ok (.getfield 151, 3) := by decide +kernel
theorem dX9_stitches_42 : decode cX9_stitches 42 = .ok (.iload_n 1, 1) := by decide +kernel
theorem dX9_stitches_43 : decode cX9_stitches 43 = .ok (.invokestatic 154, 3) := by decide +kernel
theorem dX9_stitches_46 : decode cX9_stitches 46 = .ok (.iadd, 1) := by decide +kernel
theorem dX9_stitches_47 : decode cX9_stitches 47 = .ok (.bipush 60, 2) := by decide +kernel
theorem dX9_stitches_49 : decode cX9_stitches 49 = .ok (.if_icmp .le 14, 3) := by decide +kernel
theorem dX9_stitches_52 : decode cX9_stitches 52 = .ok (.aload_n 0, 1) := by decide +kernel
theorem dX9_stitches_53 : decode cX9_stitches 53 = .ok (.iconst 2, 1) := by decide +kernel
theorem dX9_stitches_54 : decode cX9_stitches 54 = .ok (.iload_n 3, 1) := by decide +kernel
theorem dX9_stitches_55 : decode cX9_stitches 55 = .ok (.iload 4, 2) := by decide +kernel
theorem dX9_stitches_57 : decode cX9_stitches 57 = .ok (.invokevirtual 147, 3) := by decide +kernel
theorem dX9_stitches_60 : decode cX9_stitches 60 = .ok (.goto 70, 3) := by decide +kernel
theorem dX9_stitches_63 : decode cX9_stitches 63 = .ok (.aload_n 0, 1) := by decide +kernel
theorem dX9_stitches_64 : decode cX9_stitches 64 = .ok (.getfield 157, 3) := by decide +kernel
theorem dX9_stitches_67 : decode cX9_stitches 67 = .ok (.sipush 200, 3) := by decide +kernel
theorem dX9_stitches_70 : decode cX9_stitches 70 = .ok (.if_icmp .ne 14, 3) := by decide +kernel
theorem dX9_stitches_73 : decode cX9_stitches 73 = .ok (.aload_n 0, 1) := by decide +kernel
theorem dX9_stitches_74 : decode cX9_stitches 74 = .ok (.iconst 3, 1) := by decide +kernel
theorem dX9_stitches_75 : decode cX9_stitches 75 = .ok (.iload_n 3, 1) := by decide +kernel
theorem dX9_stitches_76 : decode cX9_stitches 76 = .ok (.iload 4, 2) := by decide +kernel
theorem dX9_stitches_78 : decode cX9_stitches 78 = .ok (.invokevirtual 147, 3) := by decide +kernel
theorem dX9_stitches_81 : decode cX9_stitches 81 = .ok (.goto 49, 3) := by decide +kernel
theorem dX9_stitches_84 : decode cX9_stitches 84 = .ok (.aload_n 0, 1) := by decide +kernel
theorem dX9_stitches_85 : decode cX9_stitches 85 = .ok (.dup, 1) := by decide +kernel
theorem dX9_stitches_86 : decode cX9_stitches 86 = .ok (.getfield 144, 3) := by decide +kernel
theorem dX9_stitches_89 : decode cX9_stitches 89 = .ok (.iload_n 1, 1) := by decide +kernel
theorem dX9_stitches_90 : decode cX9_stitches 90 = .ok (.invokestatic 141, 3) := by decide +kernel
theorem dX9_stitches_93 : decode cX9_stitches 93 = .ok (.isub, 1) := by decide +kernel
theorem dX9_stitches_94 : decode cX9_stitches 94 = .ok (.putfield 144, 3) := by decide +kernel
theorem dX9_stitches_97 : decode cX9_stitches 97 = .ok (.aload_n 0, 1) := by decide +kernel
theorem dX9_stitches_98 : decode cX9_stitches 98 = .ok (.dup, 1) := by decide +kernel
theorem dX9_stitches_99 : decode cX9_stitches 99 = .ok (.getfield 151, 3) := by decide +kernel
theorem dX9_stitches_102 : decode cX9_stitches 102 = .ok (.iload_n 1, 1) := by decide +kernel
theorem dX9_stitches_103 : decode cX9_stitches 103 = .ok (.invokestatic 154, 3) := by decide +kernel
theorem dX9_stitches_106 : decode cX9_stitches 106 = .ok (.iadd, 1) := by decide +kernel
theorem dX9_stitches_107 : decode cX9_stitches 107 = .ok (.putfield 151, 3) := by decide +kernel
theorem dX9_stitches_110 : decode cX9_stitches 110 = .ok (.aload_n 0, 1) := by decide +kernel
theorem dX9_stitches_111 : decode cX9_stitches 111 = .ok (.getfield 25, 3) := by decide +kernel
theorem dX9_stitches_114 : decode cX9_stitches 114 = .ok (.aload_n 0, 1) := by decide +kernel
theorem dX9_stitches_115 : decode cX9_stitches 115 = .ok (.getfield 157, 3) := by decide +kernel
theorem dX9_stitches_118 : decode cX9_stitches 118 = .ok (.iload_n 1, 1) := by decide +kernel
theorem dX9_stitches_119 : decode cX9_stitches 119 = .ok (.iastore, 1) := by decide +kernel
theorem dX9_stitches_120 : decode cX9_stitches 120 = .ok (.aload_n 0, 1) := by decide +kernel
theorem dX9_stitches_121 : decode cX9_stitches 121 = .ok (.dup, 1) := by decide +kernel
theorem dX9_stitches_122 : decode cX9_stitches 122 = .ok (.getfield 157, 3) := by decide +kernel
theorem dX9_stitches_125 : decode cX9_stitches 125 = .ok (.iconst 1, 1) := by decide +kernel
theorem dX9_stitches_126 : decode cX9_stitches 126 = .ok (.iadd, 1) := by decide +kernel
theorem dX9_stitches_127 : decode cX9_stitches 127 = .ok (.putfield 157, 3) := by decide +kernel
theorem dX9_stitches_130 : decode cX9_stitches 130 = .ok (.iinc 5 1, 3) := by decide +kernel
theorem dX9_stitches_133 : decode cX9_stitches 133 = .ok (.goto (-130), 3) := by decide +kernel
theorem dX9_stitches_136 : decode cX9_stitches 136 = .ok (.return_, 1) := by decide +kernel
theorem dX9_once_0 : decode cX9_once 0 = .ok (.aload_n 0, 1) := by decide +kernel
theorem dX9_once_1 : decode cX9_once 1 = .ok (.getfield 28, 3) := by decide +kernel
theorem dX9_once_4 : decode cX9_once 4 = .ok (.iload 4, 2) := by decide +kernel
theorem dX9_once_6 : decode cX9_once 6 = .ok (.iload_n 2, 1) := by decide +kernel
theorem dX9_once_7 : decode cX9_once 7 = .ok (.iastore, 1) := by decide +kernel
theorem dX9_once_8 : decode cX9_once 8 = .ok (.aload_n 0, 1) := by decide +kernel
theorem dX9_once_9 : decode cX9_once 9 = .ok (.getfield 31, 3) := by decide +kernel
theorem dX9_once_12 : decode cX9_once 12 = .ok (.iload 4, 2) := by decide +kernel
theorem dX9_once_14 : decode cX9_once 14 = .ok (.iload_n 3, 1) := by decide +kernel
theorem dX9_once_15 : decode cX9_once 15 = .ok (.iastore, 1) := by decide +kernel
theorem dX9_once_16 : decode cX9_once 16 = .ok (.aload_n 0, 1) := by decide +kernel
theorem dX9_once_17 : decode cX9_once 17 = .ok (.iload_n 1, 1) := by decide +kernel
theorem dX9_once_18 : decode cX9_once 18 = .ok (.putfield 67, 3) := by decide +kernel
theorem dX9_once_21 : decode cX9_once 21 = .ok (.aload_n 0, 1) := by decide +kernel
theorem dX9_once_22 : decode cX9_once 22 = .ok (.iload 4, 2) := by decide +kernel
theorem dX9_once_24 : decode cX9_once 24 = .ok (.iconst 1, 1) := by decide +kernel
theorem dX9_once_25 : decode cX9_once 25 = .ok (.iadd, 1) := by decide +kernel
theorem dX9_once_26 : decode cX9_once 26 = .ok (.invokevirtual 160, 3) := by decide +kernel
theorem dX9_once_29 : decode cX9_once 29 = .ok (.return_, 1) := by decide +kernel
theorem dX9_works_0 : decode cX9_works 0 = .ok (.iconst 1, 1) := by decide +kernel
theorem dX9_works_1 : decode cX9_works 1 = .ok (.istore_n 2, 1) := by decide +kernel
theorem dX9_works_2 : decode cX9_works 2 = .ok (.iload_n 2, 1) := by decide +kernel
theorem dX9_works_3 : decode cX9_works 3 = .ok (.ifCond .eq 250, 3) := by decide +kernel
theorem dX9_works_6 : decode cX9_works 6 = .ok (.aload_n 0, 1) := by decide +kernel
theorem dX9_works_7 : decode cX9_works 7 = .ok (.getfield 132, 3) := by decide +kernel
theorem dX9_works_10 : decode cX9_works 10 = .ok (.ifCond .ne 243, 3) := by decide +kernel
theorem dX9_works_13 : decode cX9_works 13 = .ok (.aload_n 0, 1) := by decide +kernel
theorem dX9_works_14 : decode cX9_works 14 = .ok (.getfield 67, 3) := by decide +kernel
theorem dX9_works_17 : decode cX9_works 17 = .ok (.istore_n 3, 1) := by decide +kernel
theorem dX9_works_18 : decode cX9_works 18 = .ok (.aload_n 0, 1) := by decide +kernel
theorem dX9_works_19 : decode cX9_works 19 = .ok (.invokevirtual 77, 3) := by decide +kernel
theorem dX9_works_22 : decode cX9_works 22 = .ok (.istore 4, 2) := by decide +kernel
theorem dX9_works_24 : decode cX9_works 24 = .ok (.iload 4, 2) := by decide +kernel
theorem dX9_works_26 : decode cX9_works 26 = .ok (.bipush 40, 2) := by decide +kernel
theorem dX9_works_28 : decode cX9_works 28 = .ok (.if_icmp .eq 10, 3) := by decide +kernel
theorem dX9_works_31 : decode cX9_works 31 = .ok (.iload 4, 2) := by decide +kernel
theorem dX9_works_33 : decode cX9_works 33 = .ok (.bipush 60, 2) := by decide +kernel
theorem dX9_works_35 : decode cX9_works 35 = .ok (.if_icmp .ne 136, 3) := by decide +kernel
theorem dX9_works_38 : decode cX9_works 38 = .ok (.aload_n 0, 1) := by decide +kernel
theorem dX9_works_39 : decode cX9_works 39 = .ok (.getfield 67, 3) := by decide +kernel
theorem dX9_works_42 : decode cX9_works 42 = .ok (.iconst 1, 1) := by decide +kernel
theorem dX9_works_43 : decode cX9_works 43 = .ok (.iadd, 1) := by decide +kernel
theorem dX9_works_44 : decode cX9_works 44 = .ok (.istore 5, 2) := by decide +kernel
theorem dX9_works_46 : decode cX9_works 46 = .ok (.aload_n 0, 1) := by decide +kernel
theorem dX9_works_47 : decode cX9_works 47 = .ok (.iload 5, 2) := by decide +kernel
theorem dX9_works_49 : decode cX9_works 49 = .ok (.invokevirtual 163, 3) := by decide +kernel
theorem dX9_works_52 : decode cX9_works 52 = .ok (.istore 6, 2) := by decide +kernel
theorem dX9_works_54 : decode cX9_works 54 = .ok (.aload_n 0, 1) := by decide +kernel
theorem dX9_works_55 : decode cX9_works 55 = .ok (.iload 6, 2) := by decide +kernel
theorem dX9_works_57 : decode cX9_works 57 = .ok (.iconst 1, 1) := by decide +kernel
theorem dX9_works_58 : decode cX9_works 58 = .ok (.iadd, 1) := by decide +kernel
theorem dX9_works_59 : decode cX9_works 59 = .ok (.putfield 67, 3) := by decide +kernel
theorem dX9_works_62 : decode cX9_works 62 = .ok (.aload_n 0, 1) := by decide +kernel
theorem dX9_works_63 : decode cX9_works 63 = .ok (.iconst 0, 1) := by decide +kernel
theorem dX9_works_64 : decode cX9_works 64 = .ok (.bipush 60, 2) := by decide +kernel
theorem dX9_works_66 : decode cX9_works 66 = .ok (.invokevirtual 115, 3) := by decide +kernel
theorem dX9_works_69 : decode cX9_works 69 = .ok (.istore 7, 2) := by decide +kernel
theorem dX9_works_71 : decode cX9_works 71 = .ok (.aload_n 0, 1) := by decide +kernel
theorem dX9_works_72 : decode cX9_works 72 = .ok (.getfield 67, 3) := by decide +kernel
theorem dX9_works_75 : decode cX9_works 75 = .ok (.istore 8, 2) := by decide +kernel
theorem dX9_works_77 : decode cX9_works 77 = .ok (.iload 4, 2) := by decide +kernel
theorem dX9_works_79 : decode cX9_works 79 = .ok (.bipush 40, 2) := by decide +kernel
theorem dX9_works_81 : decode cX9_works 81 = .ok (.if_icmp .ne 57, 3) := by decide +kernel
theorem dX9_works_84 : decode cX9_works 84 = .ok (.iconst (-1), 1) := by decide +kernel
theorem dX9_works_85 : decode cX9_works 85 = .ok (.istore 9, 2) := by decide +kernel
theorem dX9_works_87 : decode cX9_works 87 = .ok (.iconst 1, 1) := by decide +kernel
theorem dX9_works_88 : decode cX9_works 88 = .ok (.istore 10, 2) := by decide +kernel
theorem dX9_works_90 : decode cX9_works 90 = .ok (.iload 10, 2) := by decide +kernel
theorem dX9_works_92 : decode cX9_works 92 = .ok (.iload 7, 2) := by decide +kernel
theorem dX9_works_94 : decode cX9_works 94 = .ok (.if_icmp .gt 41, 3) := by decide +kernel
theorem dX9_works_97 : decode cX9_works 97 = .ok (.aload_n 0, 1) := by decide +kernel
theorem dX9_works_98 : decode cX9_works 98 = .ok (.getfield 132, 3) := by decide +kernel
theorem dX9_works_101 : decode cX9_works 101 = .ok (.ifCond .ne 34, 3) := by decide +kernel
theorem dX9_works_104 : decode cX9_works 104 = .ok (.aload_n 0, 1) := by decide +kernel
theorem dX9_works_105 : decode cX9_works 105 = .ok (.getfield 157, 3) := by decide +kernel
theorem dX9_works_108 : decode cX9_works 108 = .ok (.iload 9, 2) := by decide +kernel
theorem dX9_works_110 : decode cX9_works 110 = .ok (.if_icmp .eq 25, 3) := by decide +kernel
theorem dX9_works_113 : decode cX9_works 113 = .ok (.aload_n 0, 1) := by decide +kernel
theorem dX9_works_114 : decode cX9_works 114 = .ok (.getfield 157, 3) := by decide +kernel
theorem dX9_works_117 : decode cX9_works 117 = .ok (.istore 9, 2) := by decide +kernel
theorem dX9_works_119 : decode cX9_works 119 = .ok (.aload_n 0, 1) := by decide +kernel
theorem dX9_works_120 : decode cX9_works 120 = .ok (.iload 5, 2) := by decide +kernel
theorem dX9_works_122 : decode cX9_works 122 = .ok (.iload_n 3, 1) := by decide +kernel
theorem dX9_works_123 : decode cX9_works 123 = .ok (.iload 10, 2) := by decide +kernel
theorem dX9_works_125 : decode cX9_works 125 = .ok (.iload_n 1, 1) := by decide +kernel
theorem dX9_works_126 : decode cX9_works 126 = .ok (.invokevirtual 166, 3) := by decide +kernel
theorem dX9_works_129 : decode cX9_works 129 = .ok (.iinc 10 1, 3) := by decide +kernel
theorem dX9_works_132 : decode cX9_works 132 = .ok (.goto (-42), 3) := by decide +kernel
theorem dX9_works_135 : decode cX9_works 135 = .ok (.goto 13, 3) := by decide +kernel
theorem dX9_works_138 : decode cX9_works 138 = .ok (.aload_n 0, 1) := by decide +kernel
theorem dX9_works_139 : decode cX9_works 139 = .ok (.iload 5, 2) := by decide +kernel
theorem dX9_works_141 : decode cX9_works 141 = .ok (.iload_n 3, 1) := by decide +kernel
theorem dX9_works_142 : decode cX9_works 142 = .ok (.iload 7, 2) := by decide +kernel
theorem dX9_works_144 : decode cX9_works 144 = .ok (.iload_n 1, 1) := by decide +kernel
theorem dX9_works_145 : decode cX9_works 145 = .ok (.invokevirtual 170, 3) := by decide +kernel
theorem dX9_works_148 : decode cX9_works 148 = .ok (.aload_n 0, 1) := by decide +kernel
theorem dX9_works_149 : decode cX9_works 149 = .ok (.aload_n 0, 1) := by decide +kernel
theorem dX9_works_150 : decode cX9_works 150 = .ok (.getfield 132, 3) := by decide +kernel
theorem dX9_works_153 : decode cX9_works 153 = .ok (.ifCond .ne 8, 3) := by decide +kernel
theorem dX9_works_156 : decode cX9_works 156 = .ok (.iload 8, 2) := by decide +kernel
theorem dX9_works_158 : decode cX9_works 158 = .ok (.goto 7, 3) := by decide +kernel
theorem dX9_works_161 : decode cX9_works 161 = .ok (.aload_n 0, 1) := by decide +kernel
theorem dX9_works_162 : decode cX9_works 162 = .ok (.getfield 67, 3) := by decide +kernel
theorem dX9_works_165 : decode cX9_works 165 = .ok (.putfield 67, 3) := by decide +kernel
theorem dX9_works_168 : decode cX9_works 168 = .ok (.goto 42, 3) := by decide +kernel
theorem dX9_works_171 : decode cX9_works 171 = .ok (.aload_n 0, 1) := by decide +kernel
theorem dX9_works_172 : decode cX9_works 172 = .ok (.invokevirtual 118, 3) := by decide +kernel
theorem dX9_works_175 : decode cX9_works 175 = .ok (.istore 5, 2) := by decide +kernel
theorem dX9_works_177 : decode cX9_works 177 = .ok (.aload_n 0, 1) := by decide +kernel
theorem dX9_works_178 : decode cX9_works 178 = .ok (.invokevirtual 77, 3) := by decide +kernel
theorem dX9_works_181 : decode cX9_works 181 = .ok (.invokestatic 81, 3) := by decide +kernel
theorem dX9_works_184 : decode cX9_works 184 = .ok (.ifCond .eq 13, 3) := by decide +kernel
theorem dX9_works_187 : decode cX9_works 187 = .ok (.aload_n 0, 1) := by decide +kernel
theorem dX9_works_188 : decode cX9_works 188 = .ok (.iconst 1, 1) := by decide +kernel
theorem dX9_works_189 : decode cX9_works 189 = .ok (.bipush 60, 2) := by decide +kernel
theorem dX9_works_191 : decode cX9_works 191 = .ok (.invokevirtual 115, 3) := by decide +kernel
theorem dX9_works_194 : decode cX9_works 194 = .ok (.goto 4, 3) := by decide +kernel
theorem dX9_works_197 : decode cX9_works 197 = .ok (.iconst 1, 1) := by decide +kernel
theorem dX9_works_198 : decode cX9_works 198 = .ok (.istore 6, 2) := by decide +kernel
theorem dX9_works_200 : decode cX9_works 200 = .ok (.aload_n 0, 1) := by decide +kernel
theorem dX9_works_201 : decode cX9_works 201 = .ok (.iload 5, 2) := by decide +kernel
theorem dX9_works_203 : decode cX9_works 203 = .ok (.iload 6, 2) := by decide +kernel
theorem dX9_works_205 : decode cX9_works 205 = .ok (.iload_n 3, 1) := by decide +kernel
theorem dX9_works_206 : decode cX9_works 206 = .ok (.iload_n 1, 1) := by decide +kernel
theorem dX9_works_207 : decode cX9_works 207 = .ok (.invokevirtual 173, 3) := by decide +kernel
theorem dX9_works_210 : decode cX9_works 210 = .ok (.aload_n 0, 1) := by decide +kernel
theorem dX9_works_211 : decode cX9_works 211 = .ok (.getfield 132, 3) := by decide +kernel
theorem dX9_works_214 : decode cX9_works 214 = .ok (.ifCond .ne 16, 3) := by decide +kernel
theorem dX9_works_217 : decode cX9_works 217 = .ok (.aload_n 0, 1) := by decide +kernel
theorem dX9_works_218 : decode cX9_works 218 = .ok (.invokevirtual 77, 3) := by decide +kernel
theorem dX9_works_221 : decode cX9_works 221 = .ok (.bipush 44, 2) := by decide +kernel
theorem dX9_works_223 : decode cX9_works 223 = .ok (.if_icmp .ne 7, 3) := by decide +kernel
theorem dX9_works_226 : decode cX9_works 226 = .ok (.iconst 1, 1) := by decide +kernel
theorem dX9_works_227 : decode cX9_works 227 = .ok (.goto 4, 3) := by decide +kernel
theorem dX9_works_230 : decode cX9_works 230 = .ok (.iconst 0, 1) := by decide +kernel
theorem dX9_works_231 : decode cX9_works 231 = .ok (.istore_n 2, 1) := by decide +kernel
theorem dX9_works_232 : decode cX9_works 232 = .ok (.aload_n 0, 1) := by decide +kernel
theorem dX9_works_233 : decode cX9_works 233 = .ok (.dup, 1) := by decide +kernel
theorem dX9_works_234 : decode cX9_works 234 = .ok (.getfield 67, 3) := by decide +kernel
theorem dX9_works_237 : decode cX9_works 237 = .ok (.iload_n 2, 1) := by decide +kernel
theorem dX9_works_238 : decode cX9_works 238 = .ok (.ifCond .eq 7, 3) := by decide +kernel
theorem dX9_works_241 : decode cX9_works 241 = .ok (.iconst 1, 1) := by decide +kernel
theorem dX9_works_242 : decode cX9_works 242 = .ok (.goto 4, 3) := by decide +kernel
theorem dX9_works_245 : decode cX9_works 245 = .ok (.iconst 0, 1) := by decide +kernel
theorem dX9_works_246 : decode cX9_works 246 = .ok (.iadd, 1) := by decide +kernel
theorem dX9_works_247 : decode cX9_works 247 = .ok (.putfield 67, 3) := by decide +kernel
theorem dX9_works_250 : decode cX9_works 250 = .ok (.goto (-248), 3) := by decide +kernel
theorem dX9_works_253 : decode cX9_works 253 = .ok (.return_, 1) := by decide +kernel
theorem dX9_tillLeft_0 : decode cX9_tillLeft 0 = .ok (.iconst 1, 1) := by decide +kernel
theorem dX9_tillLeft_1 : decode cX9_tillLeft 1 = .ok (.istore 5, 2) := by decide +kernel
theorem dX9_tillLeft_3 : decode cX9_tillLeft 3 = .ok (.aload_n 0, 1) := by decide +kernel
theorem dX9_tillLeft_4 : decode cX9_tillLeft 4 = .ok (.getfield 132, 3) := by decide +kernel
theorem dX9_tillLeft_7 : decode cX9_tillLeft 7 = .ok (.ifCond .ne 57, 3) := by decide +kernel
theorem dX9_tillLeft_10 : decode cX9_tillLeft 10 = .ok (.aload_n 0, 1) := by decide +kernel
theorem dX9_tillLeft_11 : decode cX9_tillLeft 11 = .ok (.getfield 144, 3) := by decide +kernel
theorem dX9_tillLeft_14 : decode cX9_tillLeft 14 = .ok (.iload_n 3, 1) := by decide +kernel
theorem dX9_tillLeft_15 : decode cX9_tillLeft 15 = .ok (.if_icmp .le 49, 3) := by decide +kernel
theorem dX9_tillLeft_18 : decode cX9_tillLeft 18 = .ok (.aload_n 0, 1) := by decide +kernel
theorem dX9_tillLeft_19 : decode cX9_tillLeft 19 = .ok (.getfield 144, 3) := by decide +kernel
theorem dX9_tillLeft_22 : decode cX9_tillLeft 22 = .ok (.istore 6, 2) := by decide +kernel
theorem dX9_tillLeft_24 : decode cX9_tillLeft 24 = .ok (.aload_n 0, 1) := by decide +kernel
theorem dX9_tillLeft_25 : decode cX9_tillLeft 25 = .ok (.iload_n 1, 1) := by decide +kernel
theorem dX9_tillLeft_26 : decode cX9_tillLeft 26 = .ok (.iload_n 2, 1) := by decide +kernel
theorem dX9_tillLeft_27 : decode cX9_tillLeft 27 = .ok (.iload 5, 2) := by decide +kernel
theorem dX9_tillLeft_29 : decode cX9_tillLeft 29 = .ok (.iload 4, 2) := by decide +kernel
theorem dX9_tillLeft_31 : decode cX9_tillLeft 31 = .ok (.invokevirtual 166, 3) := by decide +kernel
theorem dX9_tillLeft_34 : decode cX9_tillLeft 34 = .ok (.aload_n 0, 1) := by decide +kernel
theorem dX9_tillLeft_35 : decode cX9_tillLeft 35 = .ok (.getfield 132, 3) := by decide +kernel
theorem dX9_tillLeft_38 : decode cX9_tillLeft 38 = .ok (.ifCond .ne 20, 3) := by decide +kernel
theorem dX9_tillLeft_41 : decode cX9_tillLeft 41 = .ok (.aload_n 0, 1) := by decide +kernel
theorem dX9_tillLeft_42 : decode cX9_tillLeft 42 = .ok (.getfield 144, 3) := by decide +kernel
theorem dX9_tillLeft_45 : decode cX9_tillLeft 45 = .ok (.iload 6, 2) := by decide +kernel
theorem dX9_tillLeft_47 : decode cX9_tillLeft 47 = .ok (.if_icmp .ne 11, 3) := by decide +kernel
theorem dX9_tillLeft_50 : decode cX9_tillLeft 50 = .ok (.aload_n 0, 1) := by decide +kernel
theorem dX9_tillLeft_51 : decode cX9_tillLeft 51 = .ok (.iconst 4, 1) := by decide +kernel
theorem dX9_tillLeft_52 : decode cX9_tillLeft 52 = .ok (.iload_n 2, 1) := by decide +kernel
theorem dX9_tillLeft_53 : decode cX9_tillLeft 53 = .ok (.iload 4, 2) := by decide +kernel
theorem dX9_tillLeft_55 : decode cX9_tillLeft 55 = .ok (.invokevirtual 147, 3) := by decide +kernel
theorem dX9_tillLeft_58 : decode cX9_tillLeft 58 = .ok (.iinc 5 1, 3) := by decide +kernel
theorem dX9_tillLeft_61 : decode cX9_tillLeft 61 = .ok (.goto (-58), 3) := by decide +kernel
theorem dX9_tillLeft_64 : decode cX9_tillLeft 64 = .ok (.aload_n 0, 1) := by decide +kernel
theorem dX9_tillLeft_65 : decode cX9_tillLeft 65 = .ok (.getfield 132, 3) := by decide +kernel
theorem dX9_tillLeft_68 : decode cX9_tillLeft 68 = .ok (.ifCond .ne 19, 3) := by decide +kernel
theorem dX9_tillLeft_71 : decode cX9_tillLeft 71 = .ok (.aload_n 0, 1) := by decide +kernel
theorem dX9_tillLeft_72 : decode cX9_tillLeft 72 = .ok (.getfield 144, 3) := by decide +kernel
theorem dX9_tillLeft_75 : decode cX9_tillLeft 75 = .ok (.iload_n 3, 1) := by decide +kernel
theorem dX9_tillLeft_76 : decode cX9_tillLeft 76 = .ok (.if_icmp .ge 11, 3) := by decide +kernel
theorem dX9_tillLeft_79 : decode cX9_tillLeft 79 = .ok (.aload_n 0, 1) := by decide +kernel
theorem dX9_tillLeft_80 : decode cX9_tillLeft 80 = .ok (.iconst 5, 1) := by decide +kernel
theorem dX9_tillLeft_81 : decode cX9_tillLeft 81 = .ok (.iload_n 2, 1) := by decide +kernel
theorem dX9_tillLeft_82 : decode cX9_tillLeft 82 = .ok (.iload 4, 2) := by decide +kernel
theorem dX9_tillLeft_84 : decode cX9_tillLeft 84 = .ok (.invokevirtual 147, 3) := by decide +kernel
theorem dX9_tillLeft_87 : decode cX9_tillLeft 87 = .ok (.return_, 1) := by decide +kernel
theorem dX9_tries_0 : decode cX9_tries 0 = .ok (.aload_n 0, 1) := by decide +kernel
theorem dX9_tries_1 : decode cX9_tries 1 = .ok (.iload_n 1, 1) := by decide +kernel
theorem dX9_tries_2 : decode cX9_tries 2 = .ok (.invokevirtual 129, 3) := by decide +kernel
theorem dX9_tries_5 : decode cX9_tries 5 = .ok (.aload_n 0, 1) := by decide +kernel
theorem dX9_tries_6 : decode cX9_tries 6 = .ok (.iconst 1, 1) := by decide +kernel
theorem dX9_tries_7 : decode cX9_tries 7 = .ok (.putfield 85, 3) := by decide +kernel
theorem dX9_tries_10 : decode cX9_tries 10 = .ok (.aload_n 0, 1) := by decide +kernel
theorem dX9_tries_11 : decode cX9_tries 11 = .ok (.iconst 0, 1) := by decide +kernel
theorem dX9_tries_12 : decode cX9_tries 12 = .ok (.putfield 67, 3) := by decide +kernel
theorem dX9_tries_15 : decode cX9_tries 15 = .ok (.aload_n 0, 1) := by decide +kernel
theorem dX9_tries_16 : decode cX9_tries 16 = .ok (.iload_n 2, 1) := by decide +kernel
theorem dX9_tries_17 : decode cX9_tries 17 = .ok (.putfield 144, 3) := by decide +kernel
theorem dX9_tries_20 : decode cX9_tries 20 = .ok (.aload_n 0, 1) := by decide +kernel
theorem dX9_tries_21 : decode cX9_tries 21 = .ok (.iconst 0, 1) := by decide +kernel
theorem dX9_tries_22 : decode cX9_tries 22 = .ok (.putfield 151, 3) := by decide +kernel
theorem dX9_tries_25 : decode cX9_tries 25 = .ok (.aload_n 0, 1) := by decide +kernel
theorem dX9_tries_26 : decode cX9_tries 26 = .ok (.iconst 0, 1) := by decide +kernel
theorem dX9_tries_27 : decode cX9_tries 27 = .ok (.putfield 157, 3) := by decide +kernel
theorem dX9_tries_30 : decode cX9_tries 30 = .ok (.aload_n 0, 1) := by decide +kernel
theorem dX9_tries_31 : decode cX9_tries 31 = .ok (.iconst 0, 1) := by decide +kernel
theorem dX9_tries_32 : decode cX9_tries 32 = .ok (.putfield 132, 3) := by decide +kernel
theorem dX9_tries_35 : decode cX9_tries 35 = .ok (.aload_n 0, 1) := by decide +kernel
theorem dX9_tries_36 : decode cX9_tries 36 = .ok (.iconst 0, 1) := by decide +kernel
theorem dX9_tries_37 : decode cX9_tries 37 = .ok (.putfield 138, 3) := by decide +kernel
theorem dX9_tries_40 : decode cX9_tries 40 = .ok (.aload_n 0, 1) := by decide +kernel
theorem dX9_tries_41 : decode cX9_tries 41 = .ok (.iconst 0, 1) := by decide +kernel
theorem dX9_tries_42 : decode cX9_tries 42 = .ok (.invokevirtual 160, 3) := by decide +kernel
theorem dX9_tries_45 : decode cX9_tries 45 = .ok (.aload_n 0, 1) := by decide +kernel
theorem dX9_tries_46 : decode cX9_tries 46 = .ok (.getfield 132, 3) := by decide +kernel
theorem dX9_tries_49 : decode cX9_tries 49 = .ok (.ifCond .ne 21, 3) := by decide +kernel
theorem dX9_tries_52 : decode cX9_tries 52 = .ok (.aload_n 0, 1) := by decide +kernel
theorem dX9_tries_53 : decode cX9_tries 53 = .ok (.getfield 144, 3) := by decide +kernel
theorem dX9_tries_56 : decode cX9_tries 56 = .ok (.ifCond .le 14, 3) := by decide +kernel
theorem dX9_tries_59 : decode cX9_tries 59 = .ok (.aload_n 0, 1) := by decide +kernel
theorem dX9_tries_60 : decode cX9_tries 60 = .ok (.bipush 6, 2) := by decide +kernel
theorem dX9_tries_62 : decode cX9_tries 62 = .ok (.aload_n 0, 1) := by decide +kernel
theorem dX9_tries_63 : decode cX9_tries 63 = .ok (.getfield 70, 3) := by decide +kernel
theorem dX9_tries_66 : decode cX9_tries 66 = .ok (.iconst 0, 1) := by decide +kernel
theorem dX9_tries_67 : decode cX9_tries 67 = .ok (.invokevirtual 147, 3) := by decide +kernel
theorem dX9_tries_70 : decode cX9_tries 70 = .ok (.return_, 1) := by decide +kernel
theorem dX9_triesNow_0 : decode cX9_triesNow 0 = .ok (.aload_n 0, 1) := by decide +kernel
theorem dX9_triesNow_1 : decode cX9_triesNow 1 = .ok (.getfield 13, 3) := by decide +kernel
theorem dX9_triesNow_4 : decode cX9_triesNow 4 = .ok (.sipush 5025, 3) := by decide +kernel
theorem dX9_triesNow_7 : decode cX9_triesNow 7 = .ok (.iaload, 1) := by decide +kernel
theorem dX9_triesNow_8 : decode cX9_triesNow 8 = .ok (.bipush 50, 2) := by decide +kernel
theorem dX9_triesNow_10 : decode cX9_triesNow 10 = .ok (.if_icmp .ne 31, 3) := by decide +kernel
theorem dX9_triesNow_13 : decode cX9_triesNow 13 = .ok (.aload_n 0, 1) := by decide +kernel
theorem dX9_triesNow_14 : decode cX9_triesNow 14 = .ok (.iconst 0, 1) := by decide +kernel
theorem dX9_triesNow_15 : decode cX9_triesNow 15 = .ok (.putfield 157, 3) := by decide +kernel
theorem dX9_triesNow_18 : decode cX9_triesNow 18 = .ok (.aload_n 0, 1) := by decide +kernel
theorem dX9_triesNow_19 : decode cX9_triesNow 19 = .ok (.aload_n 0, 1) := by decide +kernel
theorem dX9_triesNow_20 : decode cX9_triesNow 20 = .ok (.getfield 13, 3) := by decide +kernel
theorem dX9_triesNow_23 : decode cX9_triesNow 23 = .ok (.sipush 5023, 3) := by decide +kernel
theorem dX9_triesNow_26 : decode cX9_triesNow 26 = .ok (.iaload, 1) := by decide +kernel
theorem dX9_triesNow_27 : decode cX9_triesNow 27 = .ok (.putfield 144, 3) := by decide +kernel
theorem dX9_triesNow_30 : decode cX9_triesNow 30 = .ok (.aload_n 0, 1) := by decide +kernel
theorem dX9_triesNow_31 : decode cX9_triesNow 31 = .ok (.bipush 7, 2) := by decide +kernel
theorem dX9_triesNow_33 : decode cX9_triesNow 33 = .ok (.iconst 0, 1) := by decide +kernel
theorem dX9_triesNow_34 : decode cX9_triesNow 34 = .ok (.iconst 0, 1) := by decide +kernel
theorem dX9_triesNow_35 : decode cX9_triesNow 35 = .ok (.invokevirtual 147, 3) := by decide +kernel
theorem dX9_triesNow_38 : decode cX9_triesNow 38 = .ok (.goto 16, 3) := by decide +kernel
theorem dX9_triesNow_41 : decode cX9_triesNow 41 = .ok (.aload_n 0, 1) := by decide +kernel
theorem dX9_triesNow_42 : decode cX9_triesNow 42 = .ok (.iload_n 1, 1) := by decide +kernel
theorem dX9_triesNow_43 : decode cX9_triesNow 43 = .ok (.aload_n 0, 1) := by decide +kernel
theorem dX9_triesNow_44 : decode cX9_triesNow 44 = .ok (.getfield 13, 3) := by decide +kernel
theorem dX9_triesNow_47 : decode cX9_triesNow 47 = .ok (.sipush 5023, 3) := by decide +kernel
theorem dX9_triesNow_50 : decode cX9_triesNow 50 = .ok (.iaload, 1) := by decide +kernel
theorem dX9_triesNow_51 : decode cX9_triesNow 51 = .ok (.invokevirtual 176, 3) := by decide +kernel
theorem dX9_triesNow_54 : decode cX9_triesNow 54 = .ok (.return_, 1) := by decide +kernel
theorem dX9_done_0 : decode cX9_done 0 = .ok (.sipush 5026, 3) := by decide +kernel
theorem dX9_done_3 : decode cX9_done 3 = .ok (.sipush 204, 3) := by decide +kernel
theorem dX9_done_6 : decode cX9_done 6 = .ok (.aload_n 0, 1) := by decide +kernel
theorem dX9_done_7 : decode cX9_done 7 = .ok (.getfield 13, 3) := by decide +kernel
theorem dX9_done_10 : decode cX9_done 10 = .ok (.sipush 5025, 3) := by decide +kernel
theorem dX9_done_13 : decode cX9_done 13 = .ok (.iaload, 1) := by decide +kernel
theorem dX9_done_14 : decode cX9_done 14 = .ok (.imul, 1) := by decide +kernel
theorem dX9_done_15 : decode cX9_done 15 = .ok (.iadd, 1) := by decide +kernel
theorem dX9_done_16 : decode cX9_done 16 = .ok (.istore_n 2, 1) := by decide +kernel
theorem dX9_done_17 : decode cX9_done 17 = .ok (.aload_n 0, 1) := by decide +kernel
theorem dX9_done_18 : decode cX9_done 18 = .ok (.getfield 13, 3) := by decide +kernel
theorem dX9_done_21 : decode cX9_done 21 = .ok (.iload_n 2, 1) := by decide +kernel
theorem dX9_done_22 : decode cX9_done 22 = .ok (.aload_n 0, 1) := by decide +kernel
theorem dX9_done_23 : decode cX9_done 23 = .ok (.getfield 13, 3) := by decide +kernel
theorem dX9_done_26 : decode cX9_done 26 = .ok (.sipush 5022, 3) := by decide +kernel
theorem dX9_done_29 : decode cX9_done 29 = .ok (.iaload, 1) := by decide +kernel
theorem dX9_done_30 : decode cX9_done 30 = .ok (.iastore, 1) := by decide +kernel
theorem dX9_done_31 : decode cX9_done 31 = .ok (.aload_n 0, 1) := by decide +kernel
theorem dX9_done_32 : decode cX9_done 32 = .ok (.getfield 13, 3) := by decide +kernel
theorem dX9_done_35 : decode cX9_done 35 = .ok (.iload_n 2, 1) := by decide +kernel
theorem dX9_done_36 : decode cX9_done 36 = .ok (.iconst 1, 1) := by decide +kernel
theorem dX9_done_37 : decode cX9_done 37 = .ok (.iadd, 1) := by decide +kernel
theorem dX9_done_38 : decode cX9_done 38 = .ok (.iload_n 1, 1) := by decide +kernel
theorem dX9_done_39 : decode cX9_done 39 = .ok (.iastore, 1) := by decide +kernel
theorem dX9_done_40 : decode cX9_done 40 = .ok (.aload_n 0, 1) := by decide +kernel
theorem dX9_done_41 : decode cX9_done 41 = .ok (.getfield 13, 3) := by decide +kernel
theorem dX9_done_44 : decode cX9_done 44 = .ok (.iload_n 2, 1) := by decide +kernel
theorem dX9_done_45 : decode cX9_done 45 = .ok (.iconst 2, 1) := by decide +kernel
theorem dX9_done_46 : decode cX9_done 46 = .ok (.iadd, 1) := by decide +kernel
theorem dX9_done_47 : decode cX9_done 47 = .ok (.aload_n 0, 1) := by decide +kernel
theorem dX9_done_48 : decode cX9_done 48 = .ok (.getfield 157, 3) := by decide +kernel
theorem dX9_done_51 : decode cX9_done 51 = .ok (.iastore, 1) := by decide +kernel
theorem dX9_done_52 : decode cX9_done 52 = .ok (.aload_n 0, 1) := by decide +kernel
theorem dX9_done_53 : decode cX9_done 53 = .ok (.getfield 13, 3) := by decide +kernel
theorem dX9_done_56 : decode cX9_done 56 = .ok (.iload_n 2, 1) := by decide +kernel
theorem dX9_done_57 : decode cX9_done 57 = .ok (.iconst 3, 1) := by decide +kernel
theorem dX9_done_58 : decode cX9_done 58 = .ok (.iadd, 1) := by decide +kernel
theorem dX9_done_59 : decode cX9_done 59 = .ok (.aload_n 0, 1) := by decide +kernel
theorem dX9_done_60 : decode cX9_done 60 = .ok (.getfield 13, 3) := by decide +kernel
theorem dX9_done_63 : decode cX9_done 63 = .ok (.sipush 5023, 3) := by decide +kernel
theorem dX9_done_66 : decode cX9_done 66 = .ok (.iaload, 1) := by decide +kernel
theorem dX9_done_67 : decode cX9_done 67 = .ok (.iastore, 1) := by decide +kernel
theorem dX9_done_68 : decode cX9_done 68 = .ok (.iconst 0, 1) := by decide +kernel
theorem dX9_done_69 : decode cX9_done 69 = .ok (.istore_n 3, 1) := by decide +kernel
theorem dX9_done_70 : decode cX9_done 70 = .ok (.iload_n 3, 1) := by decide +kernel
theorem dX9_done_71 : decode cX9_done 71 = .ok (.aload_n 0, 1) := by decide +kernel
theorem dX9_done_72 : decode cX9_done 72 = .ok (.getfield 157, 3) := by decide +kernel
theorem dX9_done_75 : decode cX9_done 75 = .ok (.if_icmp .ge 25, 3) := by decide +kernel
theorem dX9_done_78 : decode cX9_done 78 = .ok (.aload_n 0, 1) := by decide +kernel
theorem dX9_done_79 : decode cX9_done 79 = .ok (.getfield 13, 3) := by decide +kernel
theorem dX9_done_82 : decode cX9_done 82 = .ok (.iload_n 2, 1) := by decide +kernel
theorem dX9_done_83 : decode cX9_done 83 = .ok (.iconst 4, 1) := by decide +kernel
theorem dX9_done_84 : decode cX9_done 84 = .ok (.iadd, 1) := by decide +kernel
theorem dX9_done_85 : decode cX9_done 85 = .ok (.iload_n 3, 1) := by decide +kernel
theorem dX9_done_86 : decode cX9_done 86 = .ok (.iadd, 1) := by decide +kernel
theorem dX9_done_87 : decode cX9_done 87 = .ok (.aload_n 0, 1) := by decide +kernel
theorem dX9_done_88 : decode cX9_done 88 = .ok (.getfield 25, 3) := by decide +kernel
theorem dX9_done_91 : decode cX9_done 91 = .ok (.iload_n 3, 1) := by decide +kernel
theorem dX9_done_92 : decode cX9_done 92 = .ok (.iaload, 1) := by decide +kernel
theorem dX9_done_93 : decode cX9_done 93 = .ok (.iastore, 1) := by decide +kernel
theorem dX9_done_94 : decode cX9_done 94 = .ok (.iinc 3 1, 3) := by decide +kernel
theorem dX9_done_97 : decode cX9_done 97 = .ok (.goto (-27), 3) := by decide +kernel
theorem dX9_done_100 : decode cX9_done 100 = .ok (.aload_n 0, 1) := by decide +kernel
theorem dX9_done_101 : decode cX9_done 101 = .ok (.getfield 13, 3) := by decide +kernel
theorem dX9_done_104 : decode cX9_done 104 = .ok (.sipush 5025, 3) := by decide +kernel
theorem dX9_done_107 : decode cX9_done 107 = .ok (.dup2, 1) := by decide +kernel
theorem dX9_done_108 : decode cX9_done 108 = .ok (.iaload, 1) := by decide +kernel
theorem dX9_done_109 : decode cX9_done 109 = .ok (.iconst 1, 1) := by decide +kernel
theorem dX9_done_110 : decode cX9_done 110 = .ok (.iadd, 1) := by decide +kernel
theorem dX9_done_111 : decode cX9_done 111 = .ok (.iastore, 1) := by decide +kernel
theorem dX9_done_112 : decode cX9_done 112 = .ok (.aload_n 0, 1) := by decide +kernel
theorem dX9_done_113 : decode cX9_done 113 = .ok (.getfield 13, 3) := by decide +kernel
theorem dX9_done_116 : decode cX9_done 116 = .ok (.sipush 5023, 3) := by decide +kernel
theorem dX9_done_119 : decode cX9_done 119 = .ok (.aload_n 0, 1) := by decide +kernel
theorem dX9_done_120 : decode cX9_done 120 = .ok (.getfield 151, 3) := by decide +kernel
theorem dX9_done_123 : decode cX9_done 123 = .ok (.iastore, 1) := by decide +kernel
theorem dX9_done_124 : decode cX9_done 124 = .ok (.aload_n 0, 1) := by decide +kernel
theorem dX9_done_125 : decode cX9_done 125 = .ok (.getfield 13, 3) := by decide +kernel
theorem dX9_done_128 : decode cX9_done 128 = .ok (.sipush 5022, 3) := by decide +kernel
theorem dX9_done_131 : decode cX9_done 131 = .ok (.aload_n 0, 1) := by decide +kernel
theorem dX9_done_132 : decode cX9_done 132 = .ok (.getfield 13, 3) := by decide +kernel
theorem dX9_done_135 : decode cX9_done 135 = .ok (.sipush 5021, 3) := by decide +kernel
theorem dX9_done_138 : decode cX9_done 138 = .ok (.iaload, 1) := by decide +kernel
theorem dX9_done_139 : decode cX9_done 139 = .ok (.ifCond .ne 16, 3) := by decide +kernel
theorem dX9_done_142 : decode cX9_done 142 = .ok (.iconst 1, 1) := by decide +kernel
theorem dX9_done_143 : decode cX9_done 143 = .ok (.aload_n 0, 1) := by decide +kernel
theorem dX9_done_144 : decode cX9_done 144 = .ok (.getfield 13, 3) := by decide +kernel
theorem dX9_done_147 : decode cX9_done 147 = .ok (.sipush 5022, 3) := by decide +kernel
theorem dX9_done_150 : decode cX9_done 150 = .ok (.iaload, 1) := by decide +kernel
theorem dX9_done_151 : decode cX9_done 151 = .ok (.isub, 1) := by decide +kernel
theorem dX9_done_152 : decode cX9_done 152 = .ok (.goto 11, 3) := by decide +kernel
theorem dX9_done_155 : decode cX9_done 155 = .ok (.aload_n 0, 1) := by decide +kernel
theorem dX9_done_156 : decode cX9_done 156 = .ok (.getfield 13, 3) := by decide +kernel
theorem dX9_done_159 : decode cX9_done 159 = .ok (.sipush 5022, 3) := by decide +kernel
theorem dX9_done_162 : decode cX9_done 162 = .ok (.iaload, 1) := by decide +kernel
theorem dX9_done_163 : decode cX9_done 163 = .ok (.iastore, 1) := by decide +kernel
theorem dX9_done_164 : decode cX9_done 164 = .ok (.return_, 1) := by decide +kernel
theorem dX9_adds_0 : decode cX9_adds 0 = .ok (.aload_n 0, 1) := by decide +kernel
theorem dX9_adds_1 : decode cX9_adds 1 = .ok (.getfield 34, 3) := by decide +kernel
theorem dX9_adds_4 : decode cX9_adds 4 = .ok (.iconst 3, 1) := by decide +kernel
theorem dX9_adds_5 : decode cX9_adds 5 = .ok (.aload_n 0, 1) := by decide +kernel
theorem dX9_adds_6 : decode cX9_adds 6 = .ok (.getfield 180, 3) := by decide +kernel
theorem dX9_adds_9 : decode cX9_adds 9 = .ok (.imul, 1) := by decide +kernel
theorem dX9_adds_10 : decode cX9_adds 10 = .ok (.iload_n 1, 1) := by decide +kernel
theorem dX9_adds_11 : decode cX9_adds 11 = .ok (.iastore, 1) := by decide +kernel
theorem dX9_adds_12 : decode cX9_adds 12 = .ok (.aload_n 0, 1) := by decide +kernel
theorem dX9_adds_13 : decode cX9_adds 13 = .ok (.getfield 34, 3) := by decide +kernel
theorem dX9_adds_16 : decode cX9_adds 16 = .ok (.iconst 3, 1) := by decide +kernel
theorem dX9_adds_17 : decode cX9_adds 17 = .ok (.aload_n 0, 1) := by decide +kernel
theorem dX9_adds_18 : decode cX9_adds 18 = .ok (.getfield 180, 3) := by decide +kernel
theorem dX9_adds_21 : decode cX9_adds 21 = .ok (.imul, 1) := by decide +kernel
theorem dX9_adds_22 : decode cX9_adds 22 = .ok (.iconst 1, 1) := by decide +kernel
theorem dX9_adds_23 : decode cX9_adds 23 = .ok (.iadd, 1) := by decide +kernel
theorem dX9_adds_24 : decode cX9_adds 24 = .ok (.iload_n 2, 1) := by decide +kernel
theorem dX9_adds_25 : decode cX9_adds 25 = .ok (.iastore, 1) := by decide +kernel
theorem dX9_adds_26 : decode cX9_adds 26 = .ok (.aload_n 0, 1) := by decide +kernel
theorem dX9_adds_27 : decode cX9_adds 27 = .ok (.getfield 34, 3) := by decide +kernel
theorem dX9_adds_30 : decode cX9_adds 30 = .ok (.iconst 3, 1) := by decide +kernel
theorem dX9_adds_31 : decode cX9_adds 31 = .ok (.aload_n 0, 1) := by decide +kernel
theorem dX9_adds_32 : decode cX9_adds 32 = .ok (.getfield 180, 3) := by decide +kernel
theorem dX9_adds_35 : decode cX9_adds 35 = .ok (.imul, 1) := by decide +kernel
theorem dX9_adds_36 : decode cX9_adds 36 = .ok (.iconst 2, 1) := by decide +kernel
theorem dX9_adds_37 : decode cX9_adds 37 = .ok (.iadd, 1) := by decide +kernel
theorem dX9_adds_38 : decode cX9_adds 38 = .ok (.iload_n 3, 1) := by decide +kernel
theorem dX9_adds_39 : decode cX9_adds 39 = .ok (.iastore, 1) := by decide +kernel
theorem dX9_adds_40 : decode cX9_adds 40 = .ok (.aload_n 0, 1) := by decide +kernel
theorem dX9_adds_41 : decode cX9_adds 41 = .ok (.dup, 1) := by decide +kernel
theorem dX9_adds_42 : decode cX9_adds 42 = .ok (.getfield 180, 3) := by decide +kernel
theorem dX9_adds_45 : decode cX9_adds 45 = .ok (.iconst 1, 1) := by decide +kernel
theorem dX9_adds_46 : decode cX9_adds 46 = .ok (.iadd, 1) := by decide +kernel
theorem dX9_adds_47 : decode cX9_adds 47 = .ok (.putfield 180, 3) := by decide +kernel
theorem dX9_adds_50 : decode cX9_adds 50 = .ok (.return_, 1) := by decide +kernel
theorem dX9_tellsWhy_0 : decode cX9_tellsWhy 0 = .ok (.aload_n 0, 1) := by decide +kernel
theorem dX9_tellsWhy_1 : decode cX9_tellsWhy 1 = .ok (.iconst 0, 1) := by decide +kernel
theorem dX9_tellsWhy_2 : decode cX9_tellsWhy 2 = .ok (.putfield 180, 3) := by decide +kernel
theorem dX9_tellsWhy_5 : decode cX9_tellsWhy 5 = .ok (.iload_n 2, 1) := by decide +kernel
theorem dX9_tellsWhy_6 : decode cX9_tellsWhy 6 = .ok (.ifCond .le 11, 3) := by decide +kernel
theorem dX9_tellsWhy_9 : decode cX9_tellsWhy 9 = .ok (.aload_n 0, 1) := by decide +kernel
theorem dX9_tellsWhy_10 : decode cX9_tellsWhy 10 = .ok (.bipush 12, 2) := by decide +kernel
theorem dX9_tellsWhy_12 : decode cX9_tellsWhy 12 = .ok (.iload_n 2, 1) := by decide +kernel
theorem dX9_tellsWhy_13 : decode cX9_tellsWhy 13 = .ok (.iload_n 1, 1) := by decide +kernel
theorem dX9_tellsWhy_14 : decode cX9_tellsWhy 14 = .ok (.invokevirtual 183, 3) := by decide +kernel
theorem dX9_tellsWhy_17 : decode cX9_tellsWhy 17 = .ok (.aload_n 0, 1) := by decide +kernel
theorem dX9_tellsWhy_18 : decode cX9_tellsWhy 18 = .ok (.bipush 11, 2) := by decide +kernel
theorem dX9_tellsWhy_20 : decode cX9_tellsWhy 20 = .ok (.iload_n 1, 1) := by decide +kernel
theorem dX9_tellsWhy_21 : decode cX9_tellsWhy 21 = .ok (.aload_n 0, 1) := by decide +kernel
theorem dX9_tellsWhy_22 : decode cX9_tellsWhy 22 = .ok (.getfield 157, 3) := by decide +kernel
theorem dX9_tellsWhy_25 : decode cX9_tellsWhy 25 = .ok (.invokevirtual 183, 3) := by decide +kernel
theorem dX9_tellsWhy_28 : decode cX9_tellsWhy 28 = .ok (.iconst 0, 1) := by decide +kernel
theorem dX9_tellsWhy_29 : decode cX9_tellsWhy 29 = .ok (.istore_n 3, 1) := by decide +kernel
theorem dX9_tellsWhy_30 : decode cX9_tellsWhy 30 = .ok (.iload_n 3, 1) := by decide +kernel
theorem dX9_tellsWhy_31 : decode cX9_tellsWhy 31 = .ok (.aload_n 0, 1) := by decide +kernel
theorem dX9_tellsWhy_32 : decode cX9_tellsWhy 32 = .ok (.getfield 138, 3) := by decide +kernel
theorem dX9_tellsWhy_35 : decode cX9_tellsWhy 35 = .ok (.if_icmp .ge 27, 3) := by decide +kernel
theorem dX9_tellsWhy_38 : decode cX9_tellsWhy 38 = .ok (.aload_n 0, 1) := by decide +kernel
theorem dX9_tellsWhy_39 : decode cX9_tellsWhy 39 = .ok (.bipush 10, 2) := by decide +kernel
theorem dX9_tellsWhy_41 : decode cX9_tellsWhy 41 = .ok (.aload_n 0, 1) := by decide +kernel
theorem dX9_tellsWhy_42 : decode cX9_tellsWhy 42 = .ok (.getfield 28, 3) := by decide +kernel
theorem dX9_tellsWhy_45 : decode cX9_tellsWhy 45 = .ok (.iload_n 3, 1) := by decide +kernel
theorem dX9_tellsWhy_46 : decode cX9_tellsWhy 46 = .ok (.iaload, 1) := by decide +kernel
theorem dX9_tellsWhy_47 : decode cX9_tellsWhy 47 = .ok (.aload_n 0, 1) := by decide +kernel
theorem dX9_tellsWhy_48 : decode cX9_tellsWhy 48 = .ok (.getfield 31, 3) := by decide +kernel
theorem dX9_tellsWhy_51 : decode cX9_tellsWhy 51 = .ok (.iload_n 3, 1) := by decide +kernel
theorem dX9_tellsWhy_52 : decode cX9_tellsWhy 52 = .ok (.iaload, 1) := by decide +kernel
theorem dX9_tellsWhy_53 : decode cX9_tellsWhy 53 = .ok (.invokevirtual 183, 3) := by decide +kernel
theorem dX9_tellsWhy_56 : decode cX9_tellsWhy 56 = .ok (.iinc 3 1, 3) := by decide +kernel
theorem dX9_tellsWhy_59 : decode cX9_tellsWhy 59 = .ok (.goto (-29), 3) := by decide +kernel
theorem dX9_tellsWhy_62 : decode cX9_tellsWhy 62 = .ok (.aload_n 0, 1) := by decide +kernel
theorem dX9_tellsWhy_63 : decode cX9_tellsWhy 63 = .ok (.aload_n 0, 1) := by decide +kernel
theorem dX9_tellsWhy_64 : decode cX9_tellsWhy 64 = .ok (.getfield 132, 3) := by decide +kernel
theorem dX9_tellsWhy_67 : decode cX9_tellsWhy 67 = .ok (.aload_n 0, 1) := by decide +kernel
theorem dX9_tellsWhy_68 : decode cX9_tellsWhy 68 = .ok (.getfield 135, 3) := by decide +kernel
theorem dX9_tellsWhy_71 : decode cX9_tellsWhy 71 = .ok (.aload_n 0, 1) := by decide +kernel
theorem dX9_tellsWhy_72 : decode cX9_tellsWhy 72 = .ok (.getfield 144, 3) := by decide +kernel
theorem dX9_tellsWhy_75 : decode cX9_tellsWhy 75 = .ok (.invokevirtual 183, 3) := by decide +kernel
theorem dX9_tellsWhy_78 : decode cX9_tellsWhy 78 = .ok (.return_, 1) := by decide +kernel
theorem dX9_work_0 : decode cX9_work 0 = .ok (.aload_n 0, 1) := by decide +kernel
theorem dX9_work_1 : decode cX9_work 1 = .ok (.iload_n 1, 1) := by decide +kernel
theorem dX9_work_2 : decode cX9_work 2 = .ok (.invokevirtual 124, 3) := by decide +kernel
theorem dX9_work_5 : decode cX9_work 5 = .ok (.ifCond .ne 10, 3) := by decide +kernel
theorem dX9_work_8 : decode cX9_work 8 = .ok (.aload_n 0, 1) := by decide +kernel
theorem dX9_work_9 : decode cX9_work 9 = .ok (.bipush (-92), 2) := by decide +kernel
theorem dX9_work_11 : decode cX9_work 11 = .ok (.invokevirtual 60, 3) := by decide +kernel
theorem dX9_work_14 : decode cX9_work 14 = .ok (.ireturn, 1) := by decide +kernel
theorem dX9_work_15 : decode cX9_work 15 = .ok (.aload_n 0, 1) := by decide +kernel
theorem dX9_work_16 : decode cX9_work 16 = .ok (.iconst 0, 1) := by decide +kernel
theorem dX9_work_17 : decode cX9_work 17 = .ok (.putfield 132, 3) := by decide +kernel
theorem dX9_work_20 : decode cX9_work 20 = .ok (.aload_n 0, 1) := by decide +kernel
theorem dX9_work_21 : decode cX9_work 21 = .ok (.iload_n 1, 1) := by decide +kernel
theorem dX9_work_22 : decode cX9_work 22 = .ok (.invokevirtual 186, 3) := by decide +kernel
theorem dX9_work_25 : decode cX9_work 25 = .ok (.aload_n 0, 1) := by decide +kernel
theorem dX9_work_26 : decode cX9_work 26 = .ok (.getfield 132, 3) := by decide +kernel
theorem dX9_work_29 : decode cX9_work 29 = .ok (.ifCond .eq 16, 3) := by decide +kernel
theorem dX9_work_32 : decode cX9_work 32 = .ok (.aload_n 0, 1) := by decide +kernel
theorem dX9_work_33 : decode cX9_work 33 = .ok (.iload_n 1, 1) := by decide +kernel
theorem dX9_work_34 : decode cX9_work 34 = .ok (.iconst 0, 1) := by decide +kernel
theorem dX9_work_35 : decode cX9_work 35 = .ok (.invokevirtual 189, 3) := by decide +kernel
theorem dX9_work_38 : decode cX9_work 38 = .ok (.aload_n 0, 1) := by decide +kernel
theorem dX9_work_39 : decode cX9_work 39 = .ok (.bipush (-95), 2) := by decide +kernel
theorem dX9_work_41 : decode cX9_work 41 = .ok (.invokevirtual 60, 3) := by decide +kernel
theorem dX9_work_44 : decode cX9_work 44 = .ok (.ireturn, 1) := by decide +kernel
theorem dX9_work_45 : decode cX9_work 45 = .ok (.aload_n 0, 1) := by decide +kernel
theorem dX9_work_46 : decode cX9_work 46 = .ok (.iload_n 1, 1) := by decide +kernel
theorem dX9_work_47 : decode cX9_work 47 = .ok (.invokevirtual 192, 3) := by decide +kernel
theorem dX9_work_50 : decode cX9_work 50 = .ok (.aload_n 0, 1) := by decide +kernel
theorem dX9_work_51 : decode cX9_work 51 = .ok (.getfield 13, 3) := by decide +kernel
theorem dX9_work_54 : decode cX9_work 54 = .ok (.sipush 5023, 3) := by decide +kernel
theorem dX9_work_57 : decode cX9_work 57 = .ok (.iaload, 1) := by decide +kernel
theorem dX9_work_58 : decode cX9_work 58 = .ok (.ireturn, 1) := by decide +kernel
theorem dX9_run_0 : decode cX9_run 0 = .ok (.aload_n 0, 1) := by decide +kernel
theorem dX9_run_1 : decode cX9_run 1 = .ok (.iload_n 1, 1) := by decide +kernel
theorem dX9_run_2 : decode cX9_run 2 = .ok (.invokevirtual 124, 3) := by decide +kernel
theorem dX9_run_5 : decode cX9_run 5 = .ok (.ifCond .eq 28, 3) := by decide +kernel
theorem dX9_run_8 : decode cX9_run 8 = .ok (.aload_n 0, 1) := by decide +kernel
theorem dX9_run_9 : decode cX9_run 9 = .ok (.iload_n 2, 1) := by decide +kernel
theorem dX9_run_10 : decode cX9_run 10 = .ok (.invokevirtual 124, 3) := by decide +kernel
theorem dX9_run_13 : decode cX9_run 13 = .ok (.ifCond .eq 20, 3) := by decide +kernel
theorem dX9_run_16 : decode cX9_run 16 = .ok (.iload_n 2, 1) := by decide +kernel
theorem dX9_run_17 : decode cX9_run 17 = .ok (.iload_n 1, 1) := by decide +kernel
theorem dX9_run_18 : decode cX9_run 18 = .ok (.if_icmp .lt 15, 3) := by decide +kernel
theorem dX9_run_21 : decode cX9_run 21 = .ok (.iload_n 3, 1) := by decide +kernel
theorem dX9_run_22 : decode cX9_run 22 = .ok (.i2l, 1) := by decide +kernel
theorem dX9_run_23 : decode cX9_run 23 = .ok (.lconst 1, 1) := by decide +kernel
theorem dX9_run_24 : decode cX9_run 24 = .ok (.ldc2_w 195, 3) := by decide +kernel
theorem dX9_run_27 : decode cX9_run 27 = .ok (.invokestatic 56, 3) := by decide +kernel
theorem dX9_run_30 : decode cX9_run 30 = .ok (.ifCond .ne 10, 3) := by decide +kernel
theorem dX9_run_33 : decode cX9_run 33 = .ok (.aload_n 0, 1) := by decide +kernel
theorem dX9_run_34 : decode cX9_run 34 = .ok (.bipush (-92), 2) := by decide +kernel
theorem dX9_run_36 : decode cX9_run 36 = .ok (.invokevirtual 60, 3) := by decide +kernel
theorem dX9_run_39 : decode cX9_run 39 = .ok (.ireturn, 1) := by decide +kernel
theorem dX9_run_40 : decode cX9_run 40 = .ok (.iconst 0, 1) := by decide +kernel
theorem dX9_run_41 : decode cX9_run 41 = .ok (.istore 4, 2) := by decide +kernel
theorem dX9_run_43 : decode cX9_run 43 = .ok (.iconst 1, 1) := by decide +kernel
theorem dX9_run_44 : decode cX9_run 44 = .ok (.istore 5, 2) := by decide +kernel
theorem dX9_run_46 : decode cX9_run 46 = .ok (.iload 5, 2) := by decide +kernel
theorem dX9_run_48 : decode cX9_run 48 = .ok (.iload_n 3, 1) := by decide +kernel
theorem dX9_run_49 : decode cX9_run 49 = .ok (.if_icmp .gt 66, 3) := by decide +kernel
theorem dX9_run_52 : decode cX9_run 52 = .ok (.iload_n 1, 1) := by decide +kernel
theorem dX9_run_53 : decode cX9_run 53 = .ok (.istore 6, 2) := by decide +kernel
theorem dX9_run_55 : decode cX9_run 55 = .ok (.iload 6, 2) := by decide +kernel
theorem dX9_run_57 : decode cX9_run 57 = .ok (.iload_n 2, 1) := by decide +kernel
theorem dX9_run_58 : decode cX9_run 58 = .ok (.if_icmp .gt 51, 3) := by decide +kernel
theorem dX9_run_61 : decode cX9_run 61 = .ok (.aload_n 0, 1) := by decide +kernel
theorem dX9_run_62 : decode cX9_run 62 = .ok (.iconst 0, 1) := by decide +kernel
theorem dX9_run_63 : decode cX9_run 63 = .ok (.putfield 132, 3) := by decide +kernel
theorem dX9_run_66 : decode cX9_run 66 = .ok (.aload_n 0, 1) := by decide +kernel
theorem dX9_run_67 : decode cX9_run 67 = .ok (.iload 6, 2) := by decide +kernel
theorem dX9_run_69 : decode cX9_run 69 = .ok (.invokevirtual 186, 3) := by decide +kernel
theorem dX9_run_72 : decode cX9_run 72 = .ok (.aload_n 0, 1) := by decide +kernel
theorem dX9_run_73 : decode cX9_run 73 = .ok (.getfield 132, 3) := by decide +kernel
theorem dX9_run_76 : decode cX9_run 76 = .ok (.ifCond .eq 18, 3) := by decide +kernel
theorem dX9_run_79 : decode cX9_run 79 = .ok (.aload_n 0, 1) := by decide +kernel
theorem dX9_run_80 : decode cX9_run 80 = .ok (.iload 6, 2) := by decide +kernel
theorem dX9_run_82 : decode cX9_run 82 = .ok (.iload 5, 2) := by decide +kernel
theorem dX9_run_84 : decode cX9_run 84 = .ok (.invokevirtual 189, 3) := by decide +kernel
theorem dX9_run_87 : decode cX9_run 87 = .ok (.aload_n 0, 1) := by decide +kernel
theorem dX9_run_88 : decode cX9_run 88 = .ok (.bipush (-95), 2) := by decide +kernel
theorem dX9_run_90 : decode cX9_run 90 = .ok (.invokevirtual 60, 3) := by decide +kernel
theorem dX9_run_93 : decode cX9_run 93 = .ok (.ireturn, 1) := by decide +kernel
theorem dX9_run_94 : decode cX9_run 94 = .ok (.aload_n 0, 1) := by decide +kernel
theorem dX9_run_95 : decode cX9_run 95 = .ok (.iload 6, 2) := by decide +kernel
theorem dX9_run_97 : decode cX9_run 97 = .ok (.invokevirtual 192, 3) := by decide +kernel
theorem dX9_run_100 : decode cX9_run 100 = .ok (.iinc 4 1, 3) := by decide +kernel
theorem dX9_run_103 : decode cX9_run 103 = .ok (.iinc 6 1, 3) := by decide +kernel
theorem dX9_run_106 : decode cX9_run 106 = .ok (.goto (-51), 3) := by decide +kernel
theorem dX9_run_109 : decode cX9_run 109 = .ok (.iinc 5 1, 3) := by decide +kernel
theorem dX9_run_112 : decode cX9_run 112 = .ok (.goto (-66), 3) := by decide +kernel
theorem dX9_run_115 : decode cX9_run 115 = .ok (.iload 4, 2) := by decide +kernel
theorem dX9_run_117 : decode cX9_run 117 = .ok (.ireturn, 1) := by decide +kernel
theorem dX9_mode_0 : decode cX9_mode 0 = .ok (.iload_n 1, 1) := by decide +kernel
theorem dX9_mode_1 : decode cX9_mode 1 = .ok (.i2l, 1) := by decide +kernel
theorem dX9_mode_2 : decode cX9_mode 2 = .ok (.lconst 0, 1) := by decide +kernel
theorem dX9_mode_3 : decode cX9_mode 3 = .ok (.lconst 1, 1) := by decide +kernel
theorem dX9_mode_4 : decode cX9_mode 4 = .ok (.invokestatic 56, 3) := by decide +kernel
theorem dX9_mode_7 : decode cX9_mode 7 = .ok (.ifCond .ne 10, 3) := by decide +kernel
theorem dX9_mode_10 : decode cX9_mode 10 = .ok (.aload_n 0, 1) := by decide +kernel
theorem dX9_mode_11 : decode cX9_mode 11 = .ok (.bipush (-92), 2) := by decide +kernel
theorem dX9_mode_13 : decode cX9_mode 13 = .ok (.invokevirtual 60, 3) := by decide +kernel
theorem dX9_mode_16 : decode cX9_mode 16 = .ok (.ireturn, 1) := by decide +kernel
theorem dX9_mode_17 : decode cX9_mode 17 = .ok (.aload_n 0, 1) := by decide +kernel
theorem dX9_mode_18 : decode cX9_mode 18 = .ok (.getfield 13, 3) := by decide +kernel
theorem dX9_mode_21 : decode cX9_mode 21 = .ok (.sipush 5025, 3) := by decide +kernel
theorem dX9_mode_24 : decode cX9_mode 24 = .ok (.iaload, 1) := by decide +kernel
theorem dX9_mode_25 : decode cX9_mode 25 = .ok (.ifCond .le 10, 3) := by decide +kernel
theorem dX9_mode_28 : decode cX9_mode 28 = .ok (.aload_n 0, 1) := by decide +kernel
theorem dX9_mode_29 : decode cX9_mode 29 = .ok (.bipush (-95), 2) := by decide +kernel
theorem dX9_mode_31 : decode cX9_mode 31 = .ok (.invokevirtual 60, 3) := by decide +kernel
theorem dX9_mode_34 : decode cX9_mode 34 = .ok (.ireturn, 1) := by decide +kernel
theorem dX9_mode_35 : decode cX9_mode 35 = .ok (.aload_n 0, 1) := by decide +kernel
theorem dX9_mode_36 : decode cX9_mode 36 = .ok (.getfield 13, 3) := by decide +kernel
theorem dX9_mode_39 : decode cX9_mode 39 = .ok (.sipush 5021, 3) := by decide +kernel
theorem dX9_mode_42 : decode cX9_mode 42 = .ok (.iaload, 1) := by decide +kernel
theorem dX9_mode_43 : decode cX9_mode 43 = .ok (.istore_n 2, 1) := by decide +kernel
theorem dX9_mode_44 : decode cX9_mode 44 = .ok (.aload_n 0, 1) := by decide +kernel
theorem dX9_mode_45 : decode cX9_mode 45 = .ok (.getfield 13, 3) := by decide +kernel
theorem dX9_mode_48 : decode cX9_mode 48 = .ok (.sipush 5021, 3) := by decide +kernel
theorem dX9_mode_51 : decode cX9_mode 51 = .ok (.iload_n 1, 1) := by decide +kernel
theorem dX9_mode_52 : decode cX9_mode 52 = .ok (.iastore, 1) := by decide +kernel
theorem dX9_mode_53 : decode cX9_mode 53 = .ok (.iload_n 2, 1) := by decide +kernel
theorem dX9_mode_54 : decode cX9_mode 54 = .ok (.ireturn, 1) := by decide +kernel
theorem dX9_cast_0 : decode cX9_cast 0 = .ok (.iload_n 1, 1) := by decide +kernel
theorem dX9_cast_1 : decode cX9_cast 1 = .ok (.i2l, 1) := by decide +kernel
theorem dX9_cast_2 : decode cX9_cast 2 = .ok (.lconst 1, 1) := by decide +kernel
theorem dX9_cast_3 : decode cX9_cast 3 = .ok (.ldc2_w 197, 3) := by decide +kernel
theorem dX9_cast_6 : decode cX9_cast 6 = .ok (.invokestatic 56, 3) := by decide +kernel
theorem dX9_cast_9 : decode cX9_cast 9 = .ok (.ifCond .ne 10, 3) := by decide +kernel
theorem dX9_cast_12 : decode cX9_cast 12 = .ok (.aload_n 0, 1) := by decide +kernel
theorem dX9_cast_13 : decode cX9_cast 13 = .ok (.bipush (-92), 2) := by decide +kernel
theorem dX9_cast_15 : decode cX9_cast 15 = .ok (.invokevirtual 60, 3) := by decide +kernel
theorem dX9_cast_18 : decode cX9_cast 18 = .ok (.ireturn, 1) := by decide +kernel
theorem dX9_cast_19 : decode cX9_cast 19 = .ok (.aload_n 0, 1) := by decide +kernel
theorem dX9_cast_20 : decode cX9_cast 20 = .ok (.getfield 13, 3) := by decide +kernel
theorem dX9_cast_23 : decode cX9_cast 23 = .ok (.sipush 5023, 3) := by decide +kernel
theorem dX9_cast_26 : decode cX9_cast 26 = .ok (.iaload, 1) := by decide +kernel
theorem dX9_cast_27 : decode cX9_cast 27 = .ok (.ifCond .gt 14, 3) := by decide +kernel
theorem dX9_cast_30 : decode cX9_cast 30 = .ok (.aload_n 0, 1) := by decide +kernel
theorem dX9_cast_31 : decode cX9_cast 31 = .ok (.getfield 13, 3) := by decide +kernel
theorem dX9_cast_34 : decode cX9_cast 34 = .ok (.sipush 5025, 3) := by decide +kernel
theorem dX9_cast_37 : decode cX9_cast 37 = .ok (.iaload, 1) := by decide +kernel
theorem dX9_cast_38 : decode cX9_cast 38 = .ok (.ifCond .le 10, 3) := by decide +kernel
theorem dX9_cast_41 : decode cX9_cast 41 = .ok (.aload_n 0, 1) := by decide +kernel
theorem dX9_cast_42 : decode cX9_cast 42 = .ok (.bipush (-95), 2) := by decide +kernel
theorem dX9_cast_44 : decode cX9_cast 44 = .ok (.invokevirtual 60, 3) := by decide +kernel
theorem dX9_cast_47 : decode cX9_cast 47 = .ok (.ireturn, 1) := by decide +kernel
theorem dX9_cast_48 : decode cX9_cast 48 = .ok (.aload_n 0, 1) := by decide +kernel
theorem dX9_cast_49 : decode cX9_cast 49 = .ok (.getfield 13, 3) := by decide +kernel
theorem dX9_cast_52 : decode cX9_cast 52 = .ok (.sipush 5023, 3) := by decide +kernel
theorem dX9_cast_55 : decode cX9_cast 55 = .ok (.iload_n 1, 1) := by decide +kernel
theorem dX9_cast_56 : decode cX9_cast 56 = .ok (.iastore, 1) := by decide +kernel
theorem dX9_cast_57 : decode cX9_cast 57 = .ok (.aload_n 0, 1) := by decide +kernel
theorem dX9_cast_58 : decode cX9_cast 58 = .ok (.getfield 13, 3) := by decide +kernel
theorem dX9_cast_61 : decode cX9_cast 61 = .ok (.sipush 5022, 3) := by decide +kernel
theorem dX9_cast_64 : decode cX9_cast 64 = .ok (.iconst 0, 1) := by decide +kernel
theorem dX9_cast_65 : decode cX9_cast 65 = .ok (.iastore, 1) := by decide +kernel
theorem dX9_cast_66 : decode cX9_cast 66 = .ok (.iload_n 1, 1) := by decide +kernel
theorem dX9_cast_67 : decode cX9_cast 67 = .ok (.ireturn, 1) := by decide +kernel
theorem dX9_rips_0 : decode cX9_rips 0 = .ok (.aload_n 0, 1) := by decide +kernel
theorem dX9_rips_1 : decode cX9_rips 1 = .ok (.getfield 13, 3) := by decide +kernel
theorem dX9_rips_4 : decode cX9_rips 4 = .ok (.sipush 5025, 3) := by decide +kernel
theorem dX9_rips_7 : decode cX9_rips 7 = .ok (.dup2, 1) := by decide +kernel
theorem dX9_rips_8 : decode cX9_rips 8 = .ok (.iaload, 1) := by decide +kernel
theorem dX9_rips_9 : decode cX9_rips 9 = .ok (.iload_n 1, 1) := by decide +kernel
theorem dX9_rips_10 : decode cX9_rips 10 = .ok (.isub, 1) := by decide +kernel
theorem dX9_rips_11 : decode cX9_rips 11 = .ok (.iastore, 1) := by decide +kernel
theorem dX9_rips_12 : decode cX9_rips 12 = .ok (.aload_n 0, 1) := by decide +kernel
theorem dX9_rips_13 : decode cX9_rips 13 = .ok (.getfield 13, 3) := by decide +kernel
theorem dX9_rips_16 : decode cX9_rips 16 = .ok (.sipush 5023, 3) := by decide +kernel
theorem dX9_rips_19 : decode cX9_rips 19 = .ok (.aload_n 0, 1) := by decide +kernel
theorem dX9_rips_20 : decode cX9_rips 20 = .ok (.getfield 13, 3) := by decide +kernel
theorem dX9_rips_23 : decode cX9_rips 23 = .ok (.sipush 5026, 3) := by decide +kernel
theorem dX9_rips_26 : decode cX9_rips 26 = .ok (.sipush 204, 3) := by decide +kernel
theorem dX9_rips_29 : decode cX9_rips 29 = .ok (.aload_n 0, 1) := by decide +kernel
theorem dX9_rips_30 : decode cX9_rips 30 = .ok (.getfield 13, 3) := by decide +kernel
theorem dX9_rips_33 : decode cX9_rips 33 = .ok (.sipush 5025, 3) := by decide +kernel
theorem dX9_rips_36 : decode cX9_rips 36 = .ok (.iaload, 1) := by decide +kernel
theorem dX9_rips_37 : decode cX9_rips 37 = .ok (.imul, 1) := by decide +kernel
theorem dX9_rips_38 : decode cX9_rips 38 = .ok (.iadd, 1) := by decide +kernel
theorem dX9_rips_39 : decode cX9_rips 39 = .ok (.iconst 3, 1) := by decide +kernel
theorem dX9_rips_40 : decode cX9_rips 40 = .ok (.iadd, 1) := by decide +kernel
theorem dX9_rips_41 : decode cX9_rips 41 = .ok (.iaload, 1) := by decide +kernel
theorem dX9_rips_42 : decode cX9_rips 42 = .ok (.iastore, 1) := by decide +kernel
theorem dX9_rips_43 : decode cX9_rips 43 = .ok (.aload_n 0, 1) := by decide +kernel
theorem dX9_rips_44 : decode cX9_rips 44 = .ok (.getfield 13, 3) := by decide +kernel
theorem dX9_rips_47 : decode cX9_rips 47 = .ok (.sipush 5022, 3) := by decide +kernel
theorem dX9_rips_50 : decode cX9_rips 50 = .ok (.aload_n 0, 1) := by decide +kernel
theorem dX9_rips_51 : decode cX9_rips 51 = .ok (.getfield 13, 3) := by decide +kernel
theorem dX9_rips_54 : decode cX9_rips 54 = .ok (.sipush 5026, 3) := by decide +kernel
theorem dX9_rips_57 : decode cX9_rips 57 = .ok (.sipush 204, 3) := by decide +kernel
theorem dX9_rips_60 : decode cX9_rips 60 = .ok (.aload_n 0, 1) := by decide +kernel
theorem dX9_rips_61 : decode cX9_rips 61 = .ok (.getfield 13, 3) := by decide +kernel
theorem dX9_rips_64 : decode cX9_rips 64 = .ok (.sipush 5025, 3) := by decide +kernel
theorem dX9_rips_67 : decode cX9_rips 67 = .ok (.iaload, 1) := by decide +kernel
theorem dX9_rips_68 : decode cX9_rips 68 = .ok (.imul, 1) := by decide +kernel
theorem dX9_rips_69 : decode cX9_rips 69 = .ok (.iadd, 1) := by decide +kernel
theorem dX9_rips_70 : decode cX9_rips 70 = .ok (.iaload, 1) := by decide +kernel
theorem dX9_rips_71 : decode cX9_rips 71 = .ok (.iastore, 1) := by decide +kernel
theorem dX9_rips_72 : decode cX9_rips 72 = .ok (.return_, 1) := by decide +kernel
theorem dX9_rip_0 : decode cX9_rip 0 = .ok (.iload_n 1, 1) := by decide +kernel
theorem dX9_rip_1 : decode cX9_rip 1 = .ok (.i2l, 1) := by decide +kernel
theorem dX9_rip_2 : decode cX9_rip 2 = .ok (.lconst 1, 1) := by decide +kernel
theorem dX9_rip_3 : decode cX9_rip 3 = .ok (.aload_n 0, 1) := by decide +kernel
theorem dX9_rip_4 : decode cX9_rip 4 = .ok (.getfield 13, 3) := by decide +kernel
theorem dX9_rip_7 : decode cX9_rip 7 = .ok (.sipush 5025, 3) := by decide +kernel
theorem dX9_rip_10 : decode cX9_rip 10 = .ok (.iaload, 1) := by decide +kernel
theorem dX9_rip_11 : decode cX9_rip 11 = .ok (.i2l, 1) := by decide +kernel
theorem dX9_rip_12 : decode cX9_rip 12 = .ok (.invokestatic 56, 3) := by decide +kernel
theorem dX9_rip_15 : decode cX9_rip 15 = .ok (.ifCond .ne 10, 3) := by decide +kernel
theorem dX9_rip_18 : decode cX9_rip 18 = .ok (.aload_n 0, 1) := by decide +kernel
theorem dX9_rip_19 : decode cX9_rip 19 = .ok (.bipush (-92), 2) := by decide +kernel
theorem dX9_rip_21 : decode cX9_rip 21 = .ok (.invokevirtual 60, 3) := by decide +kernel
theorem dX9_rip_24 : decode cX9_rip 24 = .ok (.ireturn, 1) := by decide +kernel
theorem dX9_rip_25 : decode cX9_rip 25 = .ok (.aload_n 0, 1) := by decide +kernel
theorem dX9_rip_26 : decode cX9_rip 26 = .ok (.iload_n 1, 1) := by decide +kernel
theorem dX9_rip_27 : decode cX9_rip 27 = .ok (.invokevirtual 199, 3) := by decide +kernel
theorem dX9_rip_30 : decode cX9_rip 30 = .ok (.aload_n 0, 1) := by decide +kernel
theorem dX9_rip_31 : decode cX9_rip 31 = .ok (.getfield 13, 3) := by decide +kernel
theorem dX9_rip_34 : decode cX9_rip 34 = .ok (.sipush 5025, 3) := by decide +kernel
theorem dX9_rip_37 : decode cX9_rip 37 = .ok (.iaload, 1) := by decide +kernel
theorem dX9_rip_38 : decode cX9_rip 38 = .ok (.ireturn, 1) := by decide +kernel
theorem dX9_causes_0 : decode cX9_causes 0 = .ok (.aload_n 0, 1) := by decide +kernel
theorem dX9_causes_1 : decode cX9_causes 1 = .ok (.getfield 180, 3) := by decide +kernel
theorem dX9_causes_4 : decode cX9_causes 4 = .ok (.ireturn, 1) := by decide +kernel
theorem dX9_why_0 : decode cX9_why 0 = .ok (.iload_n 1, 1) := by decide +kernel
theorem dX9_why_1 : decode cX9_why 1 = .ok (.i2l, 1) := by decide +kernel
theorem dX9_why_2 : decode cX9_why 2 = .ok (.lconst 0, 1) := by decide +kernel
theorem dX9_why_3 : decode cX9_why 3 = .ok (.aload_n 0, 1) := by decide +kernel
theorem dX9_why_4 : decode cX9_why 4 = .ok (.getfield 180, 3) := by decide +kernel
theorem dX9_why_7 : decode cX9_why 7 = .ok (.iconst 1, 1) := by decide +kernel
theorem dX9_why_8 : decode cX9_why 8 = .ok (.isub, 1) := by decide +kernel
theorem dX9_why_9 : decode cX9_why 9 = .ok (.i2l, 1) := by decide +kernel
theorem dX9_why_10 : decode cX9_why 10 = .ok (.invokestatic 56, 3) := by decide +kernel
theorem dX9_why_13 : decode cX9_why 13 = .ok (.ifCond .eq 28, 3) := by decide +kernel
theorem dX9_why_16 : decode cX9_why 16 = .ok (.iload_n 2, 1) := by decide +kernel
theorem dX9_why_17 : decode cX9_why 17 = .ok (.i2l, 1) := by decide +kernel
theorem dX9_why_18 : decode cX9_why 18 = .ok (.lconst 0, 1) := by decide +kernel
end
section
/-! decode rows (printed by the program of the task) -/
theorem dX9_why_19 : decode cX9_why 19 = .ok (.ldc2_w 202, 3) := by decide +kernel
theorem dX9_why_22 : decode cX9_why 22 = .ok (.invokestatic 56, 3) := by decide +kernel
theorem dX9_why_25 : decode cX9_why 25 = .ok (.ifCond .eq 16, 3) := by decide +kernel
theorem dX9_why_28 : decode cX9_why 28 = .ok (.aload_n 0, 1) := by decide +kernel
theorem dX9_why_29 : decode cX9_why 29 = .ok (.getfield 34, 3) := by decide +kernel
theorem dX9_why_32 : decode cX9_why 32 = .ok (.iconst 3, 1) := by decide +kernel
theorem dX9_why_33 : decode cX9_why 33 = .ok (.iload_n 1, 1) := by decide +kernel
theorem dX9_why_34 : decode cX9_why 34 = .ok (.imul, 1) := by decide +kernel
theorem dX9_why_35 : decode cX9_why 35 = .ok (.iload_n 2, 1) := by decide +kernel
theorem dX9_why_36 : decode cX9_why 36 = .ok (.iadd, 1) := by decide +kernel
theorem dX9_why_37 : decode cX9_why 37 = .ok (.iaload, 1) := by decide +kernel
theorem dX9_why_38 : decode cX9_why 38 = .ok (.goto 9, 3) := by decide +kernel
theorem dX9_why_41 : decode cX9_why 41 = .ok (.aload_n 0, 1) := by decide +kernel
theorem dX9_why_42 : decode cX9_why 42 = .ok (.bipush (-92), 2) := by decide +kernel
theorem dX9_why_44 : decode cX9_why 44 = .ok (.invokevirtual 60, 3) := by decide +kernel
theorem dX9_why_47 : decode cX9_why 47 = .ok (.ireturn, 1) := by decide +kernel
theorem dX9_yarnTried_0 : decode cX9_yarnTried 0 = .ok (.iconst 0, 1) := by decide +kernel
theorem dX9_yarnTried_1 : decode cX9_yarnTried 1 = .ok (.istore_n 1, 1) := by decide +kernel
theorem dX9_yarnTried_2 : decode cX9_yarnTried 2 = .ok (.iconst 0, 1) := by decide +kernel
theorem dX9_yarnTried_3 : decode cX9_yarnTried 3 = .ok (.istore_n 2, 1) := by decide +kernel
theorem dX9_yarnTried_4 : decode cX9_yarnTried 4 = .ok (.iload_n 2, 1) := by decide +kernel
theorem dX9_yarnTried_5 : decode cX9_yarnTried 5 = .ok (.aload_n 0, 1) := by decide +kernel
theorem dX9_yarnTried_6 : decode cX9_yarnTried 6 = .ok (.getfield 157, 3) := by decide +kernel
theorem dX9_yarnTried_9 : decode cX9_yarnTried 9 = .ok (.if_icmp .ge 21, 3) := by decide +kernel
theorem dX9_yarnTried_12 : decode cX9_yarnTried 12 = .ok (.iload_n 1, 1) := by decide +kernel
theorem dX9_yarnTried_13 : decode cX9_yarnTried 13 = .ok (.aload_n 0, 1) := by decide +kernel
theorem dX9_yarnTried_14 : decode cX9_yarnTried 14 = .ok (.getfield 25, 3) := by decide +kernel
theorem dX9_yarnTried_17 : decode cX9_yarnTried 17 = .ok (.iload_n 2, 1) := by decide +kernel
theorem dX9_yarnTried_18 : decode cX9_yarnTried 18 = .ok (.iaload, 1) := by decide +kernel
theorem dX9_yarnTried_19 : decode cX9_yarnTried 19 = .ok (.invokestatic 204, 3) := by decide +kernel
theorem dX9_yarnTried_22 : decode cX9_yarnTried 22 = .ok (.iadd, 1) := by decide +kernel
theorem dX9_yarnTried_23 : decode cX9_yarnTried 23 = .ok (.istore_n 1, 1) := by decide +kernel
theorem dX9_yarnTried_24 : decode cX9_yarnTried 24 = .ok (.iinc 2 1, 3) := by decide +kernel
theorem dX9_yarnTried_27 : decode cX9_yarnTried 27 = .ok (.goto (-23), 3) := by decide +kernel
theorem dX9_yarnTried_30 : decode cX9_yarnTried 30 = .ok (.iload_n 1, 1) := by decide +kernel
theorem dX9_yarnTried_31 : decode cX9_yarnTried 31 = .ok (.ireturn, 1) := by decide +kernel
theorem dX9_would_0 : decode cX9_would 0 = .ok (.aload_n 0, 1) := by decide +kernel
theorem dX9_would_1 : decode cX9_would 1 = .ok (.iload_n 1, 1) := by decide +kernel
theorem dX9_would_2 : decode cX9_would 2 = .ok (.invokevirtual 124, 3) := by decide +kernel
theorem dX9_would_5 : decode cX9_would 5 = .ok (.ifCond .eq 27, 3) := by decide +kernel
theorem dX9_would_8 : decode cX9_would 8 = .ok (.iload_n 2, 1) := by decide +kernel
theorem dX9_would_9 : decode cX9_would 9 = .ok (.i2l, 1) := by decide +kernel
theorem dX9_would_10 : decode cX9_would 10 = .ok (.lconst 0, 1) := by decide +kernel
theorem dX9_would_11 : decode cX9_would 11 = .ok (.ldc2_w 197, 3) := by decide +kernel
theorem dX9_would_14 : decode cX9_would 14 = .ok (.invokestatic 56, 3) := by decide +kernel
theorem dX9_would_17 : decode cX9_would 17 = .ok (.ifCond .eq 15, 3) := by decide +kernel
theorem dX9_would_20 : decode cX9_would 20 = .ok (.iload_n 3, 1) := by decide +kernel
theorem dX9_would_21 : decode cX9_would 21 = .ok (.i2l, 1) := by decide +kernel
theorem dX9_would_22 : decode cX9_would 22 = .ok (.lconst 0, 1) := by decide +kernel
theorem dX9_would_23 : decode cX9_would 23 = .ok (.ldc2_w 202, 3) := by decide +kernel
theorem dX9_would_26 : decode cX9_would 26 = .ok (.invokestatic 56, 3) := by decide +kernel
theorem dX9_would_29 : decode cX9_would 29 = .ok (.ifCond .ne 10, 3) := by decide +kernel
theorem dX9_would_32 : decode cX9_would 32 = .ok (.aload_n 0, 1) := by decide +kernel
theorem dX9_would_33 : decode cX9_would 33 = .ok (.bipush (-92), 2) := by decide +kernel
theorem dX9_would_35 : decode cX9_would 35 = .ok (.invokevirtual 60, 3) := by decide +kernel
theorem dX9_would_38 : decode cX9_would 38 = .ok (.ireturn, 1) := by decide +kernel
theorem dX9_would_39 : decode cX9_would 39 = .ok (.aload_n 0, 1) := by decide +kernel
theorem dX9_would_40 : decode cX9_would 40 = .ok (.iload_n 1, 1) := by decide +kernel
theorem dX9_would_41 : decode cX9_would 41 = .ok (.iload_n 2, 1) := by decide +kernel
theorem dX9_would_42 : decode cX9_would 42 = .ok (.invokevirtual 176, 3) := by decide +kernel
theorem dX9_would_45 : decode cX9_would 45 = .ok (.aload_n 0, 1) := by decide +kernel
theorem dX9_would_46 : decode cX9_would 46 = .ok (.getfield 132, 3) := by decide +kernel
theorem dX9_would_49 : decode cX9_would 49 = .ok (.ifCond .eq 7, 3) := by decide +kernel
theorem dX9_would_52 : decode cX9_would 52 = .ok (.iconst (-1), 1) := by decide +kernel
theorem dX9_would_53 : decode cX9_would 53 = .ok (.goto 30, 3) := by decide +kernel
theorem dX9_would_56 : decode cX9_would 56 = .ok (.iload_n 3, 1) := by decide +kernel
theorem dX9_would_57 : decode cX9_would 57 = .ok (.ifCond .ne 10, 3) := by decide +kernel
theorem dX9_would_60 : decode cX9_would 60 = .ok (.aload_n 0, 1) := by decide +kernel
theorem dX9_would_61 : decode cX9_would 61 = .ok (.getfield 151, 3) := by decide +kernel
theorem dX9_would_64 : decode cX9_would 64 = .ok (.goto 19, 3) := by decide +kernel
theorem dX9_would_67 : decode cX9_would 67 = .ok (.iload_n 3, 1) := by decide +kernel
theorem dX9_would_68 : decode cX9_would 68 = .ok (.iconst 1, 1) := by decide +kernel
theorem dX9_would_69 : decode cX9_would 69 = .ok (.if_icmp .ne 10, 3) := by decide +kernel
theorem dX9_would_72 : decode cX9_would 72 = .ok (.aload_n 0, 1) := by decide +kernel
theorem dX9_would_73 : decode cX9_would 73 = .ok (.getfield 157, 3) := by decide +kernel
theorem dX9_would_76 : decode cX9_would 76 = .ok (.goto 7, 3) := by decide +kernel
theorem dX9_would_79 : decode cX9_would 79 = .ok (.aload_n 0, 1) := by decide +kernel
theorem dX9_would_80 : decode cX9_would 80 = .ok (.invokevirtual 207, 3) := by decide +kernel
theorem dX9_would_83 : decode cX9_would 83 = .ok (.ireturn, 1) := by decide +kernel
theorem dX9_hitch_0 : decode cX9_hitch 0 = .ok (.aload_n 0, 1) := by decide +kernel
theorem dX9_hitch_1 : decode cX9_hitch 1 = .ok (.iload_n 1, 1) := by decide +kernel
theorem dX9_hitch_2 : decode cX9_hitch 2 = .ok (.invokevirtual 124, 3) := by decide +kernel
theorem dX9_hitch_5 : decode cX9_hitch 5 = .ok (.ifCond .eq 15, 3) := by decide +kernel
theorem dX9_hitch_8 : decode cX9_hitch 8 = .ok (.iload_n 2, 1) := by decide +kernel
theorem dX9_hitch_9 : decode cX9_hitch 9 = .ok (.i2l, 1) := by decide +kernel
theorem dX9_hitch_10 : decode cX9_hitch 10 = .ok (.lconst 0, 1) := by decide +kernel
theorem dX9_hitch_11 : decode cX9_hitch 11 = .ok (.ldc2_w 197, 3) := by decide +kernel
theorem dX9_hitch_14 : decode cX9_hitch 14 = .ok (.invokestatic 56, 3) := by decide +kernel
theorem dX9_hitch_17 : decode cX9_hitch 17 = .ok (.ifCond .ne 10, 3) := by decide +kernel
theorem dX9_hitch_20 : decode cX9_hitch 20 = .ok (.aload_n 0, 1) := by decide +kernel
theorem dX9_hitch_21 : decode cX9_hitch 21 = .ok (.bipush (-92), 2) := by decide +kernel
theorem dX9_hitch_23 : decode cX9_hitch 23 = .ok (.invokevirtual 60, 3) := by decide +kernel
theorem dX9_hitch_26 : decode cX9_hitch 26 = .ok (.ireturn, 1) := by decide +kernel
theorem dX9_hitch_27 : decode cX9_hitch 27 = .ok (.aload_n 0, 1) := by decide +kernel
theorem dX9_hitch_28 : decode cX9_hitch 28 = .ok (.iload_n 1, 1) := by decide +kernel
theorem dX9_hitch_29 : decode cX9_hitch 29 = .ok (.iload_n 2, 1) := by decide +kernel
theorem dX9_hitch_30 : decode cX9_hitch 30 = .ok (.invokevirtual 176, 3) := by decide +kernel
theorem dX9_hitch_33 : decode cX9_hitch 33 = .ok (.aload_n 0, 1) := by decide +kernel
theorem dX9_hitch_34 : decode cX9_hitch 34 = .ok (.getfield 132, 3) := by decide +kernel
theorem dX9_hitch_37 : decode cX9_hitch 37 = .ok (.ifCond .ne 7, 3) := by decide +kernel
theorem dX9_hitch_40 : decode cX9_hitch 40 = .ok (.iconst (-1), 1) := by decide +kernel
theorem dX9_hitch_41 : decode cX9_hitch 41 = .ok (.goto 7, 3) := by decide +kernel
theorem dX9_hitch_44 : decode cX9_hitch 44 = .ok (.aload_n 0, 1) := by decide +kernel
theorem dX9_hitch_45 : decode cX9_hitch 45 = .ok (.getfield 132, 3) := by decide +kernel
theorem dX9_hitch_48 : decode cX9_hitch 48 = .ok (.ireturn, 1) := by decide +kernel
theorem dX9_fits_0 : decode cX9_fits 0 = .ok (.aload_n 0, 1) := by decide +kernel
theorem dX9_fits_1 : decode cX9_fits 1 = .ok (.iload_n 1, 1) := by decide +kernel
theorem dX9_fits_2 : decode cX9_fits 2 = .ok (.invokevirtual 124, 3) := by decide +kernel
theorem dX9_fits_5 : decode cX9_fits 5 = .ok (.ifCond .ne 15, 3) := by decide +kernel
theorem dX9_fits_8 : decode cX9_fits 8 = .ok (.aload_n 0, 1) := by decide +kernel
theorem dX9_fits_9 : decode cX9_fits 9 = .ok (.bipush (-92), 2) := by decide +kernel
theorem dX9_fits_11 : decode cX9_fits 11 = .ok (.invokevirtual 60, 3) := by decide +kernel
theorem dX9_fits_14 : decode cX9_fits 14 = .ok (.i2l, 1) := by decide +kernel
theorem dX9_fits_15 : decode cX9_fits 15 = .ok (.ldc2_w 210, 3) := by decide +kernel
theorem dX9_fits_18 : decode cX9_fits 18 = .ok (.lsub, 1) := by decide +kernel
theorem dX9_fits_19 : decode cX9_fits 19 = .ok (.lreturn, 1) := by decide +kernel
theorem dX9_fits_20 : decode cX9_fits 20 = .ok (.lconst 0, 1) := by decide +kernel
theorem dX9_fits_21 : decode cX9_fits 21 = .ok (.lstore_n 2, 1) := by decide +kernel
theorem dX9_fits_22 : decode cX9_fits 22 = .ok (.iconst 0, 1) := by decide +kernel
theorem dX9_fits_23 : decode cX9_fits 23 = .ok (.istore 4, 2) := by decide +kernel
theorem dX9_fits_25 : decode cX9_fits 25 = .ok (.iload 4, 2) := by decide +kernel
theorem dX9_fits_27 : decode cX9_fits 27 = .ok (.bipush 60, 2) := by decide +kernel
theorem dX9_fits_29 : decode cX9_fits 29 = .ok (.if_icmp .gt 34, 3) := by decide +kernel
theorem dX9_fits_32 : decode cX9_fits 32 = .ok (.aload_n 0, 1) := by decide +kernel
theorem dX9_fits_33 : decode cX9_fits 33 = .ok (.iload_n 1, 1) := by decide +kernel
theorem dX9_fits_34 : decode cX9_fits 34 = .ok (.iload 4, 2) := by decide +kernel
theorem dX9_fits_36 : decode cX9_fits 36 = .ok (.invokevirtual 176, 3) := by decide +kernel
theorem dX9_fits_39 : decode cX9_fits 39 = .ok (.lload_n 2, 1) := by decide +kernel
theorem dX9_fits_40 : decode cX9_fits 40 = .ok (.aload_n 0, 1) := by decide +kernel
theorem dX9_fits_41 : decode cX9_fits 41 = .ok (.getfield 132, 3) := by decide +kernel
theorem dX9_fits_44 : decode cX9_fits 44 = .ok (.ifCond .ne 10, 3) := by decide +kernel
theorem dX9_fits_47 : decode cX9_fits 47 = .ok (.lconst 1, 1) := by decide +kernel
theorem dX9_fits_48 : decode cX9_fits 48 = .ok (.iload 4, 2) := by decide +kernel
theorem dX9_fits_50 : decode cX9_fits 50 = .ok (.lshl, 1) := by decide +kernel
theorem dX9_fits_51 : decode cX9_fits 51 = .ok (.goto 4, 3) := by decide +kernel
theorem dX9_fits_54 : decode cX9_fits 54 = .ok (.lconst 0, 1) := by decide +kernel
theorem dX9_fits_55 : decode cX9_fits 55 = .ok (.lor, 1) := by decide +kernel
theorem dX9_fits_56 : decode cX9_fits 56 = .ok (.lstore_n 2, 1) := by decide +kernel
theorem dX9_fits_57 : decode cX9_fits 57 = .ok (.iinc 4 1, 3) := by decide +kernel
theorem dX9_fits_60 : decode cX9_fits 60 = .ok (.goto (-35), 3) := by decide +kernel
theorem dX9_fits_63 : decode cX9_fits 63 = .ok (.lload_n 2, 1) := by decide +kernel
theorem dX9_fits_64 : decode cX9_fits 64 = .ok (.lreturn, 1) := by decide +kernel
theorem dX9_least_0 : decode cX9_least 0 = .ok (.iconst 0, 1) := by decide +kernel
theorem dX9_least_1 : decode cX9_least 1 = .ok (.istore_n 1, 1) := by decide +kernel
theorem dX9_least_2 : decode cX9_least 2 = .ok (.iload_n 1, 1) := by decide +kernel
theorem dX9_least_3 : decode cX9_least 3 = .ok (.bipush 60, 2) := by decide +kernel
theorem dX9_least_5 : decode cX9_least 5 = .ok (.if_icmp .gt 63, 3) := by decide +kernel
theorem dX9_least_8 : decode cX9_least 8 = .ok (.iload_n 1, 1) := by decide +kernel
theorem dX9_least_9 : decode cX9_least 9 = .ok (.istore_n 2, 1) := by decide +kernel
theorem dX9_least_10 : decode cX9_least 10 = .ok (.aload_n 0, 1) := by decide +kernel
theorem dX9_least_11 : decode cX9_least 11 = .ok (.iconst 0, 1) := by decide +kernel
theorem dX9_least_12 : decode cX9_least 12 = .ok (.putfield 132, 3) := by decide +kernel
theorem dX9_least_15 : decode cX9_least 15 = .ok (.iconst 0, 1) := by decide +kernel
theorem dX9_least_16 : decode cX9_least 16 = .ok (.istore_n 3, 1) := by decide +kernel
theorem dX9_least_17 : decode cX9_least 17 = .ok (.iload_n 3, 1) := by decide +kernel
theorem dX9_least_18 : decode cX9_least 18 = .ok (.aload_n 0, 1) := by decide +kernel
theorem dX9_least_19 : decode cX9_least 19 = .ok (.getfield 13, 3) := by decide +kernel
theorem dX9_least_22 : decode cX9_least 22 = .ok (.sipush 5020, 3) := by decide +kernel
theorem dX9_least_25 : decode cX9_least 25 = .ok (.iaload, 1) := by decide +kernel
theorem dX9_least_26 : decode cX9_least 26 = .ok (.if_icmp .ge 27, 3) := by decide +kernel
theorem dX9_least_29 : decode cX9_least 29 = .ok (.aload_n 0, 1) := by decide +kernel
theorem dX9_least_30 : decode cX9_least 30 = .ok (.getfield 132, 3) := by decide +kernel
theorem dX9_least_33 : decode cX9_least 33 = .ok (.ifCond .ne 20, 3) := by decide +kernel
theorem dX9_least_36 : decode cX9_least 36 = .ok (.aload_n 0, 1) := by decide +kernel
theorem dX9_least_37 : decode cX9_least 37 = .ok (.iload_n 3, 1) := by decide +kernel
theorem dX9_least_38 : decode cX9_least 38 = .ok (.iload_n 2, 1) := by decide +kernel
theorem dX9_least_39 : decode cX9_least 39 = .ok (.invokevirtual 176, 3) := by decide +kernel
theorem dX9_least_42 : decode cX9_least 42 = .ok (.aload_n 0, 1) := by decide +kernel
theorem dX9_least_43 : decode cX9_least 43 = .ok (.getfield 151, 3) := by decide +kernel
theorem dX9_least_46 : decode cX9_least 46 = .ok (.istore_n 2, 1) := by decide +kernel
theorem dX9_least_47 : decode cX9_least 47 = .ok (.iinc 3 1, 3) := by decide +kernel
theorem dX9_least_50 : decode cX9_least 50 = .ok (.goto (-33), 3) := by decide +kernel
theorem dX9_least_53 : decode cX9_least 53 = .ok (.aload_n 0, 1) := by decide +kernel
theorem dX9_least_54 : decode cX9_least 54 = .ok (.getfield 132, 3) := by decide +kernel
theorem dX9_least_57 : decode cX9_least 57 = .ok (.ifCond .ne 5, 3) := by decide +kernel
theorem dX9_least_60 : decode cX9_least 60 = .ok (.iload_n 1, 1) := by decide +kernel
theorem dX9_least_61 : decode cX9_least 61 = .ok (.ireturn, 1) := by decide +kernel
theorem dX9_least_62 : decode cX9_least 62 = .ok (.iinc 1 1, 3) := by decide +kernel
theorem dX9_least_65 : decode cX9_least 65 = .ok (.goto (-63), 3) := by decide +kernel
theorem dX9_least_68 : decode cX9_least 68 = .ok (.iconst (-1), 1) := by decide +kernel
theorem dX9_least_69 : decode cX9_least 69 = .ok (.ireturn, 1) := by decide +kernel
theorem dX9_times_0 : decode cX9_times 0 = .ok (.aload_n 0, 1) := by decide +kernel
theorem dX9_times_1 : decode cX9_times 1 = .ok (.iload_n 1, 1) := by decide +kernel
theorem dX9_times_2 : decode cX9_times 2 = .ok (.invokevirtual 124, 3) := by decide +kernel
theorem dX9_times_5 : decode cX9_times 5 = .ok (.ifCond .eq 16, 3) := by decide +kernel
theorem dX9_times_8 : decode cX9_times 8 = .ok (.aload_n 0, 1) := by decide +kernel
theorem dX9_times_9 : decode cX9_times 9 = .ok (.iload_n 2, 1) := by decide +kernel
theorem dX9_times_10 : decode cX9_times 10 = .ok (.invokevirtual 124, 3) := by decide +kernel
theorem dX9_times_13 : decode cX9_times 13 = .ok (.ifCond .eq 8, 3) := by decide +kernel
theorem dX9_times_16 : decode cX9_times 16 = .ok (.iload_n 2, 1) := by decide +kernel
theorem dX9_times_17 : decode cX9_times 17 = .ok (.iload_n 1, 1) := by decide +kernel
theorem dX9_times_18 : decode cX9_times 18 = .ok (.if_icmp .ge 10, 3) := by decide +kernel
theorem dX9_times_21 : decode cX9_times 21 = .ok (.aload_n 0, 1) := by decide +kernel
theorem dX9_times_22 : decode cX9_times 22 = .ok (.bipush (-92), 2) := by decide +kernel
theorem dX9_times_24 : decode cX9_times 24 = .ok (.invokevirtual 60, 3) := by decide +kernel
theorem dX9_times_27 : decode cX9_times 27 = .ok (.ireturn, 1) := by decide +kernel
theorem dX9_times_28 : decode cX9_times 28 = .ok (.aload_n 0, 1) := by decide +kernel
theorem dX9_times_29 : decode cX9_times 29 = .ok (.getfield 13, 3) := by decide +kernel
theorem dX9_times_32 : decode cX9_times 32 = .ok (.sipush 5023, 3) := by decide +kernel
theorem dX9_times_35 : decode cX9_times 35 = .ok (.iaload, 1) := by decide +kernel
theorem dX9_times_36 : decode cX9_times 36 = .ok (.istore_n 3, 1) := by decide +kernel
theorem dX9_times_37 : decode cX9_times 37 = .ok (.aload_n 0, 1) := by decide +kernel
theorem dX9_times_38 : decode cX9_times 38 = .ok (.getfield 13, 3) := by decide +kernel
theorem dX9_times_41 : decode cX9_times 41 = .ok (.sipush 5025, 3) := by decide +kernel
theorem dX9_times_44 : decode cX9_times 44 = .ok (.iaload, 1) := by decide +kernel
theorem dX9_times_45 : decode cX9_times 45 = .ok (.istore 4, 2) := by decide +kernel
theorem dX9_times_47 : decode cX9_times 47 = .ok (.iconst 0, 1) := by decide +kernel
theorem dX9_times_48 : decode cX9_times 48 = .ok (.istore 5, 2) := by decide +kernel
theorem dX9_times_50 : decode cX9_times 50 = .ok (.aload_n 0, 1) := by decide +kernel
theorem dX9_times_51 : decode cX9_times 51 = .ok (.iconst 0, 1) := by decide +kernel
theorem dX9_times_52 : decode cX9_times 52 = .ok (.putfield 132, 3) := by decide +kernel
theorem dX9_times_55 : decode cX9_times 55 = .ok (.aload_n 0, 1) := by decide +kernel
theorem dX9_times_56 : decode cX9_times 56 = .ok (.getfield 132, 3) := by decide +kernel
theorem dX9_times_59 : decode cX9_times 59 = .ok (.ifCond .ne 83, 3) := by decide +kernel
theorem dX9_times_62 : decode cX9_times 62 = .ok (.iload 5, 2) := by decide +kernel
theorem dX9_times_64 : decode cX9_times 64 = .ok (.bipush 50, 2) := by decide +kernel
theorem dX9_times_66 : decode cX9_times 66 = .ok (.if_icmp .ge 76, 3) := by decide +kernel
theorem dX9_times_69 : decode cX9_times 69 = .ok (.iload_n 1, 1) := by decide +kernel
theorem dX9_times_70 : decode cX9_times 70 = .ok (.istore 6, 2) := by decide +kernel
theorem dX9_times_72 : decode cX9_times 72 = .ok (.iload 6, 2) := by decide +kernel
theorem dX9_times_74 : decode cX9_times 74 = .ok (.iload_n 2, 1) := by decide +kernel
theorem dX9_times_75 : decode cX9_times 75 = .ok (.if_icmp .gt 47, 3) := by decide +kernel
theorem dX9_times_78 : decode cX9_times 78 = .ok (.aload_n 0, 1) := by decide +kernel
theorem dX9_times_79 : decode cX9_times 79 = .ok (.getfield 132, 3) := by decide +kernel
theorem dX9_times_82 : decode cX9_times 82 = .ok (.ifCond .ne 40, 3) := by decide +kernel
theorem dX9_times_85 : decode cX9_times 85 = .ok (.iload 4, 2) := by decide +kernel
theorem dX9_times_87 : decode cX9_times 87 = .ok (.bipush 50, 2) := by decide +kernel
theorem dX9_times_89 : decode cX9_times 89 = .ok (.if_icmp .ne 12, 3) := by decide +kernel
theorem dX9_times_92 : decode cX9_times 92 = .ok (.aload_n 0, 1) := by decide +kernel
theorem dX9_times_93 : decode cX9_times 93 = .ok (.bipush 7, 2) := by decide +kernel
theorem dX9_times_95 : decode cX9_times 95 = .ok (.putfield 132, 3) := by decide +kernel
theorem dX9_times_98 : decode cX9_times 98 = .ok (.goto 18, 3) := by decide +kernel
theorem dX9_times_101 : decode cX9_times 101 = .ok (.aload_n 0, 1) := by decide +kernel
theorem dX9_times_102 : decode cX9_times 102 = .ok (.iload 6, 2) := by decide +kernel
theorem dX9_times_104 : decode cX9_times 104 = .ok (.iload_n 3, 1) := by decide +kernel
theorem dX9_times_105 : decode cX9_times 105 = .ok (.invokevirtual 176, 3) := by decide +kernel
theorem dX9_times_108 : decode cX9_times 108 = .ok (.aload_n 0, 1) := by decide +kernel
theorem dX9_times_109 : decode cX9_times 109 = .ok (.getfield 151, 3) := by decide +kernel
theorem dX9_times_112 : decode cX9_times 112 = .ok (.istore_n 3, 1) := by decide +kernel
theorem dX9_times_113 : decode cX9_times 113 = .ok (.iinc 4 1, 3) := by decide +kernel
theorem dX9_times_116 : decode cX9_times 116 = .ok (.iinc 6 1, 3) := by decide +kernel
theorem dX9_times_119 : decode cX9_times 119 = .ok (.goto (-47), 3) := by decide +kernel
theorem dX9_times_122 : decode cX9_times 122 = .ok (.iload 5, 2) := by decide +kernel
theorem dX9_times_124 : decode cX9_times 124 = .ok (.aload_n 0, 1) := by decide +kernel
theorem dX9_times_125 : decode cX9_times 125 = .ok (.getfield 132, 3) := by decide +kernel
theorem dX9_times_128 : decode cX9_times 128 = .ok (.ifCond .ne 7, 3) := by decide +kernel
theorem dX9_times_131 : decode cX9_times 131 = .ok (.iconst 1, 1) := by decide +kernel
theorem dX9_times_132 : decode cX9_times 132 = .ok (.goto 4, 3) := by decide +kernel
theorem dX9_times_135 : decode cX9_times 135 = .ok (.iconst 0, 1) := by decide +kernel
theorem dX9_times_136 : decode cX9_times 136 = .ok (.iadd, 1) := by decide +kernel
theorem dX9_times_137 : decode cX9_times 137 = .ok (.istore 5, 2) := by decide +kernel
theorem dX9_times_139 : decode cX9_times 139 = .ok (.goto (-84), 3) := by decide +kernel
theorem dX9_times_142 : decode cX9_times 142 = .ok (.iload 5, 2) := by decide +kernel
theorem dX9_times_144 : decode cX9_times 144 = .ok (.ireturn, 1) := by decide +kernel
theorem dX9_isWorked_0 : decode cX9_isWorked 0 = .ok (.iload_n 1, 1) := by decide +kernel
theorem dX9_isWorked_1 : decode cX9_isWorked 1 = .ok (.i2l, 1) := by decide +kernel
theorem dX9_isWorked_2 : decode cX9_isWorked 2 = .ok (.lconst 0, 1) := by decide +kernel
theorem dX9_isWorked_3 : decode cX9_isWorked 3 = .ok (.aload_n 0, 1) := by decide +kernel
theorem dX9_isWorked_4 : decode cX9_isWorked 4 = .ok (.getfield 13, 3) := by decide +kernel
theorem dX9_isWorked_7 : decode cX9_isWorked 7 = .ok (.sipush 5025, 3) := by decide +kernel
theorem dX9_isWorked_10 : decode cX9_isWorked 10 = .ok (.iaload, 1) := by decide +kernel
theorem dX9_isWorked_11 : decode cX9_isWorked 11 = .ok (.iconst 1, 1) := by decide +kernel
theorem dX9_isWorked_12 : decode cX9_isWorked 12 = .ok (.isub, 1) := by decide +kernel
theorem dX9_isWorked_13 : decode cX9_isWorked 13 = .ok (.i2l, 1) := by decide +kernel
theorem dX9_isWorked_14 : decode cX9_isWorked 14 = .ok (.invokestatic 56, 3) := by decide +kernel
theorem dX9_isWorked_17 : decode cX9_isWorked 17 = .ok (.ireturn, 1) := by decide +kernel
theorem dX9_sizeOf_0 : decode cX9_sizeOf 0 = .ok (.aload_n 0, 1) := by decide +kernel
theorem dX9_sizeOf_1 : decode cX9_sizeOf 1 = .ok (.getfield 13, 3) := by decide +kernel
theorem dX9_sizeOf_4 : decode cX9_sizeOf 4 = .ok (.sipush 5026, 3) := by decide +kernel
theorem dX9_sizeOf_7 : decode cX9_sizeOf 7 = .ok (.sipush 204, 3) := by decide +kernel
theorem dX9_sizeOf_10 : decode cX9_sizeOf 10 = .ok (.iload_n 1, 1) := by decide +kernel
theorem dX9_sizeOf_11 : decode cX9_sizeOf 11 = .ok (.imul, 1) := by decide +kernel
theorem dX9_sizeOf_12 : decode cX9_sizeOf 12 = .ok (.iadd, 1) := by decide +kernel
theorem dX9_sizeOf_13 : decode cX9_sizeOf 13 = .ok (.iconst 2, 1) := by decide +kernel
theorem dX9_sizeOf_14 : decode cX9_sizeOf 14 = .ok (.iadd, 1) := by decide +kernel
theorem dX9_sizeOf_15 : decode cX9_sizeOf 15 = .ok (.iaload, 1) := by decide +kernel
theorem dX9_sizeOf_16 : decode cX9_sizeOf 16 = .ok (.ireturn, 1) := by decide +kernel
theorem dX9_kind_0 : decode cX9_kind 0 = .ok (.aload_n 0, 1) := by decide +kernel
theorem dX9_kind_1 : decode cX9_kind 1 = .ok (.getfield 13, 3) := by decide +kernel
theorem dX9_kind_4 : decode cX9_kind 4 = .ok (.sipush 5026, 3) := by decide +kernel
theorem dX9_kind_7 : decode cX9_kind 7 = .ok (.sipush 204, 3) := by decide +kernel
theorem dX9_kind_10 : decode cX9_kind 10 = .ok (.iload_n 1, 1) := by decide +kernel
theorem dX9_kind_11 : decode cX9_kind 11 = .ok (.imul, 1) := by decide +kernel
theorem dX9_kind_12 : decode cX9_kind 12 = .ok (.iadd, 1) := by decide +kernel
theorem dX9_kind_13 : decode cX9_kind 13 = .ok (.iconst 4, 1) := by decide +kernel
theorem dX9_kind_14 : decode cX9_kind 14 = .ok (.iadd, 1) := by decide +kernel
theorem dX9_kind_15 : decode cX9_kind 15 = .ok (.iload_n 2, 1) := by decide +kernel
theorem dX9_kind_16 : decode cX9_kind 16 = .ok (.iadd, 1) := by decide +kernel
theorem dX9_kind_17 : decode cX9_kind 17 = .ok (.iaload, 1) := by decide +kernel
theorem dX9_kind_18 : decode cX9_kind 18 = .ok (.ireturn, 1) := by decide +kernel
theorem dX9_counted_0 : decode cX9_counted 0 = .ok (.iconst 0, 1) := by decide +kernel
theorem dX9_counted_1 : decode cX9_counted 1 = .ok (.istore 4, 2) := by decide +kernel
theorem dX9_counted_3 : decode cX9_counted 3 = .ok (.iconst 0, 1) := by decide +kernel
theorem dX9_counted_4 : decode cX9_counted 4 = .ok (.istore 5, 2) := by decide +kernel
theorem dX9_counted_6 : decode cX9_counted 6 = .ok (.iload 5, 2) := by decide +kernel
theorem dX9_counted_8 : decode cX9_counted 8 = .ok (.iload_n 2, 1) := by decide +kernel
theorem dX9_counted_9 : decode cX9_counted 9 = .ok (.if_icmp .ge 53, 3) := by decide +kernel
theorem dX9_counted_12 : decode cX9_counted 12 = .ok (.aload_n 0, 1) := by decide +kernel
theorem dX9_counted_13 : decode cX9_counted 13 = .ok (.iload_n 1, 1) := by decide +kernel
theorem dX9_counted_14 : decode cX9_counted 14 = .ok (.iload 5, 2) := by decide +kernel
theorem dX9_counted_16 : decode cX9_counted 16 = .ok (.invokevirtual 212, 3) := by decide +kernel
theorem dX9_counted_19 : decode cX9_counted 19 = .ok (.istore 6, 2) := by decide +kernel
theorem dX9_counted_21 : decode cX9_counted 21 = .ok (.iload 4, 2) := by decide +kernel
theorem dX9_counted_23 : decode cX9_counted 23 = .ok (.iload_n 3, 1) := by decide +kernel
theorem dX9_counted_24 : decode cX9_counted 24 = .ok (.ifCond .ne 11, 3) := by decide +kernel
theorem dX9_counted_27 : decode cX9_counted 27 = .ok (.iload 6, 2) := by decide +kernel
theorem dX9_counted_29 : decode cX9_counted 29 = .ok (.invokestatic 141, 3) := by decide +kernel
theorem dX9_counted_32 : decode cX9_counted 32 = .ok (.goto 21, 3) := by decide +kernel
theorem dX9_counted_35 : decode cX9_counted 35 = .ok (.iload_n 3, 1) := by decide +kernel
theorem dX9_counted_36 : decode cX9_counted 36 = .ok (.iconst 1, 1) := by decide +kernel
theorem dX9_counted_37 : decode cX9_counted 37 = .ok (.if_icmp .ne 11, 3) := by decide +kernel
theorem dX9_counted_40 : decode cX9_counted 40 = .ok (.iload 6, 2) := by decide +kernel
theorem dX9_counted_42 : decode cX9_counted 42 = .ok (.invokestatic 154, 3) := by decide +kernel
theorem dX9_counted_45 : decode cX9_counted 45 = .ok (.goto 8, 3) := by decide +kernel
theorem dX9_counted_48 : decode cX9_counted 48 = .ok (.iload 6, 2) := by decide +kernel
theorem dX9_counted_50 : decode cX9_counted 50 = .ok (.invokestatic 204, 3) := by decide +kernel
theorem dX9_counted_53 : decode cX9_counted 53 = .ok (.iadd, 1) := by decide +kernel
theorem dX9_counted_54 : decode cX9_counted 54 = .ok (.istore 4, 2) := by decide +kernel
theorem dX9_counted_56 : decode cX9_counted 56 = .ok (.iinc 5 1, 3) := by decide +kernel
theorem dX9_counted_59 : decode cX9_counted 59 = .ok (.goto (-53), 3) := by decide +kernel
theorem dX9_counted_62 : decode cX9_counted 62 = .ok (.iload 4, 2) := by decide +kernel
theorem dX9_counted_64 : decode cX9_counted 64 = .ok (.ireturn, 1) := by decide +kernel
theorem dX9_workedOf_0 : decode cX9_workedOf 0 = .ok (.aload_n 0, 1) := by decide +kernel
theorem dX9_workedOf_1 : decode cX9_workedOf 1 = .ok (.iload_n 1, 1) := by decide +kernel
theorem dX9_workedOf_2 : decode cX9_workedOf 2 = .ok (.invokevirtual 215, 3) := by decide +kernel
theorem dX9_workedOf_5 : decode cX9_workedOf 5 = .ok (.ifCond .eq 15, 3) := by decide +kernel
theorem dX9_workedOf_8 : decode cX9_workedOf 8 = .ok (.iload_n 2, 1) := by decide +kernel
theorem dX9_workedOf_9 : decode cX9_workedOf 9 = .ok (.i2l, 1) := by decide +kernel
theorem dX9_workedOf_10 : decode cX9_workedOf 10 = .ok (.lconst 0, 1) := by decide +kernel
theorem dX9_workedOf_11 : decode cX9_workedOf 11 = .ok (.ldc2_w 218, 3) := by decide +kernel
theorem dX9_workedOf_14 : decode cX9_workedOf 14 = .ok (.invokestatic 56, 3) := by decide +kernel
theorem dX9_workedOf_17 : decode cX9_workedOf 17 = .ok (.ifCond .ne 10, 3) := by decide +kernel
theorem dX9_workedOf_20 : decode cX9_workedOf 20 = .ok (.aload_n 0, 1) := by decide +kernel
theorem dX9_workedOf_21 : decode cX9_workedOf 21 = .ok (.bipush (-92), 2) := by decide +kernel
theorem dX9_workedOf_23 : decode cX9_workedOf 23 = .ok (.invokevirtual 60, 3) := by decide +kernel
theorem dX9_workedOf_26 : decode cX9_workedOf 26 = .ok (.ireturn, 1) := by decide +kernel
theorem dX9_workedOf_27 : decode cX9_workedOf 27 = .ok (.aload_n 0, 1) := by decide +kernel
theorem dX9_workedOf_28 : decode cX9_workedOf 28 = .ok (.iload_n 1, 1) := by decide +kernel
theorem dX9_workedOf_29 : decode cX9_workedOf 29 = .ok (.invokevirtual 220, 3) := by decide +kernel
theorem dX9_workedOf_32 : decode cX9_workedOf 32 = .ok (.istore_n 3, 1) := by decide +kernel
theorem dX9_workedOf_33 : decode cX9_workedOf 33 = .ok (.sipush 5026, 3) := by decide +kernel
theorem dX9_workedOf_36 : decode cX9_workedOf 36 = .ok (.sipush 204, 3) := by decide +kernel
theorem dX9_workedOf_39 : decode cX9_workedOf 39 = .ok (.iload_n 1, 1) := by decide +kernel
theorem dX9_workedOf_40 : decode cX9_workedOf 40 = .ok (.imul, 1) := by decide +kernel
theorem dX9_workedOf_41 : decode cX9_workedOf 41 = .ok (.iadd, 1) := by decide +kernel
theorem dX9_workedOf_42 : decode cX9_workedOf 42 = .ok (.istore 4, 2) := by decide +kernel
theorem dX9_workedOf_44 : decode cX9_workedOf 44 = .ok (.iload_n 2, 1) := by decide +kernel
theorem dX9_workedOf_45 : decode cX9_workedOf 45 = .ok (.ifCond .ne 13, 3) := by decide +kernel
theorem dX9_workedOf_48 : decode cX9_workedOf 48 = .ok (.aload_n 0, 1) := by decide +kernel
theorem dX9_workedOf_49 : decode cX9_workedOf 49 = .ok (.getfield 13, 3) := by decide +kernel
theorem dX9_workedOf_52 : decode cX9_workedOf 52 = .ok (.iload 4, 2) := by decide +kernel
theorem dX9_workedOf_54 : decode cX9_workedOf 54 = .ok (.iaload, 1) := by decide +kernel
theorem dX9_workedOf_55 : decode cX9_workedOf 55 = .ok (.goto 38, 3) := by decide +kernel
theorem dX9_workedOf_58 : decode cX9_workedOf 58 = .ok (.iload_n 2, 1) := by decide +kernel
theorem dX9_workedOf_59 : decode cX9_workedOf 59 = .ok (.iconst 1, 1) := by decide +kernel
theorem dX9_workedOf_60 : decode cX9_workedOf 60 = .ok (.if_icmp .ne 7, 3) := by decide +kernel
theorem dX9_workedOf_63 : decode cX9_workedOf 63 = .ok (.iload_n 3, 1) := by decide +kernel
theorem dX9_workedOf_64 : decode cX9_workedOf 64 = .ok (.goto 29, 3) := by decide +kernel
theorem dX9_workedOf_67 : decode cX9_workedOf 67 = .ok (.iload_n 2, 1) := by decide +kernel
theorem dX9_workedOf_68 : decode cX9_workedOf 68 = .ok (.iconst 5, 1) := by decide +kernel
theorem dX9_workedOf_69 : decode cX9_workedOf 69 = .ok (.if_icmp .ne 15, 3) := by decide +kernel
theorem dX9_workedOf_72 : decode cX9_workedOf 72 = .ok (.aload_n 0, 1) := by decide +kernel
theorem dX9_workedOf_73 : decode cX9_workedOf 73 = .ok (.getfield 13, 3) := by decide +kernel
theorem dX9_workedOf_76 : decode cX9_workedOf 76 = .ok (.iload 4, 2) := by decide +kernel
theorem dX9_workedOf_78 : decode cX9_workedOf 78 = .ok (.iconst 1, 1) := by decide +kernel
theorem dX9_workedOf_79 : decode cX9_workedOf 79 = .ok (.iadd, 1) := by decide +kernel
theorem dX9_workedOf_80 : decode cX9_workedOf 80 = .ok (.iaload, 1) := by decide +kernel
theorem dX9_workedOf_81 : decode cX9_workedOf 81 = .ok (.goto 12, 3) := by decide +kernel
theorem dX9_workedOf_84 : decode cX9_workedOf 84 = .ok (.aload_n 0, 1) := by decide +kernel
theorem dX9_workedOf_85 : decode cX9_workedOf 85 = .ok (.iload_n 1, 1) := by decide +kernel
theorem dX9_workedOf_86 : decode cX9_workedOf 86 = .ok (.iload_n 3, 1) := by decide +kernel
theorem dX9_workedOf_87 : decode cX9_workedOf 87 = .ok (.iload_n 2, 1) := by decide +kernel
theorem dX9_workedOf_88 : decode cX9_workedOf 88 = .ok (.iconst 2, 1) := by decide +kernel
theorem dX9_workedOf_89 : decode cX9_workedOf 89 = .ok (.isub, 1) := by decide +kernel
theorem dX9_workedOf_90 : decode cX9_workedOf 90 = .ok (.invokevirtual 223, 3) := by decide +kernel
theorem dX9_workedOf_93 : decode cX9_workedOf 93 = .ok (.ireturn, 1) := by decide +kernel
theorem dX9_stitch_0 : decode cX9_stitch 0 = .ok (.aload_n 0, 1) := by decide +kernel
theorem dX9_stitch_1 : decode cX9_stitch 1 = .ok (.iload_n 1, 1) := by decide +kernel
theorem dX9_stitch_2 : decode cX9_stitch 2 = .ok (.invokevirtual 215, 3) := by decide +kernel
theorem dX9_stitch_5 : decode cX9_stitch 5 = .ok (.ifCond .eq 32, 3) := by decide +kernel
theorem dX9_stitch_8 : decode cX9_stitch 8 = .ok (.iload_n 2, 1) := by decide +kernel
theorem dX9_stitch_9 : decode cX9_stitch 9 = .ok (.i2l, 1) := by decide +kernel
theorem dX9_stitch_10 : decode cX9_stitch 10 = .ok (.lconst 0, 1) := by decide +kernel
theorem dX9_stitch_11 : decode cX9_stitch 11 = .ok (.aload_n 0, 1) := by decide +kernel
theorem dX9_stitch_12 : decode cX9_stitch 12 = .ok (.iload_n 1, 1) := by decide +kernel
theorem dX9_stitch_13 : decode cX9_stitch 13 = .ok (.invokevirtual 220, 3) := by decide +kernel
theorem dX9_stitch_16 : decode cX9_stitch 16 = .ok (.iconst 1, 1) := by decide +kernel
theorem dX9_stitch_17 : decode cX9_stitch 17 = .ok (.isub, 1) := by decide +kernel
theorem dX9_stitch_18 : decode cX9_stitch 18 = .ok (.i2l, 1) := by decide +kernel
theorem dX9_stitch_19 : decode cX9_stitch 19 = .ok (.invokestatic 56, 3) := by decide +kernel
theorem dX9_stitch_22 : decode cX9_stitch 22 = .ok (.ifCond .eq 15, 3) := by decide +kernel
theorem dX9_stitch_25 : decode cX9_stitch 25 = .ok (.iload_n 3, 1) := by decide +kernel
theorem dX9_stitch_26 : decode cX9_stitch 26 = .ok (.i2l, 1) := by decide +kernel
theorem dX9_stitch_27 : decode cX9_stitch 27 = .ok (.lconst 0, 1) := by decide +kernel
theorem dX9_stitch_28 : decode cX9_stitch 28 = .ok (.ldc2_w 202, 3) := by decide +kernel
theorem dX9_stitch_31 : decode cX9_stitch 31 = .ok (.invokestatic 56, 3) := by decide +kernel
theorem dX9_stitch_34 : decode cX9_stitch 34 = .ok (.ifCond .ne 10, 3) := by decide +kernel
theorem dX9_stitch_37 : decode cX9_stitch 37 = .ok (.aload_n 0, 1) := by decide +kernel
theorem dX9_stitch_38 : decode cX9_stitch 38 = .ok (.bipush (-92), 2) := by decide +kernel
theorem dX9_stitch_40 : decode cX9_stitch 40 = .ok (.invokevirtual 60, 3) := by decide +kernel
theorem dX9_stitch_43 : decode cX9_stitch 43 = .ok (.ireturn, 1) := by decide +kernel
theorem dX9_stitch_44 : decode cX9_stitch 44 = .ok (.iload_n 3, 1) := by decide +kernel
theorem dX9_stitch_45 : decode cX9_stitch 45 = .ok (.ifCond .ne 12, 3) := by decide +kernel
theorem dX9_stitch_48 : decode cX9_stitch 48 = .ok (.aload_n 0, 1) := by decide +kernel
theorem dX9_stitch_49 : decode cX9_stitch 49 = .ok (.iload_n 1, 1) := by decide +kernel
theorem dX9_stitch_50 : decode cX9_stitch 50 = .ok (.iload_n 2, 1) := by decide +kernel
theorem dX9_stitch_51 : decode cX9_stitch 51 = .ok (.invokevirtual 212, 3) := by decide +kernel
theorem dX9_stitch_54 : decode cX9_stitch 54 = .ok (.goto 12, 3) := by decide +kernel
theorem dX9_stitch_57 : decode cX9_stitch 57 = .ok (.aload_n 0, 1) := by decide +kernel
theorem dX9_stitch_58 : decode cX9_stitch 58 = .ok (.iload_n 1, 1) := by decide +kernel
theorem dX9_stitch_59 : decode cX9_stitch 59 = .ok (.iload_n 2, 1) := by decide +kernel
theorem dX9_stitch_60 : decode cX9_stitch 60 = .ok (.iload_n 3, 1) := by decide +kernel
theorem dX9_stitch_61 : decode cX9_stitch 61 = .ok (.iconst 1, 1) := by decide +kernel
theorem dX9_stitch_62 : decode cX9_stitch 62 = .ok (.isub, 1) := by decide +kernel
theorem dX9_stitch_63 : decode cX9_stitch 63 = .ok (.invokevirtual 223, 3) := by decide +kernel
theorem dX9_stitch_66 : decode cX9_stitch 66 = .ok (.ireturn, 1) := by decide +kernel
theorem dX9_charted_0 : decode cX9_charted 0 = .ok (.aload_n 0, 1) := by decide +kernel
theorem dX9_charted_1 : decode cX9_charted 1 = .ok (.iload_n 1, 1) := by decide +kernel
theorem dX9_charted_2 : decode cX9_charted 2 = .ok (.invokevirtual 220, 3) := by decide +kernel
theorem dX9_charted_5 : decode cX9_charted 5 = .ok (.istore_n 3, 1) := by decide +kernel
theorem dX9_charted_6 : decode cX9_charted 6 = .ok (.iload_n 2, 1) := by decide +kernel
theorem dX9_charted_7 : decode cX9_charted 7 = .ok (.i2l, 1) := by decide +kernel
theorem dX9_charted_8 : decode cX9_charted 8 = .ok (.lconst 0, 1) := by decide +kernel
theorem dX9_charted_9 : decode cX9_charted 9 = .ok (.iload_n 3, 1) := by decide +kernel
theorem dX9_charted_10 : decode cX9_charted 10 = .ok (.iconst 1, 1) := by decide +kernel
theorem dX9_charted_11 : decode cX9_charted 11 = .ok (.isub, 1) := by decide +kernel
theorem dX9_charted_12 : decode cX9_charted 12 = .ok (.i2l, 1) := by decide +kernel
theorem dX9_charted_13 : decode cX9_charted 13 = .ok (.invokestatic 56, 3) := by decide +kernel
theorem dX9_charted_16 : decode cX9_charted 16 = .ok (.ifCond .ne 5, 3) := by decide +kernel
theorem dX9_charted_19 : decode cX9_charted 19 = .ok (.iconst (-1), 1) := by decide +kernel
theorem dX9_charted_20 : decode cX9_charted 20 = .ok (.ireturn, 1) := by decide +kernel
theorem dX9_charted_21 : decode cX9_charted 21 = .ok (.aload_n 0, 1) := by decide +kernel
theorem dX9_charted_22 : decode cX9_charted 22 = .ok (.getfield 13, 3) := by decide +kernel
theorem dX9_charted_25 : decode cX9_charted 25 = .ok (.sipush 5026, 3) := by decide +kernel
theorem dX9_charted_28 : decode cX9_charted 28 = .ok (.sipush 204, 3) := by decide +kernel
theorem dX9_charted_31 : decode cX9_charted 31 = .ok (.iload_n 1, 1) := by decide +kernel
theorem dX9_charted_32 : decode cX9_charted 32 = .ok (.imul, 1) := by decide +kernel
theorem dX9_charted_33 : decode cX9_charted 33 = .ok (.iadd, 1) := by decide +kernel
theorem dX9_charted_34 : decode cX9_charted 34 = .ok (.iaload, 1) := by decide +kernel
theorem dX9_charted_35 : decode cX9_charted 35 = .ok (.ifCond .ne 12, 3) := by decide +kernel
theorem dX9_charted_38 : decode cX9_charted 38 = .ok (.aload_n 0, 1) := by decide +kernel
theorem dX9_charted_39 : decode cX9_charted 39 = .ok (.iload_n 1, 1) := by decide +kernel
theorem dX9_charted_40 : decode cX9_charted 40 = .ok (.iload_n 2, 1) := by decide +kernel
theorem dX9_charted_41 : decode cX9_charted 41 = .ok (.invokevirtual 212, 3) := by decide +kernel
theorem dX9_charted_44 : decode cX9_charted 44 = .ok (.goto 16, 3) := by decide +kernel
theorem dX9_charted_47 : decode cX9_charted 47 = .ok (.aload_n 0, 1) := by decide +kernel
theorem dX9_charted_48 : decode cX9_charted 48 = .ok (.iload_n 1, 1) := by decide +kernel
theorem dX9_charted_49 : decode cX9_charted 49 = .ok (.iload_n 3, 1) := by decide +kernel
theorem dX9_charted_50 : decode cX9_charted 50 = .ok (.iconst 1, 1) := by decide +kernel
theorem dX9_charted_51 : decode cX9_charted 51 = .ok (.isub, 1) := by decide +kernel
theorem dX9_charted_52 : decode cX9_charted 52 = .ok (.iload_n 2, 1) := by decide +kernel
theorem dX9_charted_53 : decode cX9_charted 53 = .ok (.isub, 1) := by decide +kernel
theorem dX9_charted_54 : decode cX9_charted 54 = .ok (.invokevirtual 212, 3) := by decide +kernel
theorem dX9_charted_57 : decode cX9_charted 57 = .ok (.invokestatic 227, 3) := by decide +kernel
theorem dX9_charted_60 : decode cX9_charted 60 = .ok (.ireturn, 1) := by decide +kernel
theorem dX9_chart_0 : decode cX9_chart 0 = .ok (.aload_n 0, 1) := by decide +kernel
theorem dX9_chart_1 : decode cX9_chart 1 = .ok (.iload_n 1, 1) := by decide +kernel
theorem dX9_chart_2 : decode cX9_chart 2 = .ok (.invokevirtual 215, 3) := by decide +kernel
theorem dX9_chart_5 : decode cX9_chart 5 = .ok (.ifCond .eq 12, 3) := by decide +kernel
theorem dX9_chart_8 : decode cX9_chart 8 = .ok (.aload_n 0, 1) := by decide +kernel
theorem dX9_chart_9 : decode cX9_chart 9 = .ok (.iload_n 1, 1) := by decide +kernel
theorem dX9_chart_10 : decode cX9_chart 10 = .ok (.iload_n 2, 1) := by decide +kernel
theorem dX9_chart_11 : decode cX9_chart 11 = .ok (.invokevirtual 230, 3) := by decide +kernel
theorem dX9_chart_14 : decode cX9_chart 14 = .ok (.goto 9, 3) := by decide +kernel
theorem dX9_chart_17 : decode cX9_chart 17 = .ok (.aload_n 0, 1) := by decide +kernel
theorem dX9_chart_18 : decode cX9_chart 18 = .ok (.bipush (-92), 2) := by decide +kernel
theorem dX9_chart_20 : decode cX9_chart 20 = .ok (.invokevirtual 60, 3) := by decide +kernel
theorem dX9_chart_23 : decode cX9_chart 23 = .ok (.ireturn, 1) := by decide +kernel
theorem dX9_shorthand_0 : decode cX9_shorthand 0 = .ok (.aload_n 0, 1) := by decide +kernel
theorem dX9_shorthand_1 : decode cX9_shorthand 1 = .ok (.iload_n 1, 1) := by decide +kernel
theorem dX9_shorthand_2 : decode cX9_shorthand 2 = .ok (.invokevirtual 215, 3) := by decide +kernel
theorem dX9_shorthand_5 : decode cX9_shorthand 5 = .ok (.ifCond .ne 10, 3) := by decide +kernel
theorem dX9_shorthand_8 : decode cX9_shorthand 8 = .ok (.aload_n 0, 1) := by decide +kernel
theorem dX9_shorthand_9 : decode cX9_shorthand 9 = .ok (.bipush (-92), 2) := by decide +kernel
theorem dX9_shorthand_11 : decode cX9_shorthand 11 = .ok (.invokevirtual 60, 3) := by decide +kernel
theorem dX9_shorthand_14 : decode cX9_shorthand 14 = .ok (.ireturn, 1) := by decide +kernel
theorem dX9_shorthand_15 : decode cX9_shorthand 15 = .ok (.aload_n 0, 1) := by decide +kernel
theorem dX9_shorthand_16 : decode cX9_shorthand 16 = .ok (.iload_n 1, 1) := by decide +kernel
theorem dX9_shorthand_17 : decode cX9_shorthand 17 = .ok (.invokevirtual 220, 3) := by decide +kernel
theorem dX9_shorthand_20 : decode cX9_shorthand 20 = .ok (.istore_n 3, 1) := by decide +kernel
theorem dX9_shorthand_21 : decode cX9_shorthand 21 = .ok (.iconst 0, 1) := by decide +kernel
theorem dX9_shorthand_22 : decode cX9_shorthand 22 = .ok (.istore 4, 2) := by decide +kernel
theorem dX9_shorthand_24 : decode cX9_shorthand 24 = .ok (.iconst 0, 1) := by decide +kernel
theorem dX9_shorthand_25 : decode cX9_shorthand 25 = .ok (.istore 5, 2) := by decide +kernel
theorem dX9_shorthand_27 : decode cX9_shorthand 27 = .ok (.iload 5, 2) := by decide +kernel
theorem dX9_shorthand_29 : decode cX9_shorthand 29 = .ok (.iload_n 3, 1) := by decide +kernel
theorem dX9_shorthand_30 : decode cX9_shorthand 30 = .ok (.if_icmp .ge 251, 3) := by decide +kernel
theorem dX9_shorthand_33 : decode cX9_shorthand 33 = .ok (.aload_n 0, 1) := by decide +kernel
theorem dX9_shorthand_34 : decode cX9_shorthand 34 = .ok (.iload_n 1, 1) := by decide +kernel
theorem dX9_shorthand_35 : decode cX9_shorthand 35 = .ok (.iload 5, 2) := by decide +kernel
theorem dX9_shorthand_37 : decode cX9_shorthand 37 = .ok (.invokevirtual 212, 3) := by decide +kernel
theorem dX9_shorthand_40 : decode cX9_shorthand 40 = .ok (.istore 6, 2) := by decide +kernel
theorem dX9_shorthand_42 : decode cX9_shorthand 42 = .ok (.iconst 0, 1) := by decide +kernel
theorem dX9_shorthand_43 : decode cX9_shorthand 43 = .ok (.istore 7, 2) := by decide +kernel
theorem dX9_shorthand_45 : decode cX9_shorthand 45 = .ok (.iload 5, 2) := by decide +kernel
theorem dX9_shorthand_47 : decode cX9_shorthand 47 = .ok (.iload 7, 2) := by decide +kernel
theorem dX9_shorthand_49 : decode cX9_shorthand 49 = .ok (.iadd, 1) := by decide +kernel
theorem dX9_shorthand_50 : decode cX9_shorthand 50 = .ok (.iload_n 3, 1) := by decide +kernel
theorem dX9_shorthand_51 : decode cX9_shorthand 51 = .ok (.if_icmp .ge 24, 3) := by decide +kernel
theorem dX9_shorthand_54 : decode cX9_shorthand 54 = .ok (.aload_n 0, 1) := by decide +kernel
theorem dX9_shorthand_55 : decode cX9_shorthand 55 = .ok (.iload_n 1, 1) := by decide +kernel
theorem dX9_shorthand_56 : decode cX9_shorthand 56 = .ok (.iload 5, 2) := by decide +kernel
theorem dX9_shorthand_58 : decode cX9_shorthand 58 = .ok (.iload 7, 2) := by decide +kernel
theorem dX9_shorthand_60 : decode cX9_shorthand 60 = .ok (.iadd, 1) := by decide +kernel
theorem dX9_shorthand_61 : decode cX9_shorthand 61 = .ok (.invokevirtual 212, 3) := by decide +kernel
theorem dX9_shorthand_64 : decode cX9_shorthand 64 = .ok (.iload 6, 2) := by decide +kernel
theorem dX9_shorthand_66 : decode cX9_shorthand 66 = .ok (.if_icmp .ne 9, 3) := by decide +kernel
theorem dX9_shorthand_69 : decode cX9_shorthand 69 = .ok (.iinc 7 1, 3) := by decide +kernel
theorem dX9_shorthand_72 : decode cX9_shorthand 72 = .ok (.goto (-27), 3) := by decide +kernel
theorem dX9_shorthand_75 : decode cX9_shorthand 75 = .ok (.iload 6, 2) := by decide +kernel
theorem dX9_shorthand_77 : decode cX9_shorthand 77 = .ok (.iconst 1, 1) := by decide +kernel
theorem dX9_shorthand_78 : decode cX9_shorthand 78 = .ok (.invokestatic 233, 3) := by decide +kernel
theorem dX9_shorthand_81 : decode cX9_shorthand 81 = .ok (.ifCond .ne 7, 3) := by decide +kernel
theorem dX9_shorthand_84 : decode cX9_shorthand 84 = .ok (.iconst 1, 1) := by decide +kernel
theorem dX9_shorthand_85 : decode cX9_shorthand 85 = .ok (.goto 4, 3) := by decide +kernel
theorem dX9_shorthand_88 : decode cX9_shorthand 88 = .ok (.iconst 2, 1) := by decide +kernel
theorem dX9_shorthand_89 : decode cX9_shorthand 89 = .ok (.istore 8, 2) := by decide +kernel
theorem dX9_shorthand_91 : decode cX9_shorthand 91 = .ok (.iload 7, 2) := by decide +kernel
theorem dX9_shorthand_93 : decode cX9_shorthand 93 = .ok (.iconst 2, 1) := by decide +kernel
theorem dX9_shorthand_94 : decode cX9_shorthand 94 = .ok (.if_icmp .ge 7, 3) := by decide +kernel
theorem dX9_shorthand_97 : decode cX9_shorthand 97 = .ok (.iconst 0, 1) := by decide +kernel
theorem dX9_shorthand_98 : decode cX9_shorthand 98 = .ok (.goto 26, 3) := by decide +kernel
theorem dX9_shorthand_101 : decode cX9_shorthand 101 = .ok (.iload 7, 2) := by decide +kernel
theorem dX9_shorthand_103 : decode cX9_shorthand 103 = .ok (.bipush 10, 2) := by decide +kernel
theorem dX9_shorthand_105 : decode cX9_shorthand 105 = .ok (.if_icmp .ge 7, 3) := by decide +kernel
theorem dX9_shorthand_108 : decode cX9_shorthand 108 = .ok (.iconst 1, 1) := by decide +kernel
theorem dX9_shorthand_109 : decode cX9_shorthand 109 = .ok (.goto 15, 3) := by decide +kernel
theorem dX9_shorthand_112 : decode cX9_shorthand 112 = .ok (.iload 7, 2) := by decide +kernel
theorem dX9_shorthand_114 : decode cX9_shorthand 114 = .ok (.bipush 100, 2) := by decide +kernel
theorem dX9_shorthand_116 : decode cX9_shorthand 116 = .ok (.if_icmp .ge 7, 3) := by decide +kernel
theorem dX9_shorthand_119 : decode cX9_shorthand 119 = .ok (.iconst 2, 1) := by decide +kernel
theorem dX9_shorthand_120 : decode cX9_shorthand 120 = .ok (.goto 4, 3) := by decide +kernel
theorem dX9_shorthand_123 : decode cX9_shorthand 123 = .ok (.iconst 3, 1) := by decide +kernel
theorem dX9_shorthand_124 : decode cX9_shorthand 124 = .ok (.istore 9, 2) := by decide +kernel
theorem dX9_shorthand_126 : decode cX9_shorthand 126 = .ok (.iload 5, 2) := by decide +kernel
theorem dX9_shorthand_128 : decode cX9_shorthand 128 = .ok (.iload 7, 2) := by decide +kernel
theorem dX9_shorthand_130 : decode cX9_shorthand 130 = .ok (.iadd, 1) := by decide +kernel
theorem dX9_shorthand_131 : decode cX9_shorthand 131 = .ok (.iload_n 3, 1) := by decide +kernel
theorem dX9_shorthand_132 : decode cX9_shorthand 132 = .ok (.if_icmp .ge 7, 3) := by decide +kernel
theorem dX9_shorthand_135 : decode cX9_shorthand 135 = .ok (.iconst 1, 1) := by decide +kernel
theorem dX9_shorthand_136 : decode cX9_shorthand 136 = .ok (.goto 4, 3) := by decide +kernel
theorem dX9_shorthand_139 : decode cX9_shorthand 139 = .ok (.iconst 0, 1) := by decide +kernel
theorem dX9_shorthand_140 : decode cX9_shorthand 140 = .ok (.istore 10, 2) := by decide +kernel
theorem dX9_shorthand_142 : decode cX9_shorthand 142 = .ok (.iload_n 2, 1) := by decide +kernel
theorem dX9_shorthand_143 : decode cX9_shorthand 143 = .ok (.iload 4, 2) := by decide +kernel
theorem dX9_shorthand_145 : decode cX9_shorthand 145 = .ok (.isub, 1) := by decide +kernel
theorem dX9_shorthand_146 : decode cX9_shorthand 146 = .ok (.istore 11, 2) := by decide +kernel
theorem dX9_shorthand_148 : decode cX9_shorthand 148 = .ok (.iload 11, 2) := by decide +kernel
theorem dX9_shorthand_150 : decode cX9_shorthand 150 = .ok (.i2l, 1) := by decide +kernel
theorem dX9_shorthand_151 : decode cX9_shorthand 151 = .ok (.lconst 0, 1) := by decide +kernel
theorem dX9_shorthand_152 : decode cX9_shorthand 152 = .ok (.iload 8, 2) := by decide +kernel
theorem dX9_shorthand_154 : decode cX9_shorthand 154 = .ok (.iconst 1, 1) := by decide +kernel
theorem dX9_shorthand_155 : decode cX9_shorthand 155 = .ok (.isub, 1) := by decide +kernel
theorem dX9_shorthand_156 : decode cX9_shorthand 156 = .ok (.i2l, 1) := by decide +kernel
theorem dX9_shorthand_157 : decode cX9_shorthand 157 = .ok (.invokestatic 56, 3) := by decide +kernel
theorem dX9_shorthand_160 : decode cX9_shorthand 160 = .ok (.ifCond .eq 11, 3) := by decide +kernel
theorem dX9_shorthand_163 : decode cX9_shorthand 163 = .ok (.iload 6, 2) := by decide +kernel
theorem dX9_shorthand_165 : decode cX9_shorthand 165 = .ok (.iload 11, 2) := by decide +kernel
theorem dX9_shorthand_167 : decode cX9_shorthand 167 = .ok (.invokestatic 233, 3) := by decide +kernel
theorem dX9_shorthand_170 : decode cX9_shorthand 170 = .ok (.ireturn, 1) := by decide +kernel
theorem dX9_shorthand_171 : decode cX9_shorthand 171 = .ok (.iload 11, 2) := by decide +kernel
theorem dX9_shorthand_173 : decode cX9_shorthand 173 = .ok (.i2l, 1) := by decide +kernel
theorem dX9_shorthand_174 : decode cX9_shorthand 174 = .ok (.iload 8, 2) := by decide +kernel
theorem dX9_shorthand_176 : decode cX9_shorthand 176 = .ok (.i2l, 1) := by decide +kernel
theorem dX9_shorthand_177 : decode cX9_shorthand 177 = .ok (.iload 8, 2) := by decide +kernel
theorem dX9_shorthand_179 : decode cX9_shorthand 179 = .ok (.iload 9, 2) := by decide +kernel
theorem dX9_shorthand_181 : decode cX9_shorthand 181 = .ok (.iadd, 1) := by decide +kernel
theorem dX9_shorthand_182 : decode cX9_shorthand 182 = .ok (.iconst 1, 1) := by decide +kernel
theorem dX9_shorthand_183 : decode cX9_shorthand 183 = .ok (.isub, 1) := by decide +kernel
theorem dX9_shorthand_184 : decode cX9_shorthand 184 = .ok (.i2l, 1) := by decide +kernel
theorem dX9_shorthand_185 : decode cX9_shorthand 185 = .ok (.invokestatic 56, 3) := by decide +kernel
theorem dX9_shorthand_188 : decode cX9_shorthand 188 = .ok (.ifCond .eq 51, 3) := by decide +kernel
theorem dX9_shorthand_191 : decode cX9_shorthand 191 = .ok (.iload 8, 2) := by decide +kernel
theorem dX9_shorthand_193 : decode cX9_shorthand 193 = .ok (.iload 9, 2) := by decide +kernel
theorem dX9_shorthand_195 : decode cX9_shorthand 195 = .ok (.iadd, 1) := by decide +kernel
theorem dX9_shorthand_196 : decode cX9_shorthand 196 = .ok (.iconst 1, 1) := by decide +kernel
theorem dX9_shorthand_197 : decode cX9_shorthand 197 = .ok (.isub, 1) := by decide +kernel
theorem dX9_shorthand_198 : decode cX9_shorthand 198 = .ok (.iload 11, 2) := by decide +kernel
theorem dX9_shorthand_200 : decode cX9_shorthand 200 = .ok (.isub, 1) := by decide +kernel
theorem dX9_shorthand_201 : decode cX9_shorthand 201 = .ok (.istore 12, 2) := by decide +kernel
theorem dX9_shorthand_203 : decode cX9_shorthand 203 = .ok (.bipush 48, 2) := by decide +kernel
theorem dX9_shorthand_205 : decode cX9_shorthand 205 = .ok (.iload 12, 2) := by decide +kernel
theorem dX9_shorthand_207 : decode cX9_shorthand 207 = .ok (.ifCond .ne 8, 3) := by decide +kernel
theorem dX9_shorthand_210 : decode cX9_shorthand 210 = .ok (.iload 7, 2) := by decide +kernel
theorem dX9_shorthand_212 : decode cX9_shorthand 212 = .ok (.goto 22, 3) := by decide +kernel
theorem dX9_shorthand_215 : decode cX9_shorthand 215 = .ok (.iload 12, 2) := by decide +kernel
theorem dX9_shorthand_217 : decode cX9_shorthand 217 = .ok (.iconst 1, 1) := by decide +kernel
theorem dX9_shorthand_218 : decode cX9_shorthand 218 = .ok (.if_icmp .ne 11, 3) := by decide +kernel
theorem dX9_shorthand_221 : decode cX9_shorthand 221 = .ok (.iload 7, 2) := by decide +kernel
theorem dX9_shorthand_223 : decode cX9_shorthand 223 = .ok (.bipush 10, 2) := by decide +kernel
theorem dX9_shorthand_225 : decode cX9_shorthand 225 = .ok (.idiv, 1) := by decide +kernel
theorem dX9_shorthand_226 : decode cX9_shorthand 226 = .ok (.goto 8, 3) := by decide +kernel
theorem dX9_shorthand_229 : decode cX9_shorthand 229 = .ok (.iload 7, 2) := by decide +kernel
theorem dX9_shorthand_231 : decode cX9_shorthand 231 = .ok (.bipush 100, 2) := by decide +kernel
theorem dX9_shorthand_233 : decode cX9_shorthand 233 = .ok (.idiv, 1) := by decide +kernel
theorem dX9_shorthand_234 : decode cX9_shorthand 234 = .ok (.bipush 10, 2) := by decide +kernel
theorem dX9_shorthand_236 : decode cX9_shorthand 236 = .ok (.irem, 1) := by decide +kernel
theorem dX9_shorthand_237 : decode cX9_shorthand 237 = .ok (.iadd, 1) := by decide +kernel
theorem dX9_shorthand_238 : decode cX9_shorthand 238 = .ok (.ireturn, 1) := by decide +kernel
theorem dX9_shorthand_239 : decode cX9_shorthand 239 = .ok (.iload 11, 2) := by decide +kernel
theorem dX9_shorthand_241 : decode cX9_shorthand 241 = .ok (.iload 8, 2) := by decide +kernel
theorem dX9_shorthand_243 : decode cX9_shorthand 243 = .ok (.iload 9, 2) := by decide +kernel
theorem dX9_shorthand_245 : decode cX9_shorthand 245 = .ok (.iadd, 1) := by decide +kernel
theorem dX9_shorthand_246 : decode cX9_shorthand 246 = .ok (.if_icmp .ne 12, 3) := by decide +kernel
theorem dX9_shorthand_249 : decode cX9_shorthand 249 = .ok (.iload 10, 2) := by decide +kernel
theorem dX9_shorthand_251 : decode cX9_shorthand 251 = .ok (.iconst 1, 1) := by decide +kernel
theorem dX9_shorthand_252 : decode cX9_shorthand 252 = .ok (.if_icmp .ne 6, 3) := by decide +kernel
theorem dX9_shorthand_255 : decode cX9_shorthand 255 = .ok (.bipush 44, 2) := by decide +kernel
theorem dX9_shorthand_257 : decode cX9_shorthand 257 = .ok (.ireturn, 1) := by decide +kernel
theorem dX9_shorthand_258 : decode cX9_shorthand 258 = .ok (.iload 4, 2) := by decide +kernel
theorem dX9_shorthand_260 : decode cX9_shorthand 260 = .ok (.iload 8, 2) := by decide +kernel
theorem dX9_shorthand_262 : decode cX9_shorthand 262 = .ok (.iload 9, 2) := by decide +kernel
theorem dX9_shorthand_264 : decode cX9_shorthand 264 = .ok (.iadd, 1) := by decide +kernel
theorem dX9_shorthand_265 : decode cX9_shorthand 265 = .ok (.iload 10, 2) := by decide +kernel
theorem dX9_shorthand_267 : decode cX9_shorthand 267 = .ok (.iadd, 1) := by decide +kernel
theorem dX9_shorthand_268 : decode cX9_shorthand 268 = .ok (.iadd, 1) := by decide +kernel
theorem dX9_shorthand_269 : decode cX9_shorthand 269 = .ok (.istore 4, 2) := by decide +kernel
theorem dX9_shorthand_271 : decode cX9_shorthand 271 = .ok (.iload 5, 2) := by decide +kernel
theorem dX9_shorthand_273 : decode cX9_shorthand 273 = .ok (.iload 7, 2) := by decide +kernel
theorem dX9_shorthand_275 : decode cX9_shorthand 275 = .ok (.iadd, 1) := by decide +kernel
theorem dX9_shorthand_276 : decode cX9_shorthand 276 = .ok (.istore 5, 2) := by decide +kernel
theorem dX9_shorthand_278 : decode cX9_shorthand 278 = .ok (.goto (-251), 3) := by decide +kernel
theorem dX9_shorthand_281 : decode cX9_shorthand 281 = .ok (.iconst (-1), 1) := by decide +kernel
theorem dX9_shorthand_282 : decode cX9_shorthand 282 = .ok (.ireturn, 1) := by decide +kernel
theorem dX9_unit_0 : decode cX9_unit 0 = .ok (.aload_n 0, 1) := by decide +kernel
theorem dX9_unit_1 : decode cX9_unit 1 = .ok (.iload_n 1, 1) := by decide +kernel
theorem dX9_unit_2 : decode cX9_unit 2 = .ok (.invokevirtual 215, 3) := by decide +kernel
theorem dX9_unit_5 : decode cX9_unit 5 = .ok (.ifCond .ne 10, 3) := by decide +kernel
theorem dX9_unit_8 : decode cX9_unit 8 = .ok (.aload_n 0, 1) := by decide +kernel
theorem dX9_unit_9 : decode cX9_unit 9 = .ok (.bipush (-92), 2) := by decide +kernel
theorem dX9_unit_11 : decode cX9_unit 11 = .ok (.invokevirtual 60, 3) := by decide +kernel
theorem dX9_unit_14 : decode cX9_unit 14 = .ok (.ireturn, 1) := by decide +kernel
theorem dX9_unit_15 : decode cX9_unit 15 = .ok (.aload_n 0, 1) := by decide +kernel
theorem dX9_unit_16 : decode cX9_unit 16 = .ok (.iload_n 1, 1) := by decide +kernel
theorem dX9_unit_17 : decode cX9_unit 17 = .ok (.invokevirtual 220, 3) := by decide +kernel
theorem dX9_unit_20 : decode cX9_unit 20 = .ok (.istore_n 2, 1) := by decide +kernel
theorem dX9_unit_21 : decode cX9_unit 21 = .ok (.iconst 1, 1) := by decide +kernel
theorem dX9_unit_22 : decode cX9_unit 22 = .ok (.istore_n 3, 1) := by decide +kernel
theorem dX9_unit_23 : decode cX9_unit 23 = .ok (.iload_n 3, 1) := by decide +kernel
theorem dX9_unit_24 : decode cX9_unit 24 = .ok (.iload_n 2, 1) := by decide +kernel
theorem dX9_unit_25 : decode cX9_unit 25 = .ok (.if_icmp .gt 75, 3) := by decide +kernel
theorem dX9_unit_28 : decode cX9_unit 28 = .ok (.iload_n 2, 1) := by decide +kernel
theorem dX9_unit_29 : decode cX9_unit 29 = .ok (.iload_n 3, 1) := by decide +kernel
theorem dX9_unit_30 : decode cX9_unit 30 = .ok (.irem, 1) := by decide +kernel
theorem dX9_unit_31 : decode cX9_unit 31 = .ok (.ifCond .ne 7, 3) := by decide +kernel
theorem dX9_unit_34 : decode cX9_unit 34 = .ok (.iconst 1, 1) := by decide +kernel
theorem dX9_unit_35 : decode cX9_unit 35 = .ok (.goto 4, 3) := by decide +kernel
theorem dX9_unit_38 : decode cX9_unit 38 = .ok (.iconst 0, 1) := by decide +kernel
theorem dX9_unit_39 : decode cX9_unit 39 = .ok (.istore 4, 2) := by decide +kernel
theorem dX9_unit_41 : decode cX9_unit 41 = .ok (.iload_n 3, 1) := by decide +kernel
theorem dX9_unit_42 : decode cX9_unit 42 = .ok (.istore 5, 2) := by decide +kernel
theorem dX9_unit_44 : decode cX9_unit 44 = .ok (.iload 5, 2) := by decide +kernel
theorem dX9_unit_46 : decode cX9_unit 46 = .ok (.iload_n 2, 1) := by decide +kernel
theorem dX9_unit_47 : decode cX9_unit 47 = .ok (.if_icmp .ge 40, 3) := by decide +kernel
theorem dX9_unit_50 : decode cX9_unit 50 = .ok (.iload 4, 2) := by decide +kernel
theorem dX9_unit_52 : decode cX9_unit 52 = .ok (.ifCond .eq 35, 3) := by decide +kernel
theorem dX9_unit_55 : decode cX9_unit 55 = .ok (.aload_n 0, 1) := by decide +kernel
theorem dX9_unit_56 : decode cX9_unit 56 = .ok (.iload_n 1, 1) := by decide +kernel
theorem dX9_unit_57 : decode cX9_unit 57 = .ok (.iload 5, 2) := by decide +kernel
theorem dX9_unit_59 : decode cX9_unit 59 = .ok (.invokevirtual 212, 3) := by decide +kernel
theorem dX9_unit_62 : decode cX9_unit 62 = .ok (.aload_n 0, 1) := by decide +kernel
theorem dX9_unit_63 : decode cX9_unit 63 = .ok (.iload_n 1, 1) := by decide +kernel
theorem dX9_unit_64 : decode cX9_unit 64 = .ok (.iload 5, 2) := by decide +kernel
theorem dX9_unit_66 : decode cX9_unit 66 = .ok (.iload_n 3, 1) := by decide +kernel
theorem dX9_unit_67 : decode cX9_unit 67 = .ok (.isub, 1) := by decide +kernel
theorem dX9_unit_68 : decode cX9_unit 68 = .ok (.invokevirtual 212, 3) := by decide +kernel
theorem dX9_unit_71 : decode cX9_unit 71 = .ok (.if_icmp .ne 7, 3) := by decide +kernel
theorem dX9_unit_74 : decode cX9_unit 74 = .ok (.iconst 1, 1) := by decide +kernel
theorem dX9_unit_75 : decode cX9_unit 75 = .ok (.goto 4, 3) := by decide +kernel
theorem dX9_unit_78 : decode cX9_unit 78 = .ok (.iconst 0, 1) := by decide +kernel
theorem dX9_unit_79 : decode cX9_unit 79 = .ok (.istore 4, 2) := by decide +kernel
theorem dX9_unit_81 : decode cX9_unit 81 = .ok (.iinc 5 1, 3) := by decide +kernel
theorem dX9_unit_84 : decode cX9_unit 84 = .ok (.goto (-40), 3) := by decide +kernel
theorem dX9_unit_87 : decode cX9_unit 87 = .ok (.iload 4, 2) := by decide +kernel
theorem dX9_unit_89 : decode cX9_unit 89 = .ok (.ifCond .eq 5, 3) := by decide +kernel
theorem dX9_unit_92 : decode cX9_unit 92 = .ok (.iload_n 3, 1) := by decide +kernel
theorem dX9_unit_93 : decode cX9_unit 93 = .ok (.ireturn, 1) := by decide +kernel
theorem dX9_unit_94 : decode cX9_unit 94 = .ok (.iinc 3 1, 3) := by decide +kernel
theorem dX9_unit_97 : decode cX9_unit 97 = .ok (.goto (-74), 3) := by decide +kernel
theorem dX9_unit_100 : decode cX9_unit 100 = .ok (.iconst 0, 1) := by decide +kernel
theorem dX9_unit_101 : decode cX9_unit 101 = .ok (.ireturn, 1) := by decide +kernel
theorem dX9_mirroredAt_0 : decode cX9_mirroredAt 0 = .ok (.aload_n 0, 1) := by decide +kernel
theorem dX9_mirroredAt_1 : decode cX9_mirroredAt 1 = .ok (.iload_n 1, 1) := by decide +kernel
theorem dX9_mirroredAt_2 : decode cX9_mirroredAt 2 = .ok (.invokevirtual 220, 3) := by decide +kernel
theorem dX9_mirroredAt_5 : decode cX9_mirroredAt 5 = .ok (.istore_n 3, 1) := by decide +kernel
theorem dX9_mirroredAt_6 : decode cX9_mirroredAt 6 = .ok (.iload_n 2, 1) := by decide +kernel
theorem dX9_mirroredAt_7 : decode cX9_mirroredAt 7 = .ok (.i2l, 1) := by decide +kernel
theorem dX9_mirroredAt_8 : decode cX9_mirroredAt 8 = .ok (.lconst 0, 1) := by decide +kernel
theorem dX9_mirroredAt_9 : decode cX9_mirroredAt 9 = .ok (.iload_n 3, 1) := by decide +kernel
theorem dX9_mirroredAt_10 : decode cX9_mirroredAt 10 = .ok (.iconst 1, 1) := by decide +kernel
theorem dX9_mirroredAt_11 : decode cX9_mirroredAt 11 = .ok (.isub, 1) := by decide +kernel
theorem dX9_mirroredAt_12 : decode cX9_mirroredAt 12 = .ok (.i2l, 1) := by decide +kernel
theorem dX9_mirroredAt_13 : decode cX9_mirroredAt 13 = .ok (.invokestatic 56, 3) := by decide +kernel
theorem dX9_mirroredAt_16 : decode cX9_mirroredAt 16 = .ok (.ifCond .eq 19, 3) := by decide +kernel
theorem dX9_mirroredAt_19 : decode cX9_mirroredAt 19 = .ok (.aload_n 0, 1) := by decide +kernel
theorem dX9_mirroredAt_20 : decode cX9_mirroredAt 20 = .ok (.iload_n 1, 1) := by decide +kernel
theorem dX9_mirroredAt_21 : decode cX9_mirroredAt 21 = .ok (.iload_n 3, 1) := by decide +kernel
theorem dX9_mirroredAt_22 : decode cX9_mirroredAt 22 = .ok (.iconst 1, 1) := by decide +kernel
theorem dX9_mirroredAt_23 : decode cX9_mirroredAt 23 = .ok (.isub, 1) := by decide +kernel
theorem dX9_mirroredAt_24 : decode cX9_mirroredAt 24 = .ok (.iload_n 2, 1) := by decide +kernel
theorem dX9_mirroredAt_25 : decode cX9_mirroredAt 25 = .ok (.isub, 1) := by decide +kernel
theorem dX9_mirroredAt_26 : decode cX9_mirroredAt 26 = .ok (.invokevirtual 212, 3) := by decide +kernel
theorem dX9_mirroredAt_29 : decode cX9_mirroredAt 29 = .ok (.invokestatic 50, 3) := by decide +kernel
theorem dX9_mirroredAt_32 : decode cX9_mirroredAt 32 = .ok (.goto 4, 3) := by decide +kernel
theorem dX9_mirroredAt_35 : decode cX9_mirroredAt 35 = .ok (.iconst (-1), 1) := by decide +kernel
theorem dX9_mirroredAt_36 : decode cX9_mirroredAt 36 = .ok (.ireturn, 1) := by decide +kernel
theorem dX9_mirrored_0 : decode cX9_mirrored 0 = .ok (.aload_n 0, 1) := by decide +kernel
theorem dX9_mirrored_1 : decode cX9_mirrored 1 = .ok (.iload_n 1, 1) := by decide +kernel
theorem dX9_mirrored_2 : decode cX9_mirrored 2 = .ok (.invokevirtual 215, 3) := by decide +kernel
theorem dX9_mirrored_5 : decode cX9_mirrored 5 = .ok (.ifCond .eq 12, 3) := by decide +kernel
theorem dX9_mirrored_8 : decode cX9_mirrored 8 = .ok (.aload_n 0, 1) := by decide +kernel
theorem dX9_mirrored_9 : decode cX9_mirrored 9 = .ok (.iload_n 1, 1) := by decide +kernel
theorem dX9_mirrored_10 : decode cX9_mirrored 10 = .ok (.iload_n 2, 1) := by decide +kernel
theorem dX9_mirrored_11 : decode cX9_mirrored 11 = .ok (.invokevirtual 236, 3) := by decide +kernel
theorem dX9_mirrored_14 : decode cX9_mirrored 14 = .ok (.goto 9, 3) := by decide +kernel
theorem dX9_mirrored_17 : decode cX9_mirrored 17 = .ok (.aload_n 0, 1) := by decide +kernel
theorem dX9_mirrored_18 : decode cX9_mirrored 18 = .ok (.bipush (-92), 2) := by decide +kernel
theorem dX9_mirrored_20 : decode cX9_mirrored 20 = .ok (.invokevirtual 60, 3) := by decide +kernel
theorem dX9_mirrored_23 : decode cX9_mirrored 23 = .ok (.ireturn, 1) := by decide +kernel
theorem dX9_even_0 : decode cX9_even 0 = .ok (.aload_n 0, 1) := by decide +kernel
theorem dX9_even_1 : decode cX9_even 1 = .ok (.iload_n 1, 1) := by decide +kernel
theorem dX9_even_2 : decode cX9_even 2 = .ok (.invokevirtual 215, 3) := by decide +kernel
theorem dX9_even_5 : decode cX9_even 5 = .ok (.ifCond .ne 10, 3) := by decide +kernel
theorem dX9_even_8 : decode cX9_even 8 = .ok (.aload_n 0, 1) := by decide +kernel
theorem dX9_even_9 : decode cX9_even 9 = .ok (.bipush (-92), 2) := by decide +kernel
theorem dX9_even_11 : decode cX9_even 11 = .ok (.invokevirtual 60, 3) := by decide +kernel
theorem dX9_even_14 : decode cX9_even 14 = .ok (.ireturn, 1) := by decide +kernel
theorem dX9_even_15 : decode cX9_even 15 = .ok (.iconst 1, 1) := by decide +kernel
theorem dX9_even_16 : decode cX9_even 16 = .ok (.istore_n 2, 1) := by decide +kernel
theorem dX9_even_17 : decode cX9_even 17 = .ok (.iconst 0, 1) := by decide +kernel
theorem dX9_even_18 : decode cX9_even 18 = .ok (.istore_n 3, 1) := by decide +kernel
theorem dX9_even_19 : decode cX9_even 19 = .ok (.iload_n 3, 1) := by decide +kernel
theorem dX9_even_20 : decode cX9_even 20 = .ok (.aload_n 0, 1) := by decide +kernel
theorem dX9_even_21 : decode cX9_even 21 = .ok (.iload_n 1, 1) := by decide +kernel
theorem dX9_even_22 : decode cX9_even 22 = .ok (.invokevirtual 220, 3) := by decide +kernel
theorem dX9_even_25 : decode cX9_even 25 = .ok (.if_icmp .ge 34, 3) := by decide +kernel
theorem dX9_even_28 : decode cX9_even 28 = .ok (.iload_n 2, 1) := by decide +kernel
theorem dX9_even_29 : decode cX9_even 29 = .ok (.ifCond .eq 22, 3) := by decide +kernel
theorem dX9_even_32 : decode cX9_even 32 = .ok (.aload_n 0, 1) := by decide +kernel
theorem dX9_even_33 : decode cX9_even 33 = .ok (.iload_n 1, 1) := by decide +kernel
theorem dX9_even_34 : decode cX9_even 34 = .ok (.iload_n 3, 1) := by decide +kernel
theorem dX9_even_35 : decode cX9_even 35 = .ok (.invokevirtual 236, 3) := by decide +kernel
theorem dX9_even_38 : decode cX9_even 38 = .ok (.aload_n 0, 1) := by decide +kernel
theorem dX9_even_39 : decode cX9_even 39 = .ok (.iload_n 1, 1) := by decide +kernel
theorem dX9_even_40 : decode cX9_even 40 = .ok (.iload_n 3, 1) := by decide +kernel
theorem dX9_even_41 : decode cX9_even 41 = .ok (.invokevirtual 212, 3) := by decide +kernel
theorem dX9_even_44 : decode cX9_even 44 = .ok (.if_icmp .ne 7, 3) := by decide +kernel
theorem dX9_even_47 : decode cX9_even 47 = .ok (.iconst 1, 1) := by decide +kernel
theorem dX9_even_48 : decode cX9_even 48 = .ok (.goto 4, 3) := by decide +kernel
theorem dX9_even_51 : decode cX9_even 51 = .ok (.iconst 0, 1) := by decide +kernel
theorem dX9_even_52 : decode cX9_even 52 = .ok (.istore_n 2, 1) := by decide +kernel
theorem dX9_even_53 : decode cX9_even 53 = .ok (.iinc 3 1, 3) := by decide +kernel
theorem dX9_even_56 : decode cX9_even 56 = .ok (.goto (-37), 3) := by decide +kernel
theorem dX9_even_59 : decode cX9_even 59 = .ok (.iload_n 2, 1) := by decide +kernel
theorem dX9_even_60 : decode cX9_even 60 = .ok (.ifCond .eq 7, 3) := by decide +kernel
theorem dX9_even_63 : decode cX9_even 63 = .ok (.iconst 1, 1) := by decide +kernel
theorem dX9_even_64 : decode cX9_even 64 = .ok (.goto 4, 3) := by decide +kernel
theorem dX9_even_67 : decode cX9_even 67 = .ok (.iconst 0, 1) := by decide +kernel
theorem dX9_even_68 : decode cX9_even 68 = .ok (.ireturn, 1) := by decide +kernel
theorem dX9_rooted_0 : decode cX9_rooted 0 = .ok (.iconst 0, 1) := by decide +kernel
theorem dX9_rooted_1 : decode cX9_rooted 1 = .ok (.istore_n 3, 1) := by decide +kernel
theorem dX9_rooted_2 : decode cX9_rooted 2 = .ok (.iconst 0, 1) := by decide +kernel
theorem dX9_rooted_3 : decode cX9_rooted 3 = .ok (.istore 4, 2) := by decide +kernel
theorem dX9_rooted_5 : decode cX9_rooted 5 = .ok (.iconst 0, 1) := by decide +kernel
theorem dX9_rooted_6 : decode cX9_rooted 6 = .ok (.istore 5, 2) := by decide +kernel
theorem dX9_rooted_8 : decode cX9_rooted 8 = .ok (.iload 5, 2) := by decide +kernel
theorem dX9_rooted_10 : decode cX9_rooted 10 = .ok (.aload_n 0, 1) := by decide +kernel
theorem dX9_rooted_11 : decode cX9_rooted 11 = .ok (.iload_n 1, 1) := by decide +kernel
theorem dX9_rooted_12 : decode cX9_rooted 12 = .ok (.invokevirtual 220, 3) := by decide +kernel
theorem dX9_rooted_15 : decode cX9_rooted 15 = .ok (.if_icmp .ge 63, 3) := by decide +kernel
theorem dX9_rooted_18 : decode cX9_rooted 18 = .ok (.aload_n 0, 1) := by decide +kernel
theorem dX9_rooted_19 : decode cX9_rooted 19 = .ok (.iload_n 1, 1) := by decide +kernel
theorem dX9_rooted_20 : decode cX9_rooted 20 = .ok (.iload 5, 2) := by decide +kernel
theorem dX9_rooted_22 : decode cX9_rooted 22 = .ok (.invokevirtual 212, 3) := by decide +kernel
theorem dX9_rooted_25 : decode cX9_rooted 25 = .ok (.istore 6, 2) := by decide +kernel
theorem dX9_rooted_27 : decode cX9_rooted 27 = .ok (.iload 6, 2) := by decide +kernel
theorem dX9_rooted_29 : decode cX9_rooted 29 = .ok (.invokestatic 154, 3) := by decide +kernel
theorem dX9_rooted_32 : decode cX9_rooted 32 = .ok (.iconst 1, 1) := by decide +kernel
theorem dX9_rooted_33 : decode cX9_rooted 33 = .ok (.if_icmp .ne 21, 3) := by decide +kernel
theorem dX9_rooted_36 : decode cX9_rooted 36 = .ok (.iload 4, 2) := by decide +kernel
theorem dX9_rooted_38 : decode cX9_rooted 38 = .ok (.iload_n 2, 1) := by decide +kernel
theorem dX9_rooted_39 : decode cX9_rooted 39 = .ok (.if_icmp .ne 15, 3) := by decide +kernel
theorem dX9_rooted_42 : decode cX9_rooted 42 = .ok (.lconst 1, 1) := by decide +kernel
theorem dX9_rooted_43 : decode cX9_rooted 43 = .ok (.iload 6, 2) := by decide +kernel
theorem dX9_rooted_45 : decode cX9_rooted 45 = .ok (.invokestatic 141, 3) := by decide +kernel
theorem dX9_rooted_48 : decode cX9_rooted 48 = .ok (.lshl, 1) := by decide +kernel
theorem dX9_rooted_49 : decode cX9_rooted 49 = .ok (.lconst 1, 1) := by decide +kernel
theorem dX9_rooted_50 : decode cX9_rooted 50 = .ok (.lsub, 1) := by decide +kernel
theorem dX9_rooted_51 : decode cX9_rooted 51 = .ok (.iload_n 3, 1) := by decide +kernel
theorem dX9_rooted_52 : decode cX9_rooted 52 = .ok (.lshl, 1) := by decide +kernel
theorem dX9_rooted_53 : decode cX9_rooted 53 = .ok (.lreturn, 1) := by decide +kernel
theorem dX9_rooted_54 : decode cX9_rooted 54 = .ok (.iload_n 3, 1) := by decide +kernel
theorem dX9_rooted_55 : decode cX9_rooted 55 = .ok (.iload 6, 2) := by decide +kernel
theorem dX9_rooted_57 : decode cX9_rooted 57 = .ok (.invokestatic 141, 3) := by decide +kernel
theorem dX9_rooted_60 : decode cX9_rooted 60 = .ok (.iadd, 1) := by decide +kernel
theorem dX9_rooted_61 : decode cX9_rooted 61 = .ok (.istore_n 3, 1) := by decide +kernel
theorem dX9_rooted_62 : decode cX9_rooted 62 = .ok (.iload 4, 2) := by decide +kernel
theorem dX9_rooted_64 : decode cX9_rooted 64 = .ok (.iload 6, 2) := by decide +kernel
theorem dX9_rooted_66 : decode cX9_rooted 66 = .ok (.invokestatic 154, 3) := by decide +kernel
theorem dX9_rooted_69 : decode cX9_rooted 69 = .ok (.iadd, 1) := by decide +kernel
theorem dX9_rooted_70 : decode cX9_rooted 70 = .ok (.istore 4, 2) := by decide +kernel
theorem dX9_rooted_72 : decode cX9_rooted 72 = .ok (.iinc 5 1, 3) := by decide +kernel
theorem dX9_rooted_75 : decode cX9_rooted 75 = .ok (.goto (-67), 3) := by decide +kernel
theorem dX9_rooted_78 : decode cX9_rooted 78 = .ok (.lconst 0, 1) := by decide +kernel
theorem dX9_rooted_79 : decode cX9_rooted 79 = .ok (.lreturn, 1) := by decide +kernel
theorem dX9_madeBy_0 : decode cX9_madeBy 0 = .ok (.aload_n 0, 1) := by decide +kernel
theorem dX9_madeBy_1 : decode cX9_madeBy 1 = .ok (.iload_n 1, 1) := by decide +kernel
theorem dX9_madeBy_2 : decode cX9_madeBy 2 = .ok (.aload_n 0, 1) := by decide +kernel
theorem dX9_madeBy_3 : decode cX9_madeBy 3 = .ok (.iload_n 1, 1) := by decide +kernel
theorem dX9_madeBy_4 : decode cX9_madeBy 4 = .ok (.invokevirtual 220, 3) := by decide +kernel
theorem dX9_madeBy_7 : decode cX9_madeBy 7 = .ok (.iconst 1, 1) := by decide +kernel
theorem dX9_madeBy_8 : decode cX9_madeBy 8 = .ok (.invokevirtual 223, 3) := by decide +kernel
theorem dX9_madeBy_11 : decode cX9_madeBy 11 = .ok (.ireturn, 1) := by decide +kernel
theorem dX9_roots_0 : decode cX9_roots 0 = .ok (.aload_n 0, 1) := by decide +kernel
theorem dX9_roots_1 : decode cX9_roots 1 = .ok (.iload_n 1, 1) := by decide +kernel
theorem dX9_roots_2 : decode cX9_roots 2 = .ok (.invokevirtual 215, 3) := by decide +kernel
theorem dX9_roots_5 : decode cX9_roots 5 = .ok (.ifCond .eq 20, 3) := by decide +kernel
theorem dX9_roots_8 : decode cX9_roots 8 = .ok (.iload_n 2, 1) := by decide +kernel
theorem dX9_roots_9 : decode cX9_roots 9 = .ok (.i2l, 1) := by decide +kernel
theorem dX9_roots_10 : decode cX9_roots 10 = .ok (.lconst 0, 1) := by decide +kernel
theorem dX9_roots_11 : decode cX9_roots 11 = .ok (.aload_n 0, 1) := by decide +kernel
theorem dX9_roots_12 : decode cX9_roots 12 = .ok (.iload_n 1, 1) := by decide +kernel
theorem dX9_roots_13 : decode cX9_roots 13 = .ok (.invokevirtual 239, 3) := by decide +kernel
theorem dX9_roots_16 : decode cX9_roots 16 = .ok (.iconst 1, 1) := by decide +kernel
theorem dX9_roots_17 : decode cX9_roots 17 = .ok (.isub, 1) := by decide +kernel
theorem dX9_roots_18 : decode cX9_roots 18 = .ok (.i2l, 1) := by decide +kernel
theorem dX9_roots_19 : decode cX9_roots 19 = .ok (.invokestatic 56, 3) := by decide +kernel
theorem dX9_roots_22 : decode cX9_roots 22 = .ok (.ifCond .ne 15, 3) := by decide +kernel
theorem dX9_roots_25 : decode cX9_roots 25 = .ok (.aload_n 0, 1) := by decide +kernel
theorem dX9_roots_26 : decode cX9_roots 26 = .ok (.bipush (-92), 2) := by decide +kernel
theorem dX9_roots_28 : decode cX9_roots 28 = .ok (.invokevirtual 60, 3) := by decide +kernel
theorem dX9_roots_31 : decode cX9_roots 31 = .ok (.i2l, 1) := by decide +kernel
theorem dX9_roots_32 : decode cX9_roots 32 = .ok (.ldc2_w 210, 3) := by decide +kernel
theorem dX9_roots_35 : decode cX9_roots 35 = .ok (.lsub, 1) := by decide +kernel
theorem dX9_roots_36 : decode cX9_roots 36 = .ok (.lreturn, 1) := by decide +kernel
theorem dX9_roots_37 : decode cX9_roots 37 = .ok (.aload_n 0, 1) := by decide +kernel
theorem dX9_roots_38 : decode cX9_roots 38 = .ok (.iload_n 1, 1) := by decide +kernel
theorem dX9_roots_39 : decode cX9_roots 39 = .ok (.iload_n 2, 1) := by decide +kernel
theorem dX9_roots_40 : decode cX9_roots 40 = .ok (.invokevirtual 242, 3) := by decide +kernel
theorem dX9_roots_43 : decode cX9_roots 43 = .ok (.lreturn, 1) := by decide +kernel
theorem dX9_origin_0 : decode cX9_origin 0 = .ok (.iload_n 1, 1) := by decide +kernel
theorem dX9_origin_1 : decode cX9_origin 1 = .ok (.i2l, 1) := by decide +kernel
theorem dX9_origin_2 : decode cX9_origin 2 = .ok (.lconst 0, 1) := by decide +kernel
theorem dX9_origin_3 : decode cX9_origin 3 = .ok (.aload_n 0, 1) := by decide +kernel
theorem dX9_origin_4 : decode cX9_origin 4 = .ok (.getfield 13, 3) := by decide +kernel
theorem dX9_origin_7 : decode cX9_origin 7 = .ok (.sipush 5023, 3) := by decide +kernel
theorem dX9_origin_10 : decode cX9_origin 10 = .ok (.iaload, 1) := by decide +kernel
theorem dX9_origin_11 : decode cX9_origin 11 = .ok (.iconst 1, 1) := by decide +kernel
theorem dX9_origin_12 : decode cX9_origin 12 = .ok (.isub, 1) := by decide +kernel
theorem dX9_origin_13 : decode cX9_origin 13 = .ok (.i2l, 1) := by decide +kernel
theorem dX9_origin_14 : decode cX9_origin 14 = .ok (.invokestatic 56, 3) := by decide +kernel
theorem dX9_origin_17 : decode cX9_origin 17 = .ok (.ifCond .ne 15, 3) := by decide +kernel
theorem dX9_origin_20 : decode cX9_origin 20 = .ok (.aload_n 0, 1) := by decide +kernel
theorem dX9_origin_21 : decode cX9_origin 21 = .ok (.bipush (-92), 2) := by decide +kernel
theorem dX9_origin_23 : decode cX9_origin 23 = .ok (.invokevirtual 60, 3) := by decide +kernel
theorem dX9_origin_26 : decode cX9_origin 26 = .ok (.i2l, 1) := by decide +kernel
theorem dX9_origin_27 : decode cX9_origin 27 = .ok (.ldc2_w 210, 3) := by decide +kernel
theorem dX9_origin_30 : decode cX9_origin 30 = .ok (.lsub, 1) := by decide +kernel
theorem dX9_origin_31 : decode cX9_origin 31 = .ok (.lreturn, 1) := by decide +kernel
theorem dX9_origin_32 : decode cX9_origin 32 = .ok (.lconst 1, 1) := by decide +kernel
theorem dX9_origin_33 : decode cX9_origin 33 = .ok (.iload_n 1, 1) := by decide +kernel
theorem dX9_origin_34 : decode cX9_origin 34 = .ok (.lshl, 1) := by decide +kernel
theorem dX9_origin_35 : decode cX9_origin 35 = .ok (.lstore_n 2, 1) := by decide +kernel
theorem dX9_origin_36 : decode cX9_origin 36 = .ok (.aload_n 0, 1) := by decide +kernel
theorem dX9_origin_37 : decode cX9_origin 37 = .ok (.getfield 13, 3) := by decide +kernel
theorem dX9_origin_40 : decode cX9_origin 40 = .ok (.sipush 5025, 3) := by decide +kernel
theorem dX9_origin_43 : decode cX9_origin 43 = .ok (.iaload, 1) := by decide +kernel
theorem dX9_origin_44 : decode cX9_origin 44 = .ok (.iconst 1, 1) := by decide +kernel
theorem dX9_origin_45 : decode cX9_origin 45 = .ok (.isub, 1) := by decide +kernel
theorem dX9_origin_46 : decode cX9_origin 46 = .ok (.istore 4, 2) := by decide +kernel
theorem dX9_origin_48 : decode cX9_origin 48 = .ok (.iload 4, 2) := by decide +kernel
theorem dX9_origin_50 : decode cX9_origin 50 = .ok (.ifCond .lt 92, 3) := by decide +kernel
theorem dX9_origin_53 : decode cX9_origin 53 = .ok (.aload_n 0, 1) := by decide +kernel
theorem dX9_origin_54 : decode cX9_origin 54 = .ok (.iload 4, 2) := by decide +kernel
theorem dX9_origin_56 : decode cX9_origin 56 = .ok (.invokevirtual 239, 3) := by decide +kernel
theorem dX9_origin_59 : decode cX9_origin 59 = .ok (.istore 5, 2) := by decide +kernel
theorem dX9_origin_61 : decode cX9_origin 61 = .ok (.lconst 0, 1) := by decide +kernel
theorem dX9_origin_62 : decode cX9_origin 62 = .ok (.lstore 6, 2) := by decide +kernel
theorem dX9_origin_64 : decode cX9_origin 64 = .ok (.iconst 0, 1) := by decide +kernel
theorem dX9_origin_65 : decode cX9_origin 65 = .ok (.istore 8, 2) := by decide +kernel
theorem dX9_origin_67 : decode cX9_origin 67 = .ok (.iload 8, 2) := by decide +kernel
theorem dX9_origin_69 : decode cX9_origin 69 = .ok (.iload 5, 2) := by decide +kernel
theorem dX9_origin_71 : decode cX9_origin 71 = .ok (.if_icmp .ge 62, 3) := by decide +kernel
theorem dX9_origin_74 : decode cX9_origin 74 = .ok (.aload_n 0, 1) := by decide +kernel
theorem dX9_origin_75 : decode cX9_origin 75 = .ok (.getfield 13, 3) := by decide +kernel
theorem dX9_origin_78 : decode cX9_origin 78 = .ok (.sipush 5021, 3) := by decide +kernel
theorem dX9_origin_81 : decode cX9_origin 81 = .ok (.iaload, 1) := by decide +kernel
theorem dX9_origin_82 : decode cX9_origin 82 = .ok (.ifCond .ne 13, 3) := by decide +kernel
theorem dX9_origin_85 : decode cX9_origin 85 = .ok (.iload 5, 2) := by decide +kernel
theorem dX9_origin_87 : decode cX9_origin 87 = .ok (.iconst 1, 1) := by decide +kernel
theorem dX9_origin_88 : decode cX9_origin 88 = .ok (.isub, 1) := by decide +kernel
theorem dX9_origin_89 : decode cX9_origin 89 = .ok (.iload 8, 2) := by decide +kernel
theorem dX9_origin_91 : decode cX9_origin 91 = .ok (.isub, 1) := by decide +kernel
theorem dX9_origin_92 : decode cX9_origin 92 = .ok (.goto 5, 3) := by decide +kernel
theorem dX9_origin_95 : decode cX9_origin 95 = .ok (.iload 8, 2) := by decide +kernel
theorem dX9_origin_97 : decode cX9_origin 97 = .ok (.istore 9, 2) := by decide +kernel
theorem dX9_origin_99 : decode cX9_origin 99 = .ok (.lload 6, 2) := by decide +kernel
theorem dX9_origin_101 : decode cX9_origin 101 = .ok (.lload_n 2, 1) := by decide +kernel
theorem dX9_origin_102 : decode cX9_origin 102 = .ok (.iload 9, 2) := by decide +kernel
theorem dX9_origin_104 : decode cX9_origin 104 = .ok (.lshr, 1) := by decide +kernel
theorem dX9_origin_105 : decode cX9_origin 105 = .ok (.lconst 1, 1) := by decide +kernel
theorem dX9_origin_106 : decode cX9_origin 106 = .ok (.land, 1) := by decide +kernel
theorem dX9_origin_107 : decode cX9_origin 107 = .ok (.lconst 1, 1) := by decide +kernel
theorem dX9_origin_108 : decode cX9_origin 108 = .ok (.lcmp, 1) := by decide +kernel
theorem dX9_origin_109 : decode cX9_origin 109 = .ok (.ifCond .ne 14, 3) := by decide +kernel
theorem dX9_origin_112 : decode cX9_origin 112 = .ok (.aload_n 0, 1) := by decide +kernel
theorem dX9_origin_113 : decode cX9_origin 113 = .ok (.iload 4, 2) := by decide +kernel
theorem dX9_origin_115 : decode cX9_origin 115 = .ok (.iload 8, 2) := by decide +kernel
theorem dX9_origin_117 : decode cX9_origin 117 = .ok (.invokevirtual 242, 3) := by decide +kernel
theorem dX9_origin_120 : decode cX9_origin 120 = .ok (.goto 4, 3) := by decide +kernel
theorem dX9_origin_123 : decode cX9_origin 123 = .ok (.lconst 0, 1) := by decide +kernel
theorem dX9_origin_124 : decode cX9_origin 124 = .ok (.lor, 1) := by decide +kernel
theorem dX9_origin_125 : decode cX9_origin 125 = .ok (.lstore 6, 2) := by decide +kernel
theorem dX9_origin_127 : decode cX9_origin 127 = .ok (.iinc 8 1, 3) := by decide +kernel
theorem dX9_origin_130 : decode cX9_origin 130 = .ok (.goto (-63), 3) := by decide +kernel
theorem dX9_origin_133 : decode cX9_origin 133 = .ok (.lload 6, 2) := by decide +kernel
theorem dX9_origin_135 : decode cX9_origin 135 = .ok (.lstore_n 2, 1) := by decide +kernel
theorem dX9_origin_136 : decode cX9_origin 136 = .ok (.iinc 4 (-1), 3) := by decide +kernel
theorem dX9_origin_139 : decode cX9_origin 139 = .ok (.goto (-91), 3) := by decide +kernel
theorem dX9_origin_142 : decode cX9_origin 142 = .ok (.lload_n 2, 1) := by decide +kernel
theorem dX9_origin_143 : decode cX9_origin 143 = .ok (.lreturn, 1) := by decide +kernel
theorem dX9_yarn_0 : decode cX9_yarn 0 = .ok (.lconst 0, 1) := by decide +kernel
theorem dX9_yarn_1 : decode cX9_yarn 1 = .ok (.lstore_n 1, 1) := by decide +kernel
theorem dX9_yarn_2 : decode cX9_yarn 2 = .ok (.iconst 0, 1) := by decide +kernel
theorem dX9_yarn_3 : decode cX9_yarn 3 = .ok (.istore_n 3, 1) := by decide +kernel
theorem dX9_yarn_4 : decode cX9_yarn 4 = .ok (.iload_n 3, 1) := by decide +kernel
theorem dX9_yarn_5 : decode cX9_yarn 5 = .ok (.aload_n 0, 1) := by decide +kernel
theorem dX9_yarn_6 : decode cX9_yarn 6 = .ok (.getfield 13, 3) := by decide +kernel
theorem dX9_yarn_9 : decode cX9_yarn 9 = .ok (.sipush 5025, 3) := by decide +kernel
theorem dX9_yarn_12 : decode cX9_yarn 12 = .ok (.iaload, 1) := by decide +kernel
theorem dX9_yarn_13 : decode cX9_yarn 13 = .ok (.if_icmp .ge 24, 3) := by decide +kernel
theorem dX9_yarn_16 : decode cX9_yarn 16 = .ok (.lload_n 1, 1) := by decide +kernel
theorem dX9_yarn_17 : decode cX9_yarn 17 = .ok (.aload_n 0, 1) := by decide +kernel
theorem dX9_yarn_18 : decode cX9_yarn 18 = .ok (.iload_n 3, 1) := by decide +kernel
theorem dX9_yarn_19 : decode cX9_yarn 19 = .ok (.aload_n 0, 1) := by decide +kernel
theorem dX9_yarn_20 : decode cX9_yarn 20 = .ok (.iload_n 3, 1) := by decide +kernel
theorem dX9_yarn_21 : decode cX9_yarn 21 = .ok (.invokevirtual 220, 3) := by decide +kernel
theorem dX9_yarn_24 : decode cX9_yarn 24 = .ok (.iconst 2, 1) := by decide +kernel
theorem dX9_yarn_25 : decode cX9_yarn 25 = .ok (.invokevirtual 223, 3) := by decide +kernel
theorem dX9_yarn_28 : decode cX9_yarn 28 = .ok (.i2l, 1) := by decide +kernel
theorem dX9_yarn_29 : decode cX9_yarn 29 = .ok (.ladd, 1) := by decide +kernel
theorem dX9_yarn_30 : decode cX9_yarn 30 = .ok (.lstore_n 1, 1) := by decide +kernel
theorem dX9_yarn_31 : decode cX9_yarn 31 = .ok (.iinc 3 1, 3) := by decide +kernel
theorem dX9_yarn_34 : decode cX9_yarn 34 = .ok (.goto (-30), 3) := by decide +kernel
theorem dX9_yarn_37 : decode cX9_yarn 37 = .ok (.lload_n 1, 1) := by decide +kernel
theorem dX9_yarn_38 : decode cX9_yarn 38 = .ok (.lreturn, 1) := by decide +kernel
theorem dX9_many_0 : decode cX9_many 0 = .ok (.iload_n 1, 1) := by decide +kernel
theorem dX9_many_1 : decode cX9_many 1 = .ok (.i2l, 1) := by decide +kernel
theorem dX9_many_2 : decode cX9_many 2 = .ok (.lconst 0, 1) := by decide +kernel
theorem dX9_many_3 : decode cX9_many 3 = .ok (.ldc2_w 246, 3) := by decide +kernel
theorem dX9_many_6 : decode cX9_many 6 = .ok (.invokestatic 56, 3) := by decide +kernel
theorem dX9_many_9 : decode cX9_many 9 = .ok (.ifCond .ne 10, 3) := by decide +kernel
theorem dX9_many_12 : decode cX9_many 12 = .ok (.aload_n 0, 1) := by decide +kernel
theorem dX9_many_13 : decode cX9_many 13 = .ok (.bipush (-92), 2) := by decide +kernel
theorem dX9_many_15 : decode cX9_many 15 = .ok (.invokevirtual 60, 3) := by decide +kernel
theorem dX9_many_18 : decode cX9_many 18 = .ok (.ireturn, 1) := by decide +kernel
theorem dX9_many_19 : decode cX9_many 19 = .ok (.iconst 0, 1) := by decide +kernel
theorem dX9_many_20 : decode cX9_many 20 = .ok (.istore_n 2, 1) := by decide +kernel
theorem dX9_many_21 : decode cX9_many 21 = .ok (.iconst 0, 1) := by decide +kernel
theorem dX9_many_22 : decode cX9_many 22 = .ok (.istore_n 3, 1) := by decide +kernel
theorem dX9_many_23 : decode cX9_many 23 = .ok (.iload_n 3, 1) := by decide +kernel
theorem dX9_many_24 : decode cX9_many 24 = .ok (.aload_n 0, 1) := by decide +kernel
theorem dX9_many_25 : decode cX9_many 25 = .ok (.getfield 13, 3) := by decide +kernel
theorem dX9_many_28 : decode cX9_many 28 = .ok (.sipush 5025, 3) := by decide +kernel
theorem dX9_many_31 : decode cX9_many 31 = .ok (.iaload, 1) := by decide +kernel
theorem dX9_many_32 : decode cX9_many 32 = .ok (.if_icmp .ge 50, 3) := by decide +kernel
theorem dX9_many_35 : decode cX9_many 35 = .ok (.iconst 0, 1) := by decide +kernel
theorem dX9_many_36 : decode cX9_many 36 = .ok (.istore 4, 2) := by decide +kernel
theorem dX9_many_38 : decode cX9_many 38 = .ok (.iload 4, 2) := by decide +kernel
theorem dX9_many_40 : decode cX9_many 40 = .ok (.aload_n 0, 1) := by decide +kernel
theorem dX9_many_41 : decode cX9_many 41 = .ok (.iload_n 3, 1) := by decide +kernel
theorem dX9_many_42 : decode cX9_many 42 = .ok (.invokevirtual 220, 3) := by decide +kernel
theorem dX9_many_45 : decode cX9_many 45 = .ok (.if_icmp .ge 31, 3) := by decide +kernel
theorem dX9_many_48 : decode cX9_many 48 = .ok (.iload_n 2, 1) := by decide +kernel
theorem dX9_many_49 : decode cX9_many 49 = .ok (.aload_n 0, 1) := by decide +kernel
theorem dX9_many_50 : decode cX9_many 50 = .ok (.iload_n 3, 1) := by decide +kernel
theorem dX9_many_51 : decode cX9_many 51 = .ok (.iload 4, 2) := by decide +kernel
theorem dX9_many_53 : decode cX9_many 53 = .ok (.invokevirtual 212, 3) := by decide +kernel
theorem dX9_many_56 : decode cX9_many 56 = .ok (.iload_n 1, 1) := by decide +kernel
theorem dX9_many_57 : decode cX9_many 57 = .ok (.invokestatic 248, 3) := by decide +kernel
theorem dX9_many_60 : decode cX9_many 60 = .ok (.ifCond .eq 7, 3) := by decide +kernel
theorem dX9_many_63 : decode cX9_many 63 = .ok (.iconst 1, 1) := by decide +kernel
theorem dX9_many_64 : decode cX9_many 64 = .ok (.goto 4, 3) := by decide +kernel
theorem dX9_many_67 : decode cX9_many 67 = .ok (.iconst 0, 1) := by decide +kernel
theorem dX9_many_68 : decode cX9_many 68 = .ok (.iadd, 1) := by decide +kernel
theorem dX9_many_69 : decode cX9_many 69 = .ok (.istore_n 2, 1) := by decide +kernel
theorem dX9_many_70 : decode cX9_many 70 = .ok (.iinc 4 1, 3) := by decide +kernel
theorem dX9_many_73 : decode cX9_many 73 = .ok (.goto (-35), 3) := by decide +kernel
theorem dX9_many_76 : decode cX9_many 76 = .ok (.iinc 3 1, 3) := by decide +kernel
theorem dX9_many_79 : decode cX9_many 79 = .ok (.goto (-56), 3) := by decide +kernel
theorem dX9_many_82 : decode cX9_many 82 = .ok (.iload_n 2, 1) := by decide +kernel
theorem dX9_many_83 : decode cX9_many 83 = .ok (.ireturn, 1) := by decide +kernel
theorem dX9_differ_0 : decode cX9_differ 0 = .ok (.aload_n 0, 1) := by decide +kernel
theorem dX9_differ_1 : decode cX9_differ 1 = .ok (.iload_n 1, 1) := by decide +kernel
theorem dX9_differ_2 : decode cX9_differ 2 = .ok (.invokevirtual 215, 3) := by decide +kernel
theorem dX9_differ_5 : decode cX9_differ 5 = .ok (.ifCond .eq 11, 3) := by decide +kernel
theorem dX9_differ_8 : decode cX9_differ 8 = .ok (.aload_n 0, 1) := by decide +kernel
theorem dX9_differ_9 : decode cX9_differ 9 = .ok (.iload_n 2, 1) := by decide +kernel
theorem dX9_differ_10 : decode cX9_differ 10 = .ok (.invokevirtual 215, 3) := by decide +kernel
theorem dX9_differ_13 : decode cX9_differ 13 = .ok (.ifCond .ne 10, 3) := by decide +kernel
theorem dX9_differ_16 : decode cX9_differ 16 = .ok (.aload_n 0, 1) := by decide +kernel
theorem dX9_differ_17 : decode cX9_differ 17 = .ok (.bipush (-92), 2) := by decide +kernel
theorem dX9_differ_19 : decode cX9_differ 19 = .ok (.invokevirtual 60, 3) := by decide +kernel
theorem dX9_differ_22 : decode cX9_differ 22 = .ok (.ireturn, 1) := by decide +kernel
theorem dX9_differ_23 : decode cX9_differ 23 = .ok (.aload_n 0, 1) := by decide +kernel
theorem dX9_differ_24 : decode cX9_differ 24 = .ok (.iload_n 1, 1) := by decide +kernel
theorem dX9_differ_25 : decode cX9_differ 25 = .ok (.invokevirtual 220, 3) := by decide +kernel
theorem dX9_differ_28 : decode cX9_differ 28 = .ok (.aload_n 0, 1) := by decide +kernel
theorem dX9_differ_29 : decode cX9_differ 29 = .ok (.iload_n 2, 1) := by decide +kernel
theorem dX9_differ_30 : decode cX9_differ 30 = .ok (.invokevirtual 220, 3) := by decide +kernel
theorem dX9_differ_33 : decode cX9_differ 33 = .ok (.invokestatic 103, 3) := by decide +kernel
theorem dX9_differ_36 : decode cX9_differ 36 = .ok (.istore_n 3, 1) := by decide +kernel
theorem dX9_differ_37 : decode cX9_differ 37 = .ok (.iconst 0, 1) := by decide +kernel
theorem dX9_differ_38 : decode cX9_differ 38 = .ok (.istore 4, 2) := by decide +kernel
theorem dX9_differ_40 : decode cX9_differ 40 = .ok (.iload 4, 2) := by decide +kernel
theorem dX9_differ_42 : decode cX9_differ 42 = .ok (.iload_n 3, 1) := by decide +kernel
theorem dX9_differ_43 : decode cX9_differ 43 = .ok (.if_icmp .ge 29, 3) := by decide +kernel
theorem dX9_differ_46 : decode cX9_differ 46 = .ok (.aload_n 0, 1) := by decide +kernel
theorem dX9_differ_47 : decode cX9_differ 47 = .ok (.iload_n 1, 1) := by decide +kernel
theorem dX9_differ_48 : decode cX9_differ 48 = .ok (.iload 4, 2) := by decide +kernel
theorem dX9_differ_50 : decode cX9_differ 50 = .ok (.invokevirtual 230, 3) := by decide +kernel
theorem dX9_differ_53 : decode cX9_differ 53 = .ok (.aload_n 0, 1) := by decide +kernel
theorem dX9_differ_54 : decode cX9_differ 54 = .ok (.iload_n 2, 1) := by decide +kernel
theorem dX9_differ_55 : decode cX9_differ 55 = .ok (.iload 4, 2) := by decide +kernel
theorem dX9_differ_57 : decode cX9_differ 57 = .ok (.invokevirtual 230, 3) := by decide +kernel
theorem dX9_differ_60 : decode cX9_differ 60 = .ok (.if_icmp .eq 6, 3) := by decide +kernel
theorem dX9_differ_63 : decode cX9_differ 63 = .ok (.iload 4, 2) := by decide +kernel
theorem dX9_differ_65 : decode cX9_differ 65 = .ok (.ireturn, 1) := by decide +kernel
theorem dX9_differ_66 : decode cX9_differ 66 = .ok (.iinc 4 1, 3) := by decide +kernel
theorem dX9_differ_69 : decode cX9_differ 69 = .ok (.goto (-29), 3) := by decide +kernel
theorem dX9_differ_72 : decode cX9_differ 72 = .ok (.iconst (-1), 1) := by decide +kernel
theorem dX9_differ_73 : decode cX9_differ 73 = .ok (.ireturn, 1) := by decide +kernel
theorem dX9_isShelf_0 : decode cX9_isShelf 0 = .ok (.iload_n 0, 1) := by decide +kernel
theorem dX9_isShelf_1 : decode cX9_isShelf 1 = .ok (.i2l, 1) := by decide +kernel
theorem dX9_isShelf_2 : decode cX9_isShelf 2 = .ok (.lconst 0, 1) := by decide +kernel
theorem dX9_isShelf_3 : decode cX9_isShelf 3 = .ok (.ldc2_w 252, 3) := by decide +kernel
theorem dX9_isShelf_6 : decode cX9_isShelf 6 = .ok (.invokestatic 56, 3) := by decide +kernel
theorem dX9_isShelf_9 : decode cX9_isShelf 9 = .ok (.ireturn, 1) := by decide +kernel
theorem dX9_amiss_0 : decode cX9_amiss 0 = .ok (.aload_n 0, 1) := by decide +kernel
theorem dX9_amiss_1 : decode cX9_amiss 1 = .ok (.getfield 37, 3) := by decide +kernel
theorem dX9_amiss_4 : decode cX9_amiss 4 = .ok (.iload_n 1, 1) := by decide +kernel
theorem dX9_amiss_5 : decode cX9_amiss 5 = .ok (.iaload, 1) := by decide +kernel
theorem dX9_amiss_6 : decode cX9_amiss 6 = .ok (.ifCond .ge 8, 3) := by decide +kernel
theorem dX9_amiss_9 : decode cX9_amiss 9 = .ok (.bipush (-94), 2) := by decide +kernel
theorem dX9_amiss_11 : decode cX9_amiss 11 = .ok (.goto 20, 3) := by decide +kernel
theorem dX9_amiss_14 : decode cX9_amiss 14 = .ok (.aload_n 0, 1) := by decide +kernel
theorem dX9_amiss_15 : decode cX9_amiss 15 = .ok (.getfield 37, 3) := by decide +kernel
theorem dX9_amiss_18 : decode cX9_amiss 18 = .ok (.iload_n 1, 1) := by decide +kernel
theorem dX9_amiss_19 : decode cX9_amiss 19 = .ok (.iaload, 1) := by decide +kernel
theorem dX9_amiss_20 : decode cX9_amiss 20 = .ok (.bipush 9, 2) := by decide +kernel
theorem dX9_amiss_22 : decode cX9_amiss 22 = .ok (.if_icmp .le 8, 3) := by decide +kernel
theorem dX9_amiss_25 : decode cX9_amiss 25 = .ok (.bipush (-93), 2) := by decide +kernel
theorem dX9_amiss_27 : decode cX9_amiss 27 = .ok (.goto 4, 3) := by decide +kernel
theorem dX9_amiss_30 : decode cX9_amiss 30 = .ok (.iconst 0, 1) := by decide +kernel
theorem dX9_amiss_31 : decode cX9_amiss 31 = .ok (.ireturn, 1) := by decide +kernel
theorem dX9_row_0 : decode cX9_row 0 = .ok (.iload_n 1, 1) := by decide +kernel
theorem dX9_row_1 : decode cX9_row 1 = .ok (.invokestatic 254, 3) := by decide +kernel
theorem dX9_row_4 : decode cX9_row 4 = .ok (.ifCond .eq 27, 3) := by decide +kernel
theorem dX9_row_7 : decode cX9_row 7 = .ok (.iload_n 2, 1) := by decide +kernel
theorem dX9_row_8 : decode cX9_row 8 = .ok (.i2l, 1) := by decide +kernel
theorem dX9_row_9 : decode cX9_row 9 = .ok (.lconst 0, 1) := by decide +kernel
theorem dX9_row_10 : decode cX9_row 10 = .ok (.ldc2_w 257, 3) := by decide +kernel
theorem dX9_row_13 : decode cX9_row 13 = .ok (.invokestatic 56, 3) := by decide +kernel
theorem dX9_row_16 : decode cX9_row 16 = .ok (.ifCond .eq 15, 3) := by decide +kernel
theorem dX9_row_19 : decode cX9_row 19 = .ok (.iload_n 3, 1) := by decide +kernel
theorem dX9_row_20 : decode cX9_row 20 = .ok (.i2l, 1) := by decide +kernel
theorem dX9_row_21 : decode cX9_row 21 = .ok (.lconst 0, 1) := by decide +kernel
theorem dX9_row_22 : decode cX9_row 22 = .ok (.ldc2_w 259, 3) := by decide +kernel
theorem dX9_row_25 : decode cX9_row 25 = .ok (.invokestatic 56, 3) := by decide +kernel
theorem dX9_row_28 : decode cX9_row 28 = .ok (.ifCond .ne 10, 3) := by decide +kernel
theorem dX9_row_31 : decode cX9_row 31 = .ok (.aload_n 0, 1) := by decide +kernel
theorem dX9_row_32 : decode cX9_row 32 = .ok (.bipush (-92), 2) := by decide +kernel
theorem dX9_row_34 : decode cX9_row 34 = .ok (.invokevirtual 60, 3) := by decide +kernel
theorem dX9_row_37 : decode cX9_row 37 = .ok (.ireturn, 1) := by decide +kernel
theorem dX9_row_38 : decode cX9_row 38 = .ok (.aload_n 0, 1) := by decide +kernel
theorem dX9_row_39 : decode cX9_row 39 = .ok (.getfield 37, 3) := by decide +kernel
theorem dX9_row_42 : decode cX9_row 42 = .ok (.iload_n 1, 1) := by decide +kernel
theorem dX9_row_43 : decode cX9_row 43 = .ok (.iload_n 2, 1) := by decide +kernel
theorem dX9_row_44 : decode cX9_row 44 = .ok (.iastore, 1) := by decide +kernel
theorem dX9_row_45 : decode cX9_row 45 = .ok (.aload_n 0, 1) := by decide +kernel
theorem dX9_row_46 : decode cX9_row 46 = .ok (.getfield 40, 3) := by decide +kernel
theorem dX9_row_49 : decode cX9_row 49 = .ok (.iload_n 1, 1) := by decide +kernel
theorem dX9_row_50 : decode cX9_row 50 = .ok (.iload_n 3, 1) := by decide +kernel
theorem dX9_row_51 : decode cX9_row 51 = .ok (.iastore, 1) := by decide +kernel
theorem dX9_row_52 : decode cX9_row 52 = .ok (.iconst 0, 1) := by decide +kernel
theorem dX9_row_53 : decode cX9_row 53 = .ok (.istore 4, 2) := by decide +kernel
theorem dX9_row_55 : decode cX9_row 55 = .ok (.iload 4, 2) := by decide +kernel
theorem dX9_row_57 : decode cX9_row 57 = .ok (.bipush 40, 2) := by decide +kernel
theorem dX9_row_59 : decode cX9_row 59 = .ok (.if_icmp .ge 22, 3) := by decide +kernel
theorem dX9_row_62 : decode cX9_row 62 = .ok (.aload_n 0, 1) := by decide +kernel
theorem dX9_row_63 : decode cX9_row 63 = .ok (.getfield 43, 3) := by decide +kernel
theorem dX9_row_66 : decode cX9_row 66 = .ok (.bipush 40, 2) := by decide +kernel
theorem dX9_row_68 : decode cX9_row 68 = .ok (.iload_n 1, 1) := by decide +kernel
theorem dX9_row_69 : decode cX9_row 69 = .ok (.imul, 1) := by decide +kernel
theorem dX9_row_70 : decode cX9_row 70 = .ok (.iload 4, 2) := by decide +kernel
theorem dX9_row_72 : decode cX9_row 72 = .ok (.iadd, 1) := by decide +kernel
theorem dX9_row_73 : decode cX9_row 73 = .ok (.lconst 0, 1) := by decide +kernel
theorem dX9_row_74 : decode cX9_row 74 = .ok (.lastore, 1) := by decide +kernel
theorem dX9_row_75 : decode cX9_row 75 = .ok (.iinc 4 1, 3) := by decide +kernel
theorem dX9_row_78 : decode cX9_row 78 = .ok (.goto (-23), 3) := by decide +kernel
theorem dX9_row_81 : decode cX9_row 81 = .ok (.iconst 1, 1) := by decide +kernel
theorem dX9_row_82 : decode cX9_row 82 = .ok (.ireturn, 1) := by decide +kernel
theorem dX9_set_0 : decode cX9_set 0 = .ok (.iload_n 1, 1) := by decide +kernel
theorem dX9_set_1 : decode cX9_set 1 = .ok (.invokestatic 254, 3) := by decide +kernel
theorem dX9_set_4 : decode cX9_set 4 = .ok (.ifCond .eq 11, 3) := by decide +kernel
theorem dX9_set_7 : decode cX9_set 7 = .ok (.aload_n 0, 1) := by decide +kernel
theorem dX9_set_8 : decode cX9_set 8 = .ok (.iload_n 1, 1) := by decide +kernel
theorem dX9_set_9 : decode cX9_set 9 = .ok (.invokevirtual 261, 3) := by decide +kernel
theorem dX9_set_12 : decode cX9_set 12 = .ok (.goto 5, 3) := by decide +kernel
theorem dX9_set_15 : decode cX9_set 15 = .ok (.bipush (-92), 2) := by decide +kernel
theorem dX9_set_17 : decode cX9_set 17 = .ok (.istore 5, 2) := by decide +kernel
theorem dX9_set_19 : decode cX9_set 19 = .ok (.iload 5, 2) := by decide +kernel
theorem dX9_set_21 : decode cX9_set 21 = .ok (.ifCond .ne 21, 3) := by decide +kernel
theorem dX9_set_24 : decode cX9_set 24 = .ok (.iload_n 2, 1) := by decide +kernel
theorem dX9_set_25 : decode cX9_set 25 = .ok (.i2l, 1) := by decide +kernel
theorem dX9_set_26 : decode cX9_set 26 = .ok (.lconst 0, 1) := by decide +kernel
theorem dX9_set_27 : decode cX9_set 27 = .ok (.aload_n 0, 1) := by decide +kernel
theorem dX9_set_28 : decode cX9_set 28 = .ok (.getfield 40, 3) := by decide +kernel
theorem dX9_set_31 : decode cX9_set 31 = .ok (.iload_n 1, 1) := by decide +kernel
theorem dX9_set_32 : decode cX9_set 32 = .ok (.iaload, 1) := by decide +kernel
theorem dX9_set_33 : decode cX9_set 33 = .ok (.iconst 1, 1) := by decide +kernel
theorem dX9_set_34 : decode cX9_set 34 = .ok (.isub, 1) := by decide +kernel
theorem dX9_set_35 : decode cX9_set 35 = .ok (.i2l, 1) := by decide +kernel
theorem dX9_set_36 : decode cX9_set 36 = .ok (.invokestatic 56, 3) := by decide +kernel
theorem dX9_set_39 : decode cX9_set 39 = .ok (.ifCond .ne 20, 3) := by decide +kernel
theorem dX9_set_42 : decode cX9_set 42 = .ok (.aload_n 0, 1) := by decide +kernel
theorem dX9_set_43 : decode cX9_set 43 = .ok (.iload 5, 2) := by decide +kernel
theorem dX9_set_45 : decode cX9_set 45 = .ok (.ifCond .eq 8, 3) := by decide +kernel
theorem dX9_set_48 : decode cX9_set 48 = .ok (.iload 5, 2) := by decide +kernel
theorem dX9_set_50 : decode cX9_set 50 = .ok (.goto 5, 3) := by decide +kernel
theorem dX9_set_53 : decode cX9_set 53 = .ok (.bipush (-92), 2) := by decide +kernel
theorem dX9_set_55 : decode cX9_set 55 = .ok (.invokevirtual 60, 3) := by decide +kernel
theorem dX9_set_58 : decode cX9_set 58 = .ok (.ireturn, 1) := by decide +kernel
theorem dX9_set_59 : decode cX9_set 59 = .ok (.aload_n 0, 1) := by decide +kernel
theorem dX9_set_60 : decode cX9_set 60 = .ok (.getfield 37, 3) := by decide +kernel
theorem dX9_set_63 : decode cX9_set 63 = .ok (.iload_n 1, 1) := by decide +kernel
theorem dX9_set_64 : decode cX9_set 64 = .ok (.iaload, 1) := by decide +kernel
theorem dX9_set_65 : decode cX9_set 65 = .ok (.istore 6, 2) := by decide +kernel
theorem dX9_set_67 : decode cX9_set 67 = .ok (.aload_n 0, 1) := by decide +kernel
theorem dX9_set_68 : decode cX9_set 68 = .ok (.getfield 43, 3) := by decide +kernel
theorem dX9_set_71 : decode cX9_set 71 = .ok (.bipush 40, 2) := by decide +kernel
theorem dX9_set_73 : decode cX9_set 73 = .ok (.iload_n 1, 1) := by decide +kernel
theorem dX9_set_74 : decode cX9_set 74 = .ok (.imul, 1) := by decide +kernel
theorem dX9_set_75 : decode cX9_set 75 = .ok (.iload_n 2, 1) := by decide +kernel
theorem dX9_set_76 : decode cX9_set 76 = .ok (.iadd, 1) := by decide +kernel
theorem dX9_set_77 : decode cX9_set 77 = .ok (.iload 6, 2) := by decide +kernel
theorem dX9_set_79 : decode cX9_set 79 = .ok (.ifCond .ne 10, 3) := by decide +kernel
theorem dX9_set_82 : decode cX9_set 82 = .ok (.lload_n 3, 1) := by decide +kernel
theorem dX9_set_83 : decode cX9_set 83 = .ok (.l2i, 1) := by decide +kernel
theorem dX9_set_84 : decode cX9_set 84 = .ok (.i2b, 1) := by decide +kernel
theorem dX9_set_85 : decode cX9_set 85 = .ok (.i2l, 1) := by decide +kernel
theorem dX9_set_86 : decode cX9_set 86 = .ok (.goto 49, 3) := by decide +kernel
theorem dX9_set_89 : decode cX9_set 89 = .ok (.iload 6, 2) := by decide +kernel
theorem dX9_set_91 : decode cX9_set 91 = .ok (.iconst 1, 1) := by decide +kernel
theorem dX9_set_92 : decode cX9_set 92 = .ok (.if_icmp .ne 10, 3) := by decide +kernel
theorem dX9_set_95 : decode cX9_set 95 = .ok (.lload_n 3, 1) := by decide +kernel
theorem dX9_set_96 : decode cX9_set 96 = .ok (.l2i, 1) := by decide +kernel
theorem dX9_set_97 : decode cX9_set 97 = .ok (.i2s, 1) := by decide +kernel
theorem dX9_set_98 : decode cX9_set 98 = .ok (.i2l, 1) := by decide +kernel
theorem dX9_set_99 : decode cX9_set 99 = .ok (.goto 36, 3) := by decide +kernel
theorem dX9_set_102 : decode cX9_set 102 = .ok (.iload 6, 2) := by decide +kernel
theorem dX9_set_104 : decode cX9_set 104 = .ok (.iconst 2, 1) := by decide +kernel
theorem dX9_set_105 : decode cX9_set 105 = .ok (.if_icmp .ne 9, 3) := by decide +kernel
theorem dX9_set_108 : decode cX9_set 108 = .ok (.lload_n 3, 1) := by decide +kernel
theorem dX9_set_109 : decode cX9_set 109 = .ok (.l2i, 1) := by decide +kernel
theorem dX9_set_110 : decode cX9_set 110 = .ok (.i2l, 1) := by decide +kernel
theorem dX9_set_111 : decode cX9_set 111 = .ok (.goto 24, 3) := by decide +kernel
theorem dX9_set_114 : decode cX9_set 114 = .ok (.iload 6, 2) := by decide +kernel
theorem dX9_set_116 : decode cX9_set 116 = .ok (.iconst 3, 1) := by decide +kernel
theorem dX9_set_117 : decode cX9_set 117 = .ok (.if_icmp .ne 7, 3) := by decide +kernel
theorem dX9_set_120 : decode cX9_set 120 = .ok (.lload_n 3, 1) := by decide +kernel
theorem dX9_set_121 : decode cX9_set 121 = .ok (.goto 14, 3) := by decide +kernel
theorem dX9_set_124 : decode cX9_set 124 = .ok (.lload_n 3, 1) := by decide +kernel
theorem dX9_set_125 : decode cX9_set 125 = .ok (.lconst 0, 1) := by decide +kernel
theorem dX9_set_126 : decode cX9_set 126 = .ok (.lcmp, 1) := by decide +kernel
theorem dX9_set_127 : decode cX9_set 127 = .ok (.ifCond .eq 7, 3) := by decide +kernel
theorem dX9_set_130 : decode cX9_set 130 = .ok (.lconst 1, 1) := by decide +kernel
theorem dX9_set_131 : decode cX9_set 131 = .ok (.goto 4, 3) := by decide +kernel
theorem dX9_set_134 : decode cX9_set 134 = .ok (.lconst 0, 1) := by decide +kernel
theorem dX9_set_135 : decode cX9_set 135 = .ok (.lastore, 1) := by decide +kernel
theorem dX9_set_136 : decode cX9_set 136 = .ok (.iconst 1, 1) := by decide +kernel
theorem dX9_set_137 : decode cX9_set 137 = .ok (.ireturn, 1) := by decide +kernel
theorem dX9_copy_0 : decode cX9_copy 0 = .ok (.iload_n 1, 1) := by decide +kernel
theorem dX9_copy_1 : decode cX9_copy 1 = .ok (.invokestatic 254, 3) := by decide +kernel
theorem dX9_copy_4 : decode cX9_copy 4 = .ok (.ifCond .eq 10, 3) := by decide +kernel
theorem dX9_copy_7 : decode cX9_copy 7 = .ok (.iload_n 2, 1) := by decide +kernel
theorem dX9_copy_8 : decode cX9_copy 8 = .ok (.invokestatic 254, 3) := by decide +kernel
theorem dX9_copy_11 : decode cX9_copy 11 = .ok (.ifCond .ne 10, 3) := by decide +kernel
theorem dX9_copy_14 : decode cX9_copy 14 = .ok (.aload_n 0, 1) := by decide +kernel
theorem dX9_copy_15 : decode cX9_copy 15 = .ok (.bipush (-92), 2) := by decide +kernel
theorem dX9_copy_17 : decode cX9_copy 17 = .ok (.invokevirtual 60, 3) := by decide +kernel
theorem dX9_copy_20 : decode cX9_copy 20 = .ok (.ireturn, 1) := by decide +kernel
theorem dX9_copy_21 : decode cX9_copy 21 = .ok (.aload_n 0, 1) := by decide +kernel
theorem dX9_copy_22 : decode cX9_copy 22 = .ok (.iload_n 1, 1) := by decide +kernel
theorem dX9_copy_23 : decode cX9_copy 23 = .ok (.invokevirtual 261, 3) := by decide +kernel
theorem dX9_copy_26 : decode cX9_copy 26 = .ok (.istore 6, 2) := by decide +kernel
theorem dX9_copy_28 : decode cX9_copy 28 = .ok (.aload_n 0, 1) := by decide +kernel
theorem dX9_copy_29 : decode cX9_copy 29 = .ok (.iload_n 2, 1) := by decide +kernel
theorem dX9_copy_30 : decode cX9_copy 30 = .ok (.invokevirtual 261, 3) := by decide +kernel
theorem dX9_copy_33 : decode cX9_copy 33 = .ok (.istore 7, 2) := by decide +kernel
theorem dX9_copy_35 : decode cX9_copy 35 = .ok (.iload 6, 2) := by decide +kernel
theorem dX9_copy_37 : decode cX9_copy 37 = .ok (.bipush (-93), 2) := by decide +kernel
theorem dX9_copy_39 : decode cX9_copy 39 = .ok (.if_icmp .eq 35, 3) := by decide +kernel
theorem dX9_copy_42 : decode cX9_copy 42 = .ok (.iload 7, 2) := by decide +kernel
theorem dX9_copy_44 : decode cX9_copy 44 = .ok (.bipush (-93), 2) := by decide +kernel
theorem dX9_copy_46 : decode cX9_copy 46 = .ok (.if_icmp .eq 28, 3) := by decide +kernel
theorem dX9_copy_49 : decode cX9_copy 49 = .ok (.iload 6, 2) := by decide +kernel
theorem dX9_copy_51 : decode cX9_copy 51 = .ok (.ifCond .ne 30, 3) := by decide +kernel
theorem dX9_copy_54 : decode cX9_copy 54 = .ok (.iload 7, 2) := by decide +kernel
theorem dX9_copy_56 : decode cX9_copy 56 = .ok (.ifCond .ne 25, 3) := by decide +kernel
theorem dX9_copy_59 : decode cX9_copy 59 = .ok (.aload_n 0, 1) := by decide +kernel
theorem dX9_copy_60 : decode cX9_copy 60 = .ok (.getfield 37, 3) := by decide +kernel
theorem dX9_copy_63 : decode cX9_copy 63 = .ok (.iload_n 1, 1) := by decide +kernel
theorem dX9_copy_64 : decode cX9_copy 64 = .ok (.iaload, 1) := by decide +kernel
theorem dX9_copy_65 : decode cX9_copy 65 = .ok (.aload_n 0, 1) := by decide +kernel
theorem dX9_copy_66 : decode cX9_copy 66 = .ok (.getfield 37, 3) := by decide +kernel
theorem dX9_copy_69 : decode cX9_copy 69 = .ok (.iload_n 2, 1) := by decide +kernel
theorem dX9_copy_70 : decode cX9_copy 70 = .ok (.iaload, 1) := by decide +kernel
theorem dX9_copy_71 : decode cX9_copy 71 = .ok (.if_icmp .eq 10, 3) := by decide +kernel
theorem dX9_copy_74 : decode cX9_copy 74 = .ok (.aload_n 0, 1) := by decide +kernel
theorem dX9_copy_75 : decode cX9_copy 75 = .ok (.bipush (-93), 2) := by decide +kernel
theorem dX9_copy_77 : decode cX9_copy 77 = .ok (.invokevirtual 60, 3) := by decide +kernel
theorem dX9_copy_80 : decode cX9_copy 80 = .ok (.ireturn, 1) := by decide +kernel
theorem dX9_copy_81 : decode cX9_copy 81 = .ok (.iload 6, 2) := by decide +kernel
theorem dX9_copy_83 : decode cX9_copy 83 = .ok (.ifCond .ne 8, 3) := by decide +kernel
theorem dX9_copy_86 : decode cX9_copy 86 = .ok (.iload 7, 2) := by decide +kernel
theorem dX9_copy_88 : decode cX9_copy 88 = .ok (.ifCond .eq 10, 3) := by decide +kernel
theorem dX9_copy_91 : decode cX9_copy 91 = .ok (.aload_n 0, 1) := by decide +kernel
theorem dX9_copy_92 : decode cX9_copy 92 = .ok (.bipush (-94), 2) := by decide +kernel
theorem dX9_copy_94 : decode cX9_copy 94 = .ok (.invokevirtual 60, 3) := by decide +kernel
theorem dX9_copy_97 : decode cX9_copy 97 = .ok (.ireturn, 1) := by decide +kernel
theorem dX9_copy_98 : decode cX9_copy 98 = .ok (.iload 5, 2) := by decide +kernel
theorem dX9_copy_100 : decode cX9_copy 100 = .ok (.ifCond .lt 39, 3) := by decide +kernel
theorem dX9_copy_103 : decode cX9_copy 103 = .ok (.iload_n 3, 1) := by decide +kernel
theorem dX9_copy_104 : decode cX9_copy 104 = .ok (.ifCond .lt 35, 3) := by decide +kernel
theorem dX9_copy_107 : decode cX9_copy 107 = .ok (.iload 4, 2) := by decide +kernel
theorem dX9_copy_109 : decode cX9_copy 109 = .ok (.ifCond .lt 30, 3) := by decide +kernel
theorem dX9_copy_112 : decode cX9_copy 112 = .ok (.iload 5, 2) := by decide +kernel
theorem dX9_copy_114 : decode cX9_copy 114 = .ok (.aload_n 0, 1) := by decide +kernel
theorem dX9_copy_115 : decode cX9_copy 115 = .ok (.getfield 40, 3) := by decide +kernel
theorem dX9_copy_118 : decode cX9_copy 118 = .ok (.iload_n 1, 1) := by decide +kernel
theorem dX9_copy_119 : decode cX9_copy 119 = .ok (.iaload, 1) := by decide +kernel
theorem dX9_copy_120 : decode cX9_copy 120 = .ok (.iload_n 3, 1) := by decide +kernel
theorem dX9_copy_121 : decode cX9_copy 121 = .ok (.isub, 1) := by decide +kernel
theorem dX9_copy_122 : decode cX9_copy 122 = .ok (.if_icmp .gt 17, 3) := by decide +kernel
theorem dX9_copy_125 : decode cX9_copy 125 = .ok (.iload 5, 2) := by decide +kernel
theorem dX9_copy_127 : decode cX9_copy 127 = .ok (.aload_n 0, 1) := by decide +kernel
theorem dX9_copy_128 : decode cX9_copy 128 = .ok (.getfield 40, 3) := by decide +kernel
theorem dX9_copy_131 : decode cX9_copy 131 = .ok (.iload_n 2, 1) := by decide +kernel
theorem dX9_copy_132 : decode cX9_copy 132 = .ok (.iaload, 1) := by decide +kernel
theorem dX9_copy_133 : decode cX9_copy 133 = .ok (.iload 4, 2) := by decide +kernel
theorem dX9_copy_135 : decode cX9_copy 135 = .ok (.isub, 1) := by decide +kernel
theorem dX9_copy_136 : decode cX9_copy 136 = .ok (.if_icmp .le 10, 3) := by decide +kernel
theorem dX9_copy_139 : decode cX9_copy 139 = .ok (.aload_n 0, 1) := by decide +kernel
theorem dX9_copy_140 : decode cX9_copy 140 = .ok (.bipush (-92), 2) := by decide +kernel
theorem dX9_copy_142 : decode cX9_copy 142 = .ok (.invokevirtual 60, 3) := by decide +kernel
theorem dX9_copy_145 : decode cX9_copy 145 = .ok (.ireturn, 1) := by decide +kernel
theorem dX9_copy_146 : decode cX9_copy 146 = .ok (.iconst 0, 1) := by decide +kernel
theorem dX9_copy_147 : decode cX9_copy 147 = .ok (.istore 8, 2) := by decide +kernel
theorem dX9_copy_149 : decode cX9_copy 149 = .ok (.iload 8, 2) := by decide +kernel
theorem dX9_copy_151 : decode cX9_copy 151 = .ok (.iload 5, 2) := by decide +kernel
theorem dX9_copy_153 : decode cX9_copy 153 = .ok (.if_icmp .ge 30, 3) := by decide +kernel
theorem dX9_copy_156 : decode cX9_copy 156 = .ok (.aload_n 0, 1) := by decide +kernel
theorem dX9_copy_157 : decode cX9_copy 157 = .ok (.getfield 47, 3) := by decide +kernel
theorem dX9_copy_160 : decode cX9_copy 160 = .ok (.iload 8, 2) := by decide +kernel
theorem dX9_copy_162 : decode cX9_copy 162 = .ok (.aload_n 0, 1) := by decide +kernel
theorem dX9_copy_163 : decode cX9_copy 163 = .ok (.getfield 43, 3) := by decide +kernel
theorem dX9_copy_166 : decode cX9_copy 166 = .ok (.bipush 40, 2) := by decide +kernel
theorem dX9_copy_168 : decode cX9_copy 168 = .ok (.iload_n 1, 1) := by decide +kernel
theorem dX9_copy_169 : decode cX9_copy 169 = .ok (.imul, 1) := by decide +kernel
theorem dX9_copy_170 : decode cX9_copy 170 = .ok (.iload_n 3, 1) := by decide +kernel
theorem dX9_copy_171 : decode cX9_copy 171 = .ok (.iadd, 1) := by decide +kernel
theorem dX9_copy_172 : decode cX9_copy 172 = .ok (.iload 8, 2) := by decide +kernel
theorem dX9_copy_174 : decode cX9_copy 174 = .ok (.iadd, 1) := by decide +kernel
theorem dX9_copy_175 : decode cX9_copy 175 = .ok (.laload, 1) := by decide +kernel
theorem dX9_copy_176 : decode cX9_copy 176 = .ok (.lastore, 1) := by decide +kernel
theorem dX9_copy_177 : decode cX9_copy 177 = .ok (.iinc 8 1, 3) := by decide +kernel
theorem dX9_copy_180 : decode cX9_copy 180 = .ok (.goto (-31), 3) := by decide +kernel
theorem dX9_copy_183 : decode cX9_copy 183 = .ok (.iconst 0, 1) := by decide +kernel
theorem dX9_copy_184 : decode cX9_copy 184 = .ok (.istore 8, 2) := by decide +kernel
theorem dX9_copy_186 : decode cX9_copy 186 = .ok (.iload 8, 2) := by decide +kernel
theorem dX9_copy_188 : decode cX9_copy 188 = .ok (.iload 5, 2) := by decide +kernel
theorem dX9_copy_190 : decode cX9_copy 190 = .ok (.if_icmp .ge 31, 3) := by decide +kernel
theorem dX9_copy_193 : decode cX9_copy 193 = .ok (.aload_n 0, 1) := by decide +kernel
theorem dX9_copy_194 : decode cX9_copy 194 = .ok (.getfield 43, 3) := by decide +kernel
theorem dX9_copy_197 : decode cX9_copy 197 = .ok (.bipush 40, 2) := by decide +kernel
theorem dX9_copy_199 : decode cX9_copy 199 = .ok (.iload_n 2, 1) := by decide +kernel
theorem dX9_copy_200 : decode cX9_copy 200 = .ok (.imul, 1) := by decide +kernel
theorem dX9_copy_201 : decode cX9_copy 201 = .ok (.iload 4, 2) := by decide +kernel
theorem dX9_copy_203 : decode cX9_copy 203 = .ok (.iadd, 1) := by decide +kernel
theorem dX9_copy_204 : decode cX9_copy 204 = .ok (.iload 8, 2) := by decide +kernel
theorem dX9_copy_206 : decode cX9_copy 206 = .ok (.iadd, 1) := by decide +kernel
theorem dX9_copy_207 : decode cX9_copy 207 = .ok (.aload_n 0, 1) := by decide +kernel
theorem dX9_copy_208 : decode cX9_copy 208 = .ok (.getfield 47, 3) := by decide +kernel
theorem dX9_copy_211 : decode cX9_copy 211 = .ok (.iload 8, 2) := by decide +kernel
theorem dX9_copy_213 : decode cX9_copy 213 = .ok (.laload, 1) := by decide +kernel
theorem dX9_copy_214 : decode cX9_copy 214 = .ok (.lastore, 1) := by decide +kernel
theorem dX9_copy_215 : decode cX9_copy 215 = .ok (.iinc 8 1, 3) := by decide +kernel
theorem dX9_copy_218 : decode cX9_copy 218 = .ok (.goto (-32), 3) := by decide +kernel
theorem dX9_copy_221 : decode cX9_copy 221 = .ok (.iload 5, 2) := by decide +kernel
theorem dX9_copy_223 : decode cX9_copy 223 = .ok (.ireturn, 1) := by decide +kernel
theorem dX9_element_0 : decode cX9_element 0 = .ok (.iload_n 1, 1) := by decide +kernel
theorem dX9_element_1 : decode cX9_element 1 = .ok (.invokestatic 254, 3) := by decide +kernel
theorem dX9_element_4 : decode cX9_element 4 = .ok (.ifCond .eq 43, 3) := by decide +kernel
theorem dX9_element_7 : decode cX9_element 7 = .ok (.aload_n 0, 1) := by decide +kernel
theorem dX9_element_8 : decode cX9_element 8 = .ok (.iload_n 1, 1) := by decide +kernel
theorem dX9_element_9 : decode cX9_element 9 = .ok (.invokevirtual 261, 3) := by decide +kernel
theorem dX9_element_12 : decode cX9_element 12 = .ok (.ifCond .ne 35, 3) := by decide +kernel
theorem dX9_element_15 : decode cX9_element 15 = .ok (.iload_n 2, 1) := by decide +kernel
theorem dX9_element_16 : decode cX9_element 16 = .ok (.i2l, 1) := by decide +kernel
theorem dX9_element_17 : decode cX9_element 17 = .ok (.lconst 0, 1) := by decide +kernel
theorem dX9_element_18 : decode cX9_element 18 = .ok (.aload_n 0, 1) := by decide +kernel
theorem dX9_element_19 : decode cX9_element 19 = .ok (.getfield 40, 3) := by decide +kernel
theorem dX9_element_22 : decode cX9_element 22 = .ok (.iload_n 1, 1) := by decide +kernel
theorem dX9_element_23 : decode cX9_element 23 = .ok (.iaload, 1) := by decide +kernel
theorem dX9_element_24 : decode cX9_element 24 = .ok (.iconst 1, 1) := by decide +kernel
theorem dX9_element_25 : decode cX9_element 25 = .ok (.isub, 1) := by decide +kernel
theorem dX9_element_26 : decode cX9_element 26 = .ok (.i2l, 1) := by decide +kernel
theorem dX9_element_27 : decode cX9_element 27 = .ok (.invokestatic 56, 3) := by decide +kernel
theorem dX9_element_30 : decode cX9_element 30 = .ok (.ifCond .eq 17, 3) := by decide +kernel
theorem dX9_element_33 : decode cX9_element 33 = .ok (.aload_n 0, 1) := by decide +kernel
theorem dX9_element_34 : decode cX9_element 34 = .ok (.getfield 43, 3) := by decide +kernel
theorem dX9_element_37 : decode cX9_element 37 = .ok (.bipush 40, 2) := by decide +kernel
theorem dX9_element_39 : decode cX9_element 39 = .ok (.iload_n 1, 1) := by decide +kernel
theorem dX9_element_40 : decode cX9_element 40 = .ok (.imul, 1) := by decide +kernel
theorem dX9_element_41 : decode cX9_element 41 = .ok (.iload_n 2, 1) := by decide +kernel
theorem dX9_element_42 : decode cX9_element 42 = .ok (.iadd, 1) := by decide +kernel
theorem dX9_element_43 : decode cX9_element 43 = .ok (.laload, 1) := by decide +kernel
theorem dX9_element_44 : decode cX9_element 44 = .ok (.goto 4, 3) := by decide +kernel
theorem dX9_element_47 : decode cX9_element 47 = .ok (.lconst 0, 1) := by decide +kernel
theorem dX9_element_48 : decode cX9_element 48 = .ok (.lreturn, 1) := by decide +kernel
theorem dX9_holds_0 : decode cX9_holds 0 = .ok (.iload_n 1, 1) := by decide +kernel
theorem dX9_holds_1 : decode cX9_holds 1 = .ok (.invokestatic 254, 3) := by decide +kernel
theorem dX9_holds_4 : decode cX9_holds 4 = .ok (.ifCond .eq 12, 3) := by decide +kernel
theorem dX9_holds_7 : decode cX9_holds 7 = .ok (.aload_n 0, 1) := by decide +kernel
theorem dX9_holds_8 : decode cX9_holds 8 = .ok (.getfield 37, 3) := by decide +kernel
theorem dX9_holds_11 : decode cX9_holds 11 = .ok (.iload_n 1, 1) := by decide +kernel
theorem dX9_holds_12 : decode cX9_holds 12 = .ok (.iaload, 1) := by decide +kernel
theorem dX9_holds_13 : decode cX9_holds 13 = .ok (.goto 4, 3) := by decide +kernel
theorem dX9_holds_16 : decode cX9_holds 16 = .ok (.iconst (-1), 1) := by decide +kernel
theorem dX9_holds_17 : decode cX9_holds 17 = .ok (.ireturn, 1) := by decide +kernel
theorem dX9_show_0 : decode cX9_show 0 = .ok (.iload_n 1, 1) := by decide +kernel
theorem dX9_show_1 : decode cX9_show 1 = .ok (.invokestatic 254, 3) := by decide +kernel
theorem dX9_show_4 : decode cX9_show 4 = .ok (.ifCond .eq 33, 3) := by decide +kernel
theorem dX9_show_7 : decode cX9_show 7 = .ok (.iload_n 2, 1) := by decide +kernel
theorem dX9_show_8 : decode cX9_show 8 = .ok (.iconst (-1), 1) := by decide +kernel
theorem dX9_show_9 : decode cX9_show 9 = .ok (.if_icmp .eq 35, 3) := by decide +kernel
theorem dX9_show_12 : decode cX9_show 12 = .ok (.aload_n 0, 1) := by decide +kernel
theorem dX9_show_13 : decode cX9_show 13 = .ok (.iload_n 2, 1) := by decide +kernel
theorem dX9_show_14 : decode cX9_show 14 = .ok (.invokevirtual 215, 3) := by decide +kernel
theorem dX9_show_17 : decode cX9_show 17 = .ok (.ifCond .eq 20, 3) := by decide +kernel
theorem dX9_show_20 : decode cX9_show 20 = .ok (.iload_n 3, 1) := by decide +kernel
theorem dX9_show_21 : decode cX9_show 21 = .ok (.i2l, 1) := by decide +kernel
theorem dX9_show_22 : decode cX9_show 22 = .ok (.lconst 0, 1) := by decide +kernel
theorem dX9_show_23 : decode cX9_show 23 = .ok (.aload_n 0, 1) := by decide +kernel
theorem dX9_show_24 : decode cX9_show 24 = .ok (.iload_n 2, 1) := by decide +kernel
theorem dX9_show_25 : decode cX9_show 25 = .ok (.invokevirtual 220, 3) := by decide +kernel
theorem dX9_show_28 : decode cX9_show 28 = .ok (.iconst 1, 1) := by decide +kernel
theorem dX9_show_29 : decode cX9_show 29 = .ok (.isub, 1) := by decide +kernel
theorem dX9_show_30 : decode cX9_show 30 = .ok (.i2l, 1) := by decide +kernel
theorem dX9_show_31 : decode cX9_show 31 = .ok (.invokestatic 56, 3) := by decide +kernel
theorem dX9_show_34 : decode cX9_show 34 = .ok (.ifCond .ne 10, 3) := by decide +kernel
theorem dX9_show_37 : decode cX9_show 37 = .ok (.aload_n 0, 1) := by decide +kernel
theorem dX9_show_38 : decode cX9_show 38 = .ok (.bipush (-92), 2) := by decide +kernel
theorem dX9_show_40 : decode cX9_show 40 = .ok (.invokevirtual 60, 3) := by decide +kernel
theorem dX9_show_43 : decode cX9_show 43 = .ok (.ireturn, 1) := by decide +kernel
theorem dX9_show_44 : decode cX9_show 44 = .ok (.aload_n 0, 1) := by decide +kernel
theorem dX9_show_45 : decode cX9_show 45 = .ok (.getfield 37, 3) := by decide +kernel
theorem dX9_show_48 : decode cX9_show 48 = .ok (.iload_n 1, 1) := by decide +kernel
theorem dX9_show_49 : decode cX9_show 49 = .ok (.iload_n 2, 1) := by decide +kernel
theorem dX9_show_50 : decode cX9_show 50 = .ok (.iconst (-1), 1) := by decide +kernel
theorem dX9_show_51 : decode cX9_show 51 = .ok (.if_icmp .ne 7, 3) := by decide +kernel
theorem dX9_show_54 : decode cX9_show 54 = .ok (.iconst (-1), 1) := by decide +kernel
theorem dX9_show_55 : decode cX9_show 55 = .ok (.goto 12, 3) := by decide +kernel
theorem dX9_show_58 : decode cX9_show 58 = .ok (.bipush 10, 2) := by decide +kernel
theorem dX9_show_60 : decode cX9_show 60 = .ok (.aload_n 0, 1) := by decide +kernel
theorem dX9_show_61 : decode cX9_show 61 = .ok (.iload_n 2, 1) := by decide +kernel
theorem dX9_show_62 : decode cX9_show 62 = .ok (.iload_n 3, 1) := by decide +kernel
theorem dX9_show_63 : decode cX9_show 63 = .ok (.invokevirtual 212, 3) := by decide +kernel
theorem dX9_show_66 : decode cX9_show 66 = .ok (.iadd, 1) := by decide +kernel
theorem dX9_show_67 : decode cX9_show 67 = .ok (.iastore, 1) := by decide +kernel
theorem dX9_show_68 : decode cX9_show 68 = .ok (.iconst 1, 1) := by decide +kernel
theorem dX9_show_69 : decode cX9_show 69 = .ok (.ireturn, 1) := by decide +kernel
theorem dX9_says_0 : decode cX9_says 0 = .ok (.iload_n 1, 1) := by decide +kernel
theorem dX9_says_1 : decode cX9_says 1 = .ok (.invokestatic 254, 3) := by decide +kernel
theorem dX9_says_4 : decode cX9_says 4 = .ok (.ifCond .eq 15, 3) := by decide +kernel
theorem dX9_says_7 : decode cX9_says 7 = .ok (.iload_n 2, 1) := by decide +kernel
theorem dX9_says_8 : decode cX9_says 8 = .ok (.i2l, 1) := by decide +kernel
theorem dX9_says_9 : decode cX9_says 9 = .ok (.lconst 0, 1) := by decide +kernel
theorem dX9_says_10 : decode cX9_says 10 = .ok (.ldc2_w 246, 3) := by decide +kernel
theorem dX9_says_13 : decode cX9_says 13 = .ok (.invokestatic 56, 3) := by decide +kernel
theorem dX9_says_16 : decode cX9_says 16 = .ok (.ifCond .ne 10, 3) := by decide +kernel
theorem dX9_says_19 : decode cX9_says 19 = .ok (.aload_n 0, 1) := by decide +kernel
theorem dX9_says_20 : decode cX9_says 20 = .ok (.bipush (-92), 2) := by decide +kernel
theorem dX9_says_22 : decode cX9_says 22 = .ok (.invokevirtual 60, 3) := by decide +kernel
theorem dX9_says_25 : decode cX9_says 25 = .ok (.ireturn, 1) := by decide +kernel
theorem dX9_says_26 : decode cX9_says 26 = .ok (.aload_n 0, 1) := by decide +kernel
theorem dX9_says_27 : decode cX9_says 27 = .ok (.getfield 37, 3) := by decide +kernel
theorem dX9_says_30 : decode cX9_says 30 = .ok (.iload_n 1, 1) := by decide +kernel
theorem dX9_says_31 : decode cX9_says 31 = .ok (.iaload, 1) := by decide +kernel
theorem dX9_says_32 : decode cX9_says 32 = .ok (.ifCond .ge 10, 3) := by decide +kernel
theorem dX9_says_35 : decode cX9_says 35 = .ok (.aload_n 0, 1) := by decide +kernel
theorem dX9_says_36 : decode cX9_says 36 = .ok (.bipush (-94), 2) := by decide +kernel
theorem dX9_says_38 : decode cX9_says 38 = .ok (.invokevirtual 60, 3) := by decide +kernel
theorem dX9_says_41 : decode cX9_says 41 = .ok (.ireturn, 1) := by decide +kernel
theorem dX9_says_42 : decode cX9_says 42 = .ok (.aload_n 0, 1) := by decide +kernel
theorem dX9_says_43 : decode cX9_says 43 = .ok (.getfield 37, 3) := by decide +kernel
theorem dX9_says_46 : decode cX9_says 46 = .ok (.iload_n 1, 1) := by decide +kernel
theorem dX9_says_47 : decode cX9_says 47 = .ok (.iaload, 1) := by decide +kernel
theorem dX9_says_48 : decode cX9_says 48 = .ok (.bipush 10, 2) := by decide +kernel
theorem dX9_says_50 : decode cX9_says 50 = .ok (.isub, 1) := by decide +kernel
theorem dX9_says_51 : decode cX9_says 51 = .ok (.istore_n 3, 1) := by decide +kernel
theorem dX9_says_52 : decode cX9_says 52 = .ok (.iload_n 3, 1) := by decide +kernel
theorem dX9_says_53 : decode cX9_says 53 = .ok (.ifCond .lt 11, 3) := by decide +kernel
theorem dX9_says_56 : decode cX9_says 56 = .ok (.iload_n 3, 1) := by decide +kernel
theorem dX9_says_57 : decode cX9_says 57 = .ok (.iload_n 2, 1) := by decide +kernel
theorem dX9_says_58 : decode cX9_says 58 = .ok (.invokestatic 248, 3) := by decide +kernel
theorem dX9_says_61 : decode cX9_says 61 = .ok (.ifCond .ne 10, 3) := by decide +kernel
theorem dX9_says_64 : decode cX9_says 64 = .ok (.aload_n 0, 1) := by decide +kernel
theorem dX9_says_65 : decode cX9_says 65 = .ok (.bipush (-93), 2) := by decide +kernel
theorem dX9_says_67 : decode cX9_says 67 = .ok (.invokevirtual 60, 3) := by decide +kernel
theorem dX9_says_70 : decode cX9_says 70 = .ok (.ireturn, 1) := by decide +kernel
theorem dX9_says_71 : decode cX9_says 71 = .ok (.iload_n 2, 1) := by decide +kernel
theorem dX9_says_72 : decode cX9_says 72 = .ok (.tableswitch 98 0 12 #[68, 73, 75, 80, 98, 98, 90, 92, 92, 98, 98, 94, 96], 68) := by decide +kernel
theorem dX9_says_140 : decode cX9_says 140 = .ok (.iload_n 3, 1) := by decide +kernel
theorem dX9_says_141 : decode cX9_says 141 = .ok (.invokestatic 204, 3) := by decide +kernel
theorem dX9_says_144 : decode cX9_says 144 = .ok (.ireturn, 1) := by decide +kernel
theorem dX9_says_145 : decode cX9_says 145 = .ok (.iconst 1, 1) := by decide +kernel
theorem dX9_says_146 : decode cX9_says 146 = .ok (.ireturn, 1) := by decide +kernel
theorem dX9_says_147 : decode cX9_says 147 = .ok (.iload_n 3, 1) := by decide +kernel
theorem dX9_says_148 : decode cX9_says 148 = .ok (.invokestatic 154, 3) := by decide +kernel
theorem dX9_says_151 : decode cX9_says 151 = .ok (.ireturn, 1) := by decide +kernel
theorem dX9_says_152 : decode cX9_says 152 = .ok (.iload_n 3, 1) := by decide +kernel
theorem dX9_says_153 : decode cX9_says 153 = .ok (.invokestatic 141, 3) := by decide +kernel
theorem dX9_says_156 : decode cX9_says 156 = .ok (.iload_n 3, 1) := by decide +kernel
theorem dX9_says_157 : decode cX9_says 157 = .ok (.invokestatic 154, 3) := by decide +kernel
theorem dX9_says_160 : decode cX9_says 160 = .ok (.isub, 1) := by decide +kernel
theorem dX9_says_161 : decode cX9_says 161 = .ok (.ireturn, 1) := by decide +kernel
theorem dX9_says_162 : decode cX9_says 162 = .ok (.iconst 4, 1) := by decide +kernel
theorem dX9_says_163 : decode cX9_says 163 = .ok (.ireturn, 1) := by decide +kernel
theorem dX9_says_164 : decode cX9_says 164 = .ok (.iload_n 3, 1) := by decide +kernel
theorem dX9_says_165 : decode cX9_says 165 = .ok (.ireturn, 1) := by decide +kernel
theorem dX9_says_166 : decode cX9_says 166 = .ok (.iconst 0, 1) := by decide +kernel
theorem dX9_says_167 : decode cX9_says 167 = .ok (.ireturn, 1) := by decide +kernel
theorem dX9_says_168 : decode cX9_says 168 = .ok (.iconst 2, 1) := by decide +kernel
theorem dX9_says_169 : decode cX9_says 169 = .ok (.ireturn, 1) := by decide +kernel
theorem dX9_says_170 : decode cX9_says 170 = .ok (.iload_n 3, 1) := by decide +kernel
theorem dX9_says_171 : decode cX9_says 171 = .ok (.invokestatic 227, 3) := by decide +kernel
theorem dX9_says_174 : decode cX9_says 174 = .ok (.ireturn, 1) := by decide +kernel
theorem dX9_judge_0 : decode cX9_judge 0 = .ok (.aload_n 0, 1) := by decide +kernel
theorem dX9_judge_1 : decode cX9_judge 1 = .ok (.iload_n 1, 1) := by decide +kernel
theorem dX9_judge_2 : decode cX9_judge 2 = .ok (.invokevirtual 215, 3) := by decide +kernel
theorem dX9_judge_5 : decode cX9_judge 5 = .ok (.ifCond .eq 22, 3) := by decide +kernel
theorem dX9_judge_8 : decode cX9_judge 8 = .ok (.iload_n 2, 1) := by decide +kernel
theorem dX9_judge_9 : decode cX9_judge 9 = .ok (.invokestatic 254, 3) := by decide +kernel
theorem dX9_judge_12 : decode cX9_judge 12 = .ok (.ifCond .eq 15, 3) := by decide +kernel
theorem dX9_judge_15 : decode cX9_judge 15 = .ok (.iload_n 3, 1) := by decide +kernel
theorem dX9_judge_16 : decode cX9_judge 16 = .ok (.i2l, 1) := by decide +kernel
theorem dX9_judge_17 : decode cX9_judge 17 = .ok (.lconst 0, 1) := by decide +kernel
theorem dX9_judge_18 : decode cX9_judge 18 = .ok (.ldc2_w 259, 3) := by decide +kernel
theorem dX9_judge_21 : decode cX9_judge 21 = .ok (.invokestatic 56, 3) := by decide +kernel
theorem dX9_judge_24 : decode cX9_judge 24 = .ok (.ifCond .ne 10, 3) := by decide +kernel
theorem dX9_judge_27 : decode cX9_judge 27 = .ok (.aload_n 0, 1) := by decide +kernel
theorem dX9_judge_28 : decode cX9_judge 28 = .ok (.bipush (-92), 2) := by decide +kernel
theorem dX9_judge_30 : decode cX9_judge 30 = .ok (.invokevirtual 60, 3) := by decide +kernel
theorem dX9_judge_33 : decode cX9_judge 33 = .ok (.ireturn, 1) := by decide +kernel
theorem dX9_judge_34 : decode cX9_judge 34 = .ok (.aload_n 0, 1) := by decide +kernel
theorem dX9_judge_35 : decode cX9_judge 35 = .ok (.iload_n 2, 1) := by decide +kernel
theorem dX9_judge_36 : decode cX9_judge 36 = .ok (.invokevirtual 261, 3) := by decide +kernel
theorem dX9_judge_39 : decode cX9_judge 39 = .ok (.istore 4, 2) := by decide +kernel
theorem dX9_judge_41 : decode cX9_judge 41 = .ok (.iload 4, 2) := by decide +kernel
theorem dX9_judge_43 : decode cX9_judge 43 = .ok (.ifCond .ne 13, 3) := by decide +kernel
theorem dX9_judge_46 : decode cX9_judge 46 = .ok (.iload_n 3, 1) := by decide +kernel
theorem dX9_judge_47 : decode cX9_judge 47 = .ok (.aload_n 0, 1) := by decide +kernel
theorem dX9_judge_48 : decode cX9_judge 48 = .ok (.getfield 40, 3) := by decide +kernel
theorem dX9_judge_51 : decode cX9_judge 51 = .ok (.iload_n 2, 1) := by decide +kernel
theorem dX9_judge_52 : decode cX9_judge 52 = .ok (.iaload, 1) := by decide +kernel
theorem dX9_judge_53 : decode cX9_judge 53 = .ok (.if_icmp .le 20, 3) := by decide +kernel
theorem dX9_judge_56 : decode cX9_judge 56 = .ok (.aload_n 0, 1) := by decide +kernel
theorem dX9_judge_57 : decode cX9_judge 57 = .ok (.iload 4, 2) := by decide +kernel
theorem dX9_judge_59 : decode cX9_judge 59 = .ok (.ifCond .eq 8, 3) := by decide +kernel
theorem dX9_judge_62 : decode cX9_judge 62 = .ok (.iload 4, 2) := by decide +kernel
theorem dX9_judge_64 : decode cX9_judge 64 = .ok (.goto 5, 3) := by decide +kernel
theorem dX9_judge_67 : decode cX9_judge 67 = .ok (.bipush (-92), 2) := by decide +kernel
theorem dX9_judge_69 : decode cX9_judge 69 = .ok (.invokevirtual 60, 3) := by decide +kernel
theorem dX9_judge_72 : decode cX9_judge 72 = .ok (.ireturn, 1) := by decide +kernel
theorem dX9_judge_73 : decode cX9_judge 73 = .ok (.iconst 0, 1) := by decide +kernel
theorem dX9_judge_74 : decode cX9_judge 74 = .ok (.istore 5, 2) := by decide +kernel
theorem dX9_judge_76 : decode cX9_judge 76 = .ok (.iload 5, 2) := by decide +kernel
theorem dX9_judge_78 : decode cX9_judge 78 = .ok (.iload_n 3, 1) := by decide +kernel
theorem dX9_judge_79 : decode cX9_judge 79 = .ok (.if_icmp .ge 46, 3) := by decide +kernel
theorem dX9_judge_82 : decode cX9_judge 82 = .ok (.iload 5, 2) := by decide +kernel
theorem dX9_judge_84 : decode cX9_judge 84 = .ok (.aload_n 0, 1) := by decide +kernel
theorem dX9_judge_85 : decode cX9_judge 85 = .ok (.iload_n 1, 1) := by decide +kernel
theorem dX9_judge_86 : decode cX9_judge 86 = .ok (.invokevirtual 220, 3) := by decide +kernel
theorem dX9_judge_89 : decode cX9_judge 89 = .ok (.if_icmp .ge 27, 3) := by decide +kernel
theorem dX9_judge_92 : decode cX9_judge 92 = .ok (.aload_n 0, 1) := by decide +kernel
theorem dX9_judge_93 : decode cX9_judge 93 = .ok (.getfield 43, 3) := by decide +kernel
theorem dX9_judge_96 : decode cX9_judge 96 = .ok (.bipush 40, 2) := by decide +kernel
theorem dX9_judge_98 : decode cX9_judge 98 = .ok (.iload_n 2, 1) := by decide +kernel
theorem dX9_judge_99 : decode cX9_judge 99 = .ok (.imul, 1) := by decide +kernel
theorem dX9_judge_100 : decode cX9_judge 100 = .ok (.iload 5, 2) := by decide +kernel
theorem dX9_judge_102 : decode cX9_judge 102 = .ok (.iadd, 1) := by decide +kernel
theorem dX9_judge_103 : decode cX9_judge 103 = .ok (.laload, 1) := by decide +kernel
theorem dX9_judge_104 : decode cX9_judge 104 = .ok (.aload_n 0, 1) := by decide +kernel
theorem dX9_judge_105 : decode cX9_judge 105 = .ok (.iload_n 1, 1) := by decide +kernel
theorem dX9_judge_106 : decode cX9_judge 106 = .ok (.iload 5, 2) := by decide +kernel
theorem dX9_judge_108 : decode cX9_judge 108 = .ok (.invokevirtual 212, 3) := by decide +kernel
theorem dX9_judge_111 : decode cX9_judge 111 = .ok (.i2l, 1) := by decide +kernel
theorem dX9_judge_112 : decode cX9_judge 112 = .ok (.lcmp, 1) := by decide +kernel
theorem dX9_judge_113 : decode cX9_judge 113 = .ok (.ifCond .eq 6, 3) := by decide +kernel
theorem dX9_judge_116 : decode cX9_judge 116 = .ok (.iload 5, 2) := by decide +kernel
theorem dX9_judge_118 : decode cX9_judge 118 = .ok (.ireturn, 1) := by decide +kernel
theorem dX9_judge_119 : decode cX9_judge 119 = .ok (.iinc 5 1, 3) := by decide +kernel
theorem dX9_judge_122 : decode cX9_judge 122 = .ok (.goto (-46), 3) := by decide +kernel
theorem dX9_judge_125 : decode cX9_judge 125 = .ok (.aload_n 0, 1) := by decide +kernel
theorem dX9_judge_126 : decode cX9_judge 126 = .ok (.iload_n 1, 1) := by decide +kernel
theorem dX9_judge_127 : decode cX9_judge 127 = .ok (.invokevirtual 220, 3) := by decide +kernel
theorem dX9_judge_130 : decode cX9_judge 130 = .ok (.iload_n 3, 1) := by decide +kernel
theorem dX9_judge_131 : decode cX9_judge 131 = .ok (.if_icmp .le 7, 3) := by decide +kernel
theorem dX9_judge_134 : decode cX9_judge 134 = .ok (.iload_n 3, 1) := by decide +kernel
theorem dX9_judge_135 : decode cX9_judge 135 = .ok (.goto 4, 3) := by decide +kernel
theorem dX9_judge_138 : decode cX9_judge 138 = .ok (.iconst (-1), 1) := by decide +kernel
theorem dX9_judge_139 : decode cX9_judge 139 = .ok (.ireturn, 1) := by decide +kernel
theorem dX9_draw_0 : decode cX9_draw 0 = .ok (.aload_n 0, 1) := by decide +kernel
theorem dX9_draw_1 : decode cX9_draw 1 = .ok (.getfield 13, 3) := by decide +kernel
theorem dX9_draw_4 : decode cX9_draw 4 = .ok (.sipush 5024, 3) := by decide +kernel
theorem dX9_draw_7 : decode cX9_draw 7 = .ok (.aload_n 0, 1) := by decide +kernel
theorem dX9_draw_8 : decode cX9_draw 8 = .ok (.getfield 13, 3) := by decide +kernel
theorem dX9_draw_11 : decode cX9_draw 11 = .ok (.sipush 5024, 3) := by decide +kernel
theorem dX9_draw_14 : decode cX9_draw 14 = .ok (.iaload, 1) := by decide +kernel
theorem dX9_draw_15 : decode cX9_draw 15 = .ok (.ldc_w 264, 3) := by decide +kernel
theorem dX9_draw_18 : decode cX9_draw 18 = .ok (.imul, 1) := by decide +kernel
theorem dX9_draw_19 : decode cX9_draw 19 = .ok (.sipush 12345, 3) := by decide +kernel
theorem dX9_draw_22 : decode cX9_draw 22 = .ok (.iadd, 1) := by decide +kernel
theorem dX9_draw_23 : decode cX9_draw 23 = .ok (.iastore, 1) := by decide +kernel
theorem dX9_draw_24 : decode cX9_draw 24 = .ok (.aload_n 0, 1) := by decide +kernel
theorem dX9_draw_25 : decode cX9_draw 25 = .ok (.getfield 13, 3) := by decide +kernel
theorem dX9_draw_28 : decode cX9_draw 28 = .ok (.sipush 5024, 3) := by decide +kernel
theorem dX9_draw_31 : decode cX9_draw 31 = .ok (.iaload, 1) := by decide +kernel
theorem dX9_draw_32 : decode cX9_draw 32 = .ok (.bipush 16, 2) := by decide +kernel
theorem dX9_draw_34 : decode cX9_draw 34 = .ok (.iushr, 1) := by decide +kernel
theorem dX9_draw_35 : decode cX9_draw 35 = .ok (.iload_n 1, 1) := by decide +kernel
theorem dX9_draw_36 : decode cX9_draw 36 = .ok (.irem, 1) := by decide +kernel
theorem dX9_draw_37 : decode cX9_draw 37 = .ok (.ireturn, 1) := by decide +kernel
theorem dX9_days_0 : decode cX9_days 0 = .ok (.iload_n 1, 1) := by decide +kernel
theorem dX9_days_1 : decode cX9_days 1 = .ok (.i2l, 1) := by decide +kernel
theorem dX9_days_2 : decode cX9_days 2 = .ok (.lconst 1, 1) := by decide +kernel
theorem dX9_days_3 : decode cX9_days 3 = .ok (.ldc2_w 197, 3) := by decide +kernel
theorem dX9_days_6 : decode cX9_days 6 = .ok (.invokestatic 56, 3) := by decide +kernel
theorem dX9_days_9 : decode cX9_days 9 = .ok (.ifCond .ne 10, 3) := by decide +kernel
theorem dX9_days_12 : decode cX9_days 12 = .ok (.aload_n 0, 1) := by decide +kernel
theorem dX9_days_13 : decode cX9_days 13 = .ok (.bipush (-92), 2) := by decide +kernel
theorem dX9_days_15 : decode cX9_days 15 = .ok (.invokevirtual 60, 3) := by decide +kernel
theorem dX9_days_18 : decode cX9_days 18 = .ok (.ireturn, 1) := by decide +kernel
theorem dX9_days_19 : decode cX9_days 19 = .ok (.aload_n 0, 1) := by decide +kernel
theorem dX9_days_20 : decode cX9_days 20 = .ok (.getfield 13, 3) := by decide +kernel
theorem dX9_days_23 : decode cX9_days 23 = .ok (.sipush 5020, 3) := by decide +kernel
theorem dX9_days_26 : decode cX9_days 26 = .ok (.iaload, 1) := by decide +kernel
theorem dX9_days_27 : decode cX9_days 27 = .ok (.ifCond .ne 10, 3) := by decide +kernel
theorem dX9_days_30 : decode cX9_days 30 = .ok (.aload_n 0, 1) := by decide +kernel
theorem dX9_days_31 : decode cX9_days 31 = .ok (.bipush (-95), 2) := by decide +kernel
theorem dX9_days_33 : decode cX9_days 33 = .ok (.invokevirtual 60, 3) := by decide +kernel
theorem dX9_days_36 : decode cX9_days 36 = .ok (.ireturn, 1) := by decide +kernel
theorem dX9_days_37 : decode cX9_days 37 = .ok (.iconst 0, 1) := by decide +kernel
theorem dX9_days_38 : decode cX9_days 38 = .ok (.istore_n 2, 1) := by decide +kernel
theorem dX9_days_39 : decode cX9_days 39 = .ok (.iconst 0, 1) := by decide +kernel
theorem dX9_days_40 : decode cX9_days 40 = .ok (.istore_n 3, 1) := by decide +kernel
theorem dX9_days_41 : decode cX9_days 41 = .ok (.iload_n 3, 1) := by decide +kernel
theorem dX9_days_42 : decode cX9_days 42 = .ok (.iload_n 1, 1) := by decide +kernel
theorem dX9_days_43 : decode cX9_days 43 = .ok (.if_icmp .ge 69, 3) := by decide +kernel
theorem dX9_days_46 : decode cX9_days 46 = .ok (.aload_n 0, 1) := by decide +kernel
theorem dX9_days_47 : decode cX9_days 47 = .ok (.aload_n 0, 1) := by decide +kernel
theorem dX9_days_48 : decode cX9_days 48 = .ok (.getfield 13, 3) := by decide +kernel
theorem dX9_days_51 : decode cX9_days 51 = .ok (.sipush 5020, 3) := by decide +kernel
theorem dX9_days_54 : decode cX9_days 54 = .ok (.iaload, 1) := by decide +kernel
theorem dX9_days_55 : decode cX9_days 55 = .ok (.invokevirtual 265, 3) := by decide +kernel
theorem dX9_days_58 : decode cX9_days 58 = .ok (.istore 4, 2) := by decide +kernel
theorem dX9_days_60 : decode cX9_days 60 = .ok (.aload_n 0, 1) := by decide +kernel
theorem dX9_days_61 : decode cX9_days 61 = .ok (.iconst 0, 1) := by decide +kernel
theorem dX9_days_62 : decode cX9_days 62 = .ok (.putfield 132, 3) := by decide +kernel
theorem dX9_days_65 : decode cX9_days 65 = .ok (.aload_n 0, 1) := by decide +kernel
theorem dX9_days_66 : decode cX9_days 66 = .ok (.iload 4, 2) := by decide +kernel
theorem dX9_days_68 : decode cX9_days 68 = .ok (.invokevirtual 186, 3) := by decide +kernel
theorem dX9_days_71 : decode cX9_days 71 = .ok (.aload_n 0, 1) := by decide +kernel
theorem dX9_days_72 : decode cX9_days 72 = .ok (.getfield 132, 3) := by decide +kernel
theorem dX9_days_75 : decode cX9_days 75 = .ok (.ifCond .ne 15, 3) := by decide +kernel
theorem dX9_days_78 : decode cX9_days 78 = .ok (.aload_n 0, 1) := by decide +kernel
theorem dX9_days_79 : decode cX9_days 79 = .ok (.iload 4, 2) := by decide +kernel
theorem dX9_days_81 : decode cX9_days 81 = .ok (.invokevirtual 192, 3) := by decide +kernel
theorem dX9_days_84 : decode cX9_days 84 = .ok (.iinc 2 1, 3) := by decide +kernel
theorem dX9_days_87 : decode cX9_days 87 = .ok (.goto 19, 3) := by decide +kernel
theorem dX9_days_90 : decode cX9_days 90 = .ok (.aload_n 0, 1) := by decide +kernel
theorem dX9_days_91 : decode cX9_days 91 = .ok (.getfield 13, 3) := by decide +kernel
theorem dX9_days_94 : decode cX9_days 94 = .ok (.sipush 5025, 3) := by decide +kernel
theorem dX9_days_97 : decode cX9_days 97 = .ok (.iaload, 1) := by decide +kernel
theorem dX9_days_98 : decode cX9_days 98 = .ok (.ifCond .le 8, 3) := by decide +kernel
theorem dX9_days_101 : decode cX9_days 101 = .ok (.aload_n 0, 1) := by decide +kernel
theorem dX9_days_102 : decode cX9_days 102 = .ok (.iconst 1, 1) := by decide +kernel
theorem dX9_days_103 : decode cX9_days 103 = .ok (.invokevirtual 199, 3) := by decide +kernel
theorem dX9_days_106 : decode cX9_days 106 = .ok (.iinc 3 1, 3) := by decide +kernel
theorem dX9_days_109 : decode cX9_days 109 = .ok (.goto (-68), 3) := by decide +kernel
theorem dX9_days_112 : decode cX9_days 112 = .ok (.iload_n 2, 1) := by decide +kernel
theorem dX9_days_113 : decode cX9_days 113 = .ok (.ireturn, 1) := by decide +kernel
theorem dX9_seed_0 : decode cX9_seed 0 = .ok (.aload_n 0, 1) := by decide +kernel
theorem dX9_seed_1 : decode cX9_seed 1 = .ok (.getfield 13, 3) := by decide +kernel
theorem dX9_seed_4 : decode cX9_seed 4 = .ok (.sipush 5024, 3) := by decide +kernel
theorem dX9_seed_7 : decode cX9_seed 7 = .ok (.iaload, 1) := by decide +kernel
theorem dX9_seed_8 : decode cX9_seed 8 = .ok (.istore_n 2, 1) := by decide +kernel
theorem dX9_seed_9 : decode cX9_seed 9 = .ok (.aload_n 0, 1) := by decide +kernel
theorem dX9_seed_10 : decode cX9_seed 10 = .ok (.getfield 13, 3) := by decide +kernel
theorem dX9_seed_13 : decode cX9_seed 13 = .ok (.sipush 5024, 3) := by decide +kernel
theorem dX9_seed_16 : decode cX9_seed 16 = .ok (.iload_n 1, 1) := by decide +kernel
theorem dX9_seed_17 : decode cX9_seed 17 = .ok (.iastore, 1) := by decide +kernel
theorem dX9_seed_18 : decode cX9_seed 18 = .ok (.iload_n 2, 1) := by decide +kernel
theorem dX9_seed_19 : decode cX9_seed 19 = .ok (.ireturn, 1) := by decide +kernel
theorem dX9_image_0 : decode cX9_image 0 = .ok (.aload_n 0, 1) := by decide +kernel
theorem dX9_image_1 : decode cX9_image 1 = .ok (.getfield 13, 3) := by decide +kernel
theorem dX9_image_4 : decode cX9_image 4 = .ok (.aload_n 0, 1) := by decide +kernel
theorem dX9_image_5 : decode cX9_image 5 = .ok (.getfield 16, 3) := by decide +kernel
theorem dX9_image_8 : decode cX9_image 8 = .ok (.invokestatic 268, 3) := by decide +kernel
theorem dX9_image_11 : decode cX9_image 11 = .ok (.aload_n 0, 1) := by decide +kernel
theorem dX9_image_12 : decode cX9_image 12 = .ok (.iconst 1, 1) := by decide +kernel
theorem dX9_image_13 : decode cX9_image 13 = .ok (.putfield 272, 3) := by decide +kernel
theorem dX9_image_16 : decode cX9_image 16 = .ok (.iconst 1, 1) := by decide +kernel
theorem dX9_image_17 : decode cX9_image 17 = .ok (.ireturn, 1) := by decide +kernel
theorem dX9_back_0 : decode cX9_back 0 = .ok (.aload_n 0, 1) := by decide +kernel
theorem dX9_back_1 : decode cX9_back 1 = .ok (.getfield 272, 3) := by decide +kernel
theorem dX9_back_4 : decode cX9_back 4 = .ok (.ifCond .ne 10, 3) := by decide +kernel
theorem dX9_back_7 : decode cX9_back 7 = .ok (.aload_n 0, 1) := by decide +kernel
theorem dX9_back_8 : decode cX9_back 8 = .ok (.bipush (-95), 2) := by decide +kernel
theorem dX9_back_10 : decode cX9_back 10 = .ok (.invokevirtual 60, 3) := by decide +kernel
theorem dX9_back_13 : decode cX9_back 13 = .ok (.ireturn, 1) := by decide +kernel
theorem dX9_back_14 : decode cX9_back 14 = .ok (.aload_n 0, 1) := by decide +kernel
theorem dX9_back_15 : decode cX9_back 15 = .ok (.getfield 16, 3) := by decide +kernel
theorem dX9_back_18 : decode cX9_back 18 = .ok (.aload_n 0, 1) := by decide +kernel
theorem dX9_back_19 : decode cX9_back 19 = .ok (.getfield 13, 3) := by decide +kernel
theorem dX9_back_22 : decode cX9_back 22 = .ok (.invokestatic 268, 3) := by decide +kernel
theorem dX9_back_25 : decode cX9_back 25 = .ok (.iconst 1, 1) := by decide +kernel
theorem dX9_back_26 : decode cX9_back 26 = .ok (.ireturn, 1) := by decide +kernel
theorem dX9_status_0 : decode cX9_status 0 = .ok (.iload_n 1, 1) := by decide +kernel
theorem dX9_status_1 : decode cX9_status 1 = .ok (.i2l, 1) := by decide +kernel
theorem dX9_status_2 : decode cX9_status 2 = .ok (.ldc2_w 246, 3) := by decide +kernel
theorem dX9_status_5 : decode cX9_status 5 = .ok (.ldc2_w 275, 3) := by decide +kernel
theorem dX9_status_8 : decode cX9_status 8 = .ok (.invokestatic 56, 3) := by decide +kernel
theorem dX9_status_11 : decode cX9_status 11 = .ok (.ifCond .eq 13, 3) := by decide +kernel
theorem dX9_status_14 : decode cX9_status 14 = .ok (.aload_n 0, 1) := by decide +kernel
theorem dX9_status_15 : decode cX9_status 15 = .ok (.getfield 1, 3) := by decide +kernel
theorem dX9_status_18 : decode cX9_status 18 = .ok (.iload_n 1, 1) := by decide +kernel
theorem dX9_status_19 : decode cX9_status 19 = .ok (.bipush 12, 2) := by decide +kernel
theorem dX9_status_21 : decode cX9_status 21 = .ok (.isub, 1) := by decide +kernel
theorem dX9_status_22 : decode cX9_status 22 = .ok (.iaload, 1) := by decide +kernel
theorem dX9_status_23 : decode cX9_status 23 = .ok (.ireturn, 1) := by decide +kernel
theorem dX9_status_24 : decode cX9_status 24 = .ok (.iconst 0, 1) := by decide +kernel
theorem dX9_status_25 : decode cX9_status 25 = .ok (.istore_n 2, 1) := by decide +kernel
theorem dX9_status_26 : decode cX9_status 26 = .ok (.iconst 0, 1) := by decide +kernel
theorem dX9_status_27 : decode cX9_status 27 = .ok (.istore_n 3, 1) := by decide +kernel
theorem dX9_status_28 : decode cX9_status 28 = .ok (.iload_n 3, 1) := by decide +kernel
theorem dX9_status_29 : decode cX9_status 29 = .ok (.bipush 8, 2) := by decide +kernel
theorem dX9_status_31 : decode cX9_status 31 = .ok (.if_icmp .ge 26, 3) := by decide +kernel
theorem dX9_status_34 : decode cX9_status 34 = .ok (.iload_n 2, 1) := by decide +kernel
theorem dX9_status_35 : decode cX9_status 35 = .ok (.aload_n 0, 1) := by decide +kernel
theorem dX9_status_36 : decode cX9_status 36 = .ok (.getfield 37, 3) := by decide +kernel
theorem dX9_status_39 : decode cX9_status 39 = .ok (.iload_n 3, 1) := by decide +kernel
theorem dX9_status_40 : decode cX9_status 40 = .ok (.iaload, 1) := by decide +kernel
theorem dX9_status_41 : decode cX9_status 41 = .ok (.ifCond .ge 7, 3) := by decide +kernel
theorem dX9_status_44 : decode cX9_status 44 = .ok (.iconst 0, 1) := by decide +kernel
theorem dX9_status_45 : decode cX9_status 45 = .ok (.goto 4, 3) := by decide +kernel
theorem dX9_status_48 : decode cX9_status 48 = .ok (.iconst 1, 1) := by decide +kernel
theorem dX9_status_49 : decode cX9_status 49 = .ok (.iadd, 1) := by decide +kernel
theorem dX9_status_50 : decode cX9_status 50 = .ok (.istore_n 2, 1) := by decide +kernel
theorem dX9_status_51 : decode cX9_status 51 = .ok (.iinc 3 1, 3) := by decide +kernel
theorem dX9_status_54 : decode cX9_status 54 = .ok (.goto (-26), 3) := by decide +kernel
theorem dX9_status_57 : decode cX9_status 57 = .ok (.iload_n 1, 1) := by decide +kernel
theorem dX9_status_58 : decode cX9_status 58 = .ok (.tableswitch 107 0 7 #[46, 55, 64, 73, 82, 91, 96, 105], 46) := by decide +kernel
theorem dX9_status_104 : decode cX9_status 104 = .ok (.aload_n 0, 1) := by decide +kernel
theorem dX9_status_105 : decode cX9_status 105 = .ok (.getfield 13, 3) := by decide +kernel
theorem dX9_status_108 : decode cX9_status 108 = .ok (.sipush 5020, 3) := by decide +kernel
theorem dX9_status_111 : decode cX9_status 111 = .ok (.iaload, 1) := by decide +kernel
theorem dX9_status_112 : decode cX9_status 112 = .ok (.ireturn, 1) := by decide +kernel
theorem dX9_status_113 : decode cX9_status 113 = .ok (.aload_n 0, 1) := by decide +kernel
theorem dX9_status_114 : decode cX9_status 114 = .ok (.getfield 13, 3) := by decide +kernel
theorem dX9_status_117 : decode cX9_status 117 = .ok (.sipush 5025, 3) := by decide +kernel
theorem dX9_status_120 : decode cX9_status 120 = .ok (.iaload, 1) := by decide +kernel
theorem dX9_status_121 : decode cX9_status 121 = .ok (.ireturn, 1) := by decide +kernel
theorem dX9_status_122 : decode cX9_status 122 = .ok (.aload_n 0, 1) := by decide +kernel
theorem dX9_status_123 : decode cX9_status 123 = .ok (.getfield 13, 3) := by decide +kernel
theorem dX9_status_126 : decode cX9_status 126 = .ok (.sipush 5023, 3) := by decide +kernel
theorem dX9_status_129 : decode cX9_status 129 = .ok (.iaload, 1) := by decide +kernel
theorem dX9_status_130 : decode cX9_status 130 = .ok (.ireturn, 1) := by decide +kernel
theorem dX9_status_131 : decode cX9_status 131 = .ok (.aload_n 0, 1) := by decide +kernel
theorem dX9_status_132 : decode cX9_status 132 = .ok (.getfield 13, 3) := by decide +kernel
theorem dX9_status_135 : decode cX9_status 135 = .ok (.sipush 5022, 3) := by decide +kernel
theorem dX9_status_138 : decode cX9_status 138 = .ok (.iaload, 1) := by decide +kernel
theorem dX9_status_139 : decode cX9_status 139 = .ok (.ireturn, 1) := by decide +kernel
theorem dX9_status_140 : decode cX9_status 140 = .ok (.aload_n 0, 1) := by decide +kernel
theorem dX9_status_141 : decode cX9_status 141 = .ok (.getfield 13, 3) := by decide +kernel
theorem dX9_status_144 : decode cX9_status 144 = .ok (.sipush 5021, 3) := by decide +kernel
theorem dX9_status_147 : decode cX9_status 147 = .ok (.iaload, 1) := by decide +kernel
theorem dX9_status_148 : decode cX9_status 148 = .ok (.ireturn, 1) := by decide +kernel
theorem dX9_status_149 : decode cX9_status 149 = .ok (.aload_n 0, 1) := by decide +kernel
theorem dX9_status_150 : decode cX9_status 150 = .ok (.getfield 63, 3) := by decide +kernel
theorem dX9_status_153 : decode cX9_status 153 = .ok (.ireturn, 1) := by decide +kernel
theorem dX9_status_154 : decode cX9_status 154 = .ok (.aload_n 0, 1) := by decide +kernel
theorem dX9_status_155 : decode cX9_status 155 = .ok (.getfield 13, 3) := by decide +kernel
theorem dX9_status_158 : decode cX9_status 158 = .ok (.sipush 5024, 3) := by decide +kernel
theorem dX9_status_161 : decode cX9_status 161 = .ok (.iaload, 1) := by decide +kernel
theorem dX9_status_162 : decode cX9_status 162 = .ok (.ireturn, 1) := by decide +kernel
theorem dX9_status_163 : decode cX9_status 163 = .ok (.iload_n 2, 1) := by decide +kernel
theorem dX9_status_164 : decode cX9_status 164 = .ok (.ireturn, 1) := by decide +kernel
theorem dX9_status_165 : decode cX9_status 165 = .ok (.iconst (-1), 1) := by decide +kernel
theorem dX9_status_166 : decode cX9_status 166 = .ok (.ireturn, 1) := by decide +kernel
end
section
/-! decode rows (printed by the program of the task) -/
theorem dL_law_0 : decode cL_law 0 = .ok (.new 7, 3) := by decide +kernel
theorem dL_law_3 : decode cL_law 3 = .ok (.dup, 1) := by decide +kernel
theorem dL_law_4 : decode cL_law 4 = .ok (.invokespecial 9, 3) := by decide +kernel
theorem dL_law_7 : decode cL_law 7 = .ok (.astore_n 1, 1) := by decide +kernel
theorem dL_law_8 : decode cL_law 8 = .ok (.new 10, 3) := by decide +kernel
theorem dL_law_11 : decode cL_law 11 = .ok (.dup, 1) := by decide +kernel
theorem dL_law_12 : decode cL_law 12 = .ok (.invokespecial 12, 3) := by decide +kernel
theorem dL_law_15 : decode cL_law 15 = .ok (.astore_n 2, 1) := by decide +kernel
theorem dL_law_16 : decode cL_law 16 = .ok (.iconst 0, 1) := by decide +kernel
theorem dL_law_17 : decode cL_law 17 = .ok (.istore_n 3, 1) := by decide +kernel
theorem dL_law_18 : decode cL_law 18 = .ok (.iload_n 3, 1) := by decide +kernel
theorem dL_law_19 : decode cL_law 19 = .ok (.aload_n 0, 1) := by decide +kernel
theorem dL_law_20 : decode cL_law 20 = .ok (.arraylength, 1) := by decide +kernel
theorem dL_law_21 : decode cL_law 21 = .ok (.bipush 6, 2) := by decide +kernel
theorem dL_law_23 : decode cL_law 23 = .ok (.isub, 1) := by decide +kernel
theorem dL_law_24 : decode cL_law 24 = .ok (.if_icmp .gt 1456, 3) := by decide +kernel
theorem dL_law_27 : decode cL_law 27 = .ok (.aload_n 0, 1) := by decide +kernel
theorem dL_law_28 : decode cL_law 28 = .ok (.iload_n 3, 1) := by decide +kernel
theorem dL_law_29 : decode cL_law 29 = .ok (.iaload, 1) := by decide +kernel
theorem dL_law_30 : decode cL_law 30 = .ok (.bipush 63, 2) := by decide +kernel
theorem dL_law_32 : decode cL_law 32 = .ok (.iand, 1) := by decide +kernel
theorem dL_law_33 : decode cL_law 33 = .ok (.tableswitch 1441 0 42 #[187, 230, 303, 366, 400, 423, 466, 499, 522, 535, 548, 561, 584, 607, 630, 673, 696, 709, 742, 775, 808, 851, 884, 908, 921, 954, 987, 1030, 1063, 1096, 1119, 1152, 1175, 1209, 1233, 1247, 1270, 1303, 1346, 1369, 1392, 1405, 1418], 187) := by decide +kernel
theorem dL_law_220 : decode cL_law 220 = .ok (.aload_n 1, 1) := by decide +kernel
theorem dL_law_221 : decode cL_law 221 = .ok (.aload_n 0, 1) := by decide +kernel
theorem dL_law_222 : decode cL_law 222 = .ok (.iload_n 3, 1) := by decide +kernel
theorem dL_law_223 : decode cL_law 223 = .ok (.iconst 1, 1) := by decide +kernel
theorem dL_law_224 : decode cL_law 224 = .ok (.iadd, 1) := by decide +kernel
theorem dL_law_225 : decode cL_law 225 = .ok (.iaload, 1) := by decide +kernel
theorem dL_law_226 : decode cL_law 226 = .ok (.aload_n 0, 1) := by decide +kernel
theorem dL_law_227 : decode cL_law 227 = .ok (.iload_n 3, 1) := by decide +kernel
theorem dL_law_228 : decode cL_law 228 = .ok (.iconst 2, 1) := by decide +kernel
theorem dL_law_229 : decode cL_law 229 = .ok (.iadd, 1) := by decide +kernel
theorem dL_law_230 : decode cL_law 230 = .ok (.iaload, 1) := by decide +kernel
theorem dL_law_231 : decode cL_law 231 = .ok (.aload_n 0, 1) := by decide +kernel
theorem dL_law_232 : decode cL_law 232 = .ok (.iload_n 3, 1) := by decide +kernel
theorem dL_law_233 : decode cL_law 233 = .ok (.iconst 3, 1) := by decide +kernel
theorem dL_law_234 : decode cL_law 234 = .ok (.iadd, 1) := by decide +kernel
theorem dL_law_235 : decode cL_law 235 = .ok (.iaload, 1) := by decide +kernel
theorem dL_law_236 : decode cL_law 236 = .ok (.invokevirtual 13, 3) := by decide +kernel
theorem dL_law_239 : decode cL_law 239 = .ok (.aload_n 2, 1) := by decide +kernel
theorem dL_law_240 : decode cL_law 240 = .ok (.aload_n 0, 1) := by decide +kernel
theorem dL_law_241 : decode cL_law 241 = .ok (.iload_n 3, 1) := by decide +kernel
theorem dL_law_242 : decode cL_law 242 = .ok (.iconst 1, 1) := by decide +kernel
theorem dL_law_243 : decode cL_law 243 = .ok (.iadd, 1) := by decide +kernel
theorem dL_law_244 : decode cL_law 244 = .ok (.iaload, 1) := by decide +kernel
theorem dL_law_245 : decode cL_law 245 = .ok (.aload_n 0, 1) := by decide +kernel
theorem dL_law_246 : decode cL_law 246 = .ok (.iload_n 3, 1) := by decide +kernel
theorem dL_law_247 : decode cL_law 247 = .ok (.iconst 2, 1) := by decide +kernel
theorem dL_law_248 : decode cL_law 248 = .ok (.iadd, 1) := by decide +kernel
theorem dL_law_249 : decode cL_law 249 = .ok (.iaload, 1) := by decide +kernel
theorem dL_law_250 : decode cL_law 250 = .ok (.aload_n 0, 1) := by decide +kernel
theorem dL_law_251 : decode cL_law 251 = .ok (.iload_n 3, 1) := by decide +kernel
theorem dL_law_252 : decode cL_law 252 = .ok (.iconst 3, 1) := by decide +kernel
theorem dL_law_253 : decode cL_law 253 = .ok (.iadd, 1) := by decide +kernel
theorem dL_law_254 : decode cL_law 254 = .ok (.iaload, 1) := by decide +kernel
theorem dL_law_255 : decode cL_law 255 = .ok (.invokevirtual 17, 3) := by decide +kernel
theorem dL_law_258 : decode cL_law 258 = .ok (.if_icmp .eq 1216, 3) := by decide +kernel
theorem dL_law_261 : decode cL_law 261 = .ok (.iconst 0, 1) := by decide +kernel
theorem dL_law_262 : decode cL_law 262 = .ok (.ireturn, 1) := by decide +kernel
theorem dL_law_263 : decode cL_law 263 = .ok (.aload_n 1, 1) := by decide +kernel
theorem dL_law_264 : decode cL_law 264 = .ok (.aload_n 0, 1) := by decide +kernel
theorem dL_law_265 : decode cL_law 265 = .ok (.iload_n 3, 1) := by decide +kernel
theorem dL_law_266 : decode cL_law 266 = .ok (.iconst 1, 1) := by decide +kernel
theorem dL_law_267 : decode cL_law 267 = .ok (.iadd, 1) := by decide +kernel
theorem dL_law_268 : decode cL_law 268 = .ok (.iaload, 1) := by decide +kernel
theorem dL_law_269 : decode cL_law 269 = .ok (.aload_n 0, 1) := by decide +kernel
theorem dL_law_270 : decode cL_law 270 = .ok (.iload_n 3, 1) := by decide +kernel
theorem dL_law_271 : decode cL_law 271 = .ok (.iconst 2, 1) := by decide +kernel
theorem dL_law_272 : decode cL_law 272 = .ok (.iadd, 1) := by decide +kernel
theorem dL_law_273 : decode cL_law 273 = .ok (.iaload, 1) := by decide +kernel
theorem dL_law_274 : decode cL_law 274 = .ok (.aload_n 0, 1) := by decide +kernel
theorem dL_law_275 : decode cL_law 275 = .ok (.iload_n 3, 1) := by decide +kernel
theorem dL_law_276 : decode cL_law 276 = .ok (.iconst 3, 1) := by decide +kernel
theorem dL_law_277 : decode cL_law 277 = .ok (.iadd, 1) := by decide +kernel
theorem dL_law_278 : decode cL_law 278 = .ok (.iaload, 1) := by decide +kernel
theorem dL_law_279 : decode cL_law 279 = .ok (.i2l, 1) := by decide +kernel
theorem dL_law_280 : decode cL_law 280 = .ok (.bipush 32, 2) := by decide +kernel
theorem dL_law_282 : decode cL_law 282 = .ok (.lshl, 1) := by decide +kernel
theorem dL_law_283 : decode cL_law 283 = .ok (.aload_n 0, 1) := by decide +kernel
theorem dL_law_284 : decode cL_law 284 = .ok (.iload_n 3, 1) := by decide +kernel
theorem dL_law_285 : decode cL_law 285 = .ok (.iconst 4, 1) := by decide +kernel
theorem dL_law_286 : decode cL_law 286 = .ok (.iadd, 1) := by decide +kernel
theorem dL_law_287 : decode cL_law 287 = .ok (.iaload, 1) := by decide +kernel
theorem dL_law_288 : decode cL_law 288 = .ok (.i2l, 1) := by decide +kernel
theorem dL_law_289 : decode cL_law 289 = .ok (.ldc2_w 18, 3) := by decide +kernel
theorem dL_law_292 : decode cL_law 292 = .ok (.land, 1) := by decide +kernel
theorem dL_law_293 : decode cL_law 293 = .ok (.lor, 1) := by decide +kernel
theorem dL_law_294 : decode cL_law 294 = .ok (.invokevirtual 20, 3) := by decide +kernel
theorem dL_law_297 : decode cL_law 297 = .ok (.aload_n 2, 1) := by decide +kernel
theorem dL_law_298 : decode cL_law 298 = .ok (.aload_n 0, 1) := by decide +kernel
theorem dL_law_299 : decode cL_law 299 = .ok (.iload_n 3, 1) := by decide +kernel
theorem dL_law_300 : decode cL_law 300 = .ok (.iconst 1, 1) := by decide +kernel
theorem dL_law_301 : decode cL_law 301 = .ok (.iadd, 1) := by decide +kernel
theorem dL_law_302 : decode cL_law 302 = .ok (.iaload, 1) := by decide +kernel
theorem dL_law_303 : decode cL_law 303 = .ok (.aload_n 0, 1) := by decide +kernel
theorem dL_law_304 : decode cL_law 304 = .ok (.iload_n 3, 1) := by decide +kernel
theorem dL_law_305 : decode cL_law 305 = .ok (.iconst 2, 1) := by decide +kernel
theorem dL_law_306 : decode cL_law 306 = .ok (.iadd, 1) := by decide +kernel
theorem dL_law_307 : decode cL_law 307 = .ok (.iaload, 1) := by decide +kernel
theorem dL_law_308 : decode cL_law 308 = .ok (.aload_n 0, 1) := by decide +kernel
theorem dL_law_309 : decode cL_law 309 = .ok (.iload_n 3, 1) := by decide +kernel
theorem dL_law_310 : decode cL_law 310 = .ok (.iconst 3, 1) := by decide +kernel
theorem dL_law_311 : decode cL_law 311 = .ok (.iadd, 1) := by decide +kernel
theorem dL_law_312 : decode cL_law 312 = .ok (.iaload, 1) := by decide +kernel
theorem dL_law_313 : decode cL_law 313 = .ok (.i2l, 1) := by decide +kernel
theorem dL_law_314 : decode cL_law 314 = .ok (.bipush 32, 2) := by decide +kernel
theorem dL_law_316 : decode cL_law 316 = .ok (.lshl, 1) := by decide +kernel
theorem dL_law_317 : decode cL_law 317 = .ok (.aload_n 0, 1) := by decide +kernel
theorem dL_law_318 : decode cL_law 318 = .ok (.iload_n 3, 1) := by decide +kernel
theorem dL_law_319 : decode cL_law 319 = .ok (.iconst 4, 1) := by decide +kernel
theorem dL_law_320 : decode cL_law 320 = .ok (.iadd, 1) := by decide +kernel
theorem dL_law_321 : decode cL_law 321 = .ok (.iaload, 1) := by decide +kernel
theorem dL_law_322 : decode cL_law 322 = .ok (.i2l, 1) := by decide +kernel
theorem dL_law_323 : decode cL_law 323 = .ok (.ldc2_w 18, 3) := by decide +kernel
theorem dL_law_326 : decode cL_law 326 = .ok (.land, 1) := by decide +kernel
theorem dL_law_327 : decode cL_law 327 = .ok (.lor, 1) := by decide +kernel
theorem dL_law_328 : decode cL_law 328 = .ok (.invokevirtual 24, 3) := by decide +kernel
theorem dL_law_331 : decode cL_law 331 = .ok (.if_icmp .eq 1143, 3) := by decide +kernel
theorem dL_law_334 : decode cL_law 334 = .ok (.iconst 0, 1) := by decide +kernel
theorem dL_law_335 : decode cL_law 335 = .ok (.ireturn, 1) := by decide +kernel
theorem dL_law_336 : decode cL_law 336 = .ok (.aload_n 1, 1) := by decide +kernel
theorem dL_law_337 : decode cL_law 337 = .ok (.aload_n 0, 1) := by decide +kernel
theorem dL_law_338 : decode cL_law 338 = .ok (.iload_n 3, 1) := by decide +kernel
theorem dL_law_339 : decode cL_law 339 = .ok (.iconst 1, 1) := by decide +kernel
theorem dL_law_340 : decode cL_law 340 = .ok (.iadd, 1) := by decide +kernel
theorem dL_law_341 : decode cL_law 341 = .ok (.iaload, 1) := by decide +kernel
theorem dL_law_342 : decode cL_law 342 = .ok (.aload_n 0, 1) := by decide +kernel
theorem dL_law_343 : decode cL_law 343 = .ok (.iload_n 3, 1) := by decide +kernel
theorem dL_law_344 : decode cL_law 344 = .ok (.iconst 2, 1) := by decide +kernel
theorem dL_law_345 : decode cL_law 345 = .ok (.iadd, 1) := by decide +kernel
theorem dL_law_346 : decode cL_law 346 = .ok (.iaload, 1) := by decide +kernel
theorem dL_law_347 : decode cL_law 347 = .ok (.aload_n 0, 1) := by decide +kernel
theorem dL_law_348 : decode cL_law 348 = .ok (.iload_n 3, 1) := by decide +kernel
theorem dL_law_349 : decode cL_law 349 = .ok (.iconst 3, 1) := by decide +kernel
theorem dL_law_350 : decode cL_law 350 = .ok (.iadd, 1) := by decide +kernel
theorem dL_law_351 : decode cL_law 351 = .ok (.iaload, 1) := by decide +kernel
theorem dL_law_352 : decode cL_law 352 = .ok (.aload_n 0, 1) := by decide +kernel
theorem dL_law_353 : decode cL_law 353 = .ok (.iload_n 3, 1) := by decide +kernel
theorem dL_law_354 : decode cL_law 354 = .ok (.iconst 4, 1) := by decide +kernel
theorem dL_law_355 : decode cL_law 355 = .ok (.iadd, 1) := by decide +kernel
theorem dL_law_356 : decode cL_law 356 = .ok (.iaload, 1) := by decide +kernel
theorem dL_law_357 : decode cL_law 357 = .ok (.aload_n 0, 1) := by decide +kernel
theorem dL_law_358 : decode cL_law 358 = .ok (.iload_n 3, 1) := by decide +kernel
theorem dL_law_359 : decode cL_law 359 = .ok (.iconst 5, 1) := by decide +kernel
theorem dL_law_360 : decode cL_law 360 = .ok (.iadd, 1) := by decide +kernel
theorem dL_law_361 : decode cL_law 361 = .ok (.iaload, 1) := by decide +kernel
theorem dL_law_362 : decode cL_law 362 = .ok (.invokevirtual 25, 3) := by decide +kernel
theorem dL_law_365 : decode cL_law 365 = .ok (.aload_n 2, 1) := by decide +kernel
theorem dL_law_366 : decode cL_law 366 = .ok (.aload_n 0, 1) := by decide +kernel
theorem dL_law_367 : decode cL_law 367 = .ok (.iload_n 3, 1) := by decide +kernel
theorem dL_law_368 : decode cL_law 368 = .ok (.iconst 1, 1) := by decide +kernel
theorem dL_law_369 : decode cL_law 369 = .ok (.iadd, 1) := by decide +kernel
theorem dL_law_370 : decode cL_law 370 = .ok (.iaload, 1) := by decide +kernel
theorem dL_law_371 : decode cL_law 371 = .ok (.aload_n 0, 1) := by decide +kernel
theorem dL_law_372 : decode cL_law 372 = .ok (.iload_n 3, 1) := by decide +kernel
theorem dL_law_373 : decode cL_law 373 = .ok (.iconst 2, 1) := by decide +kernel
theorem dL_law_374 : decode cL_law 374 = .ok (.iadd, 1) := by decide +kernel
theorem dL_law_375 : decode cL_law 375 = .ok (.iaload, 1) := by decide +kernel
theorem dL_law_376 : decode cL_law 376 = .ok (.aload_n 0, 1) := by decide +kernel
theorem dL_law_377 : decode cL_law 377 = .ok (.iload_n 3, 1) := by decide +kernel
theorem dL_law_378 : decode cL_law 378 = .ok (.iconst 3, 1) := by decide +kernel
theorem dL_law_379 : decode cL_law 379 = .ok (.iadd, 1) := by decide +kernel
theorem dL_law_380 : decode cL_law 380 = .ok (.iaload, 1) := by decide +kernel
theorem dL_law_381 : decode cL_law 381 = .ok (.aload_n 0, 1) := by decide +kernel
theorem dL_law_382 : decode cL_law 382 = .ok (.iload_n 3, 1) := by decide +kernel
theorem dL_law_383 : decode cL_law 383 = .ok (.iconst 4, 1) := by decide +kernel
theorem dL_law_384 : decode cL_law 384 = .ok (.iadd, 1) := by decide +kernel
theorem dL_law_385 : decode cL_law 385 = .ok (.iaload, 1) := by decide +kernel
theorem dL_law_386 : decode cL_law 386 = .ok (.aload_n 0, 1) := by decide +kernel
theorem dL_law_387 : decode cL_law 387 = .ok (.iload_n 3, 1) := by decide +kernel
theorem dL_law_388 : decode cL_law 388 = .ok (.iconst 5, 1) := by decide +kernel
theorem dL_law_389 : decode cL_law 389 = .ok (.iadd, 1) := by decide +kernel
theorem dL_law_390 : decode cL_law 390 = .ok (.iaload, 1) := by decide +kernel
theorem dL_law_391 : decode cL_law 391 = .ok (.invokevirtual 29, 3) := by decide +kernel
theorem dL_law_394 : decode cL_law 394 = .ok (.if_icmp .eq 1080, 3) := by decide +kernel
theorem dL_law_397 : decode cL_law 397 = .ok (.iconst 0, 1) := by decide +kernel
theorem dL_law_398 : decode cL_law 398 = .ok (.ireturn, 1) := by decide +kernel
theorem dL_law_399 : decode cL_law 399 = .ok (.aload_n 1, 1) := by decide +kernel
theorem dL_law_400 : decode cL_law 400 = .ok (.aload_n 0, 1) := by decide +kernel
theorem dL_law_401 : decode cL_law 401 = .ok (.iload_n 3, 1) := by decide +kernel
theorem dL_law_402 : decode cL_law 402 = .ok (.iconst 1, 1) := by decide +kernel
theorem dL_law_403 : decode cL_law 403 = .ok (.iadd, 1) := by decide +kernel
theorem dL_law_404 : decode cL_law 404 = .ok (.iaload, 1) := by decide +kernel
theorem dL_law_405 : decode cL_law 405 = .ok (.aload_n 0, 1) := by decide +kernel
theorem dL_law_406 : decode cL_law 406 = .ok (.iload_n 3, 1) := by decide +kernel
theorem dL_law_407 : decode cL_law 407 = .ok (.iconst 2, 1) := by decide +kernel
theorem dL_law_408 : decode cL_law 408 = .ok (.iadd, 1) := by decide +kernel
theorem dL_law_409 : decode cL_law 409 = .ok (.iaload, 1) := by decide +kernel
theorem dL_law_410 : decode cL_law 410 = .ok (.invokevirtual 30, 3) := by decide +kernel
theorem dL_law_413 : decode cL_law 413 = .ok (.aload_n 2, 1) := by decide +kernel
theorem dL_law_414 : decode cL_law 414 = .ok (.aload_n 0, 1) := by decide +kernel
theorem dL_law_415 : decode cL_law 415 = .ok (.iload_n 3, 1) := by decide +kernel
theorem dL_law_416 : decode cL_law 416 = .ok (.iconst 1, 1) := by decide +kernel
theorem dL_law_417 : decode cL_law 417 = .ok (.iadd, 1) := by decide +kernel
theorem dL_law_418 : decode cL_law 418 = .ok (.iaload, 1) := by decide +kernel
theorem dL_law_419 : decode cL_law 419 = .ok (.aload_n 0, 1) := by decide +kernel
theorem dL_law_420 : decode cL_law 420 = .ok (.iload_n 3, 1) := by decide +kernel
theorem dL_law_421 : decode cL_law 421 = .ok (.iconst 2, 1) := by decide +kernel
theorem dL_law_422 : decode cL_law 422 = .ok (.iadd, 1) := by decide +kernel
theorem dL_law_423 : decode cL_law 423 = .ok (.iaload, 1) := by decide +kernel
theorem dL_law_424 : decode cL_law 424 = .ok (.invokevirtual 34, 3) := by decide +kernel
theorem dL_law_427 : decode cL_law 427 = .ok (.lcmp, 1) := by decide +kernel
theorem dL_law_428 : decode cL_law 428 = .ok (.ifCond .eq 1046, 3) := by decide +kernel
theorem dL_law_431 : decode cL_law 431 = .ok (.iconst 0, 1) := by decide +kernel
theorem dL_law_432 : decode cL_law 432 = .ok (.ireturn, 1) := by decide +kernel
theorem dL_law_433 : decode cL_law 433 = .ok (.aload_n 1, 1) := by decide +kernel
theorem dL_law_434 : decode cL_law 434 = .ok (.aload_n 0, 1) := by decide +kernel
theorem dL_law_435 : decode cL_law 435 = .ok (.iload_n 3, 1) := by decide +kernel
theorem dL_law_436 : decode cL_law 436 = .ok (.iconst 1, 1) := by decide +kernel
theorem dL_law_437 : decode cL_law 437 = .ok (.iadd, 1) := by decide +kernel
theorem dL_law_438 : decode cL_law 438 = .ok (.iaload, 1) := by decide +kernel
theorem dL_law_439 : decode cL_law 439 = .ok (.invokevirtual 35, 3) := by decide +kernel
theorem dL_law_442 : decode cL_law 442 = .ok (.aload_n 2, 1) := by decide +kernel
theorem dL_law_443 : decode cL_law 443 = .ok (.aload_n 0, 1) := by decide +kernel
theorem dL_law_444 : decode cL_law 444 = .ok (.iload_n 3, 1) := by decide +kernel
theorem dL_law_445 : decode cL_law 445 = .ok (.iconst 1, 1) := by decide +kernel
theorem dL_law_446 : decode cL_law 446 = .ok (.iadd, 1) := by decide +kernel
theorem dL_law_447 : decode cL_law 447 = .ok (.iaload, 1) := by decide +kernel
theorem dL_law_448 : decode cL_law 448 = .ok (.invokevirtual 39, 3) := by decide +kernel
theorem dL_law_451 : decode cL_law 451 = .ok (.if_icmp .eq 1023, 3) := by decide +kernel
theorem dL_law_454 : decode cL_law 454 = .ok (.iconst 0, 1) := by decide +kernel
theorem dL_law_455 : decode cL_law 455 = .ok (.ireturn, 1) := by decide +kernel
theorem dL_law_456 : decode cL_law 456 = .ok (.aload_n 1, 1) := by decide +kernel
theorem dL_law_457 : decode cL_law 457 = .ok (.aload_n 0, 1) := by decide +kernel
theorem dL_law_458 : decode cL_law 458 = .ok (.iload_n 3, 1) := by decide +kernel
theorem dL_law_459 : decode cL_law 459 = .ok (.iconst 1, 1) := by decide +kernel
theorem dL_law_460 : decode cL_law 460 = .ok (.iadd, 1) := by decide +kernel
theorem dL_law_461 : decode cL_law 461 = .ok (.iaload, 1) := by decide +kernel
theorem dL_law_462 : decode cL_law 462 = .ok (.aload_n 0, 1) := by decide +kernel
theorem dL_law_463 : decode cL_law 463 = .ok (.iload_n 3, 1) := by decide +kernel
theorem dL_law_464 : decode cL_law 464 = .ok (.iconst 2, 1) := by decide +kernel
theorem dL_law_465 : decode cL_law 465 = .ok (.iadd, 1) := by decide +kernel
theorem dL_law_466 : decode cL_law 466 = .ok (.iaload, 1) := by decide +kernel
theorem dL_law_467 : decode cL_law 467 = .ok (.aload_n 0, 1) := by decide +kernel
theorem dL_law_468 : decode cL_law 468 = .ok (.iload_n 3, 1) := by decide +kernel
theorem dL_law_469 : decode cL_law 469 = .ok (.iconst 3, 1) := by decide +kernel
theorem dL_law_470 : decode cL_law 470 = .ok (.iadd, 1) := by decide +kernel
theorem dL_law_471 : decode cL_law 471 = .ok (.iaload, 1) := by decide +kernel
theorem dL_law_472 : decode cL_law 472 = .ok (.invokevirtual 40, 3) := by decide +kernel
theorem dL_law_475 : decode cL_law 475 = .ok (.aload_n 2, 1) := by decide +kernel
theorem dL_law_476 : decode cL_law 476 = .ok (.aload_n 0, 1) := by decide +kernel
theorem dL_law_477 : decode cL_law 477 = .ok (.iload_n 3, 1) := by decide +kernel
theorem dL_law_478 : decode cL_law 478 = .ok (.iconst 1, 1) := by decide +kernel
theorem dL_law_479 : decode cL_law 479 = .ok (.iadd, 1) := by decide +kernel
theorem dL_law_480 : decode cL_law 480 = .ok (.iaload, 1) := by decide +kernel
theorem dL_law_481 : decode cL_law 481 = .ok (.aload_n 0, 1) := by decide +kernel
theorem dL_law_482 : decode cL_law 482 = .ok (.iload_n 3, 1) := by decide +kernel
theorem dL_law_483 : decode cL_law 483 = .ok (.iconst 2, 1) := by decide +kernel
theorem dL_law_484 : decode cL_law 484 = .ok (.iadd, 1) := by decide +kernel
theorem dL_law_485 : decode cL_law 485 = .ok (.iaload, 1) := by decide +kernel
theorem dL_law_486 : decode cL_law 486 = .ok (.aload_n 0, 1) := by decide +kernel
theorem dL_law_487 : decode cL_law 487 = .ok (.iload_n 3, 1) := by decide +kernel
theorem dL_law_488 : decode cL_law 488 = .ok (.iconst 3, 1) := by decide +kernel
theorem dL_law_489 : decode cL_law 489 = .ok (.iadd, 1) := by decide +kernel
theorem dL_law_490 : decode cL_law 490 = .ok (.iaload, 1) := by decide +kernel
theorem dL_law_491 : decode cL_law 491 = .ok (.invokevirtual 43, 3) := by decide +kernel
theorem dL_law_494 : decode cL_law 494 = .ok (.if_icmp .eq 980, 3) := by decide +kernel
theorem dL_law_497 : decode cL_law 497 = .ok (.iconst 0, 1) := by decide +kernel
theorem dL_law_498 : decode cL_law 498 = .ok (.ireturn, 1) := by decide +kernel
theorem dL_law_499 : decode cL_law 499 = .ok (.aload_n 1, 1) := by decide +kernel
theorem dL_law_500 : decode cL_law 500 = .ok (.aload_n 0, 1) := by decide +kernel
theorem dL_law_501 : decode cL_law 501 = .ok (.iload_n 3, 1) := by decide +kernel
theorem dL_law_502 : decode cL_law 502 = .ok (.iconst 1, 1) := by decide +kernel
theorem dL_law_503 : decode cL_law 503 = .ok (.iadd, 1) := by decide +kernel
theorem dL_law_504 : decode cL_law 504 = .ok (.iaload, 1) := by decide +kernel
theorem dL_law_505 : decode cL_law 505 = .ok (.aload_n 0, 1) := by decide +kernel
theorem dL_law_506 : decode cL_law 506 = .ok (.iload_n 3, 1) := by decide +kernel
theorem dL_law_507 : decode cL_law 507 = .ok (.iconst 2, 1) := by decide +kernel
theorem dL_law_508 : decode cL_law 508 = .ok (.iadd, 1) := by decide +kernel
theorem dL_law_509 : decode cL_law 509 = .ok (.iaload, 1) := by decide +kernel
theorem dL_law_510 : decode cL_law 510 = .ok (.invokevirtual 44, 3) := by decide +kernel
theorem dL_law_513 : decode cL_law 513 = .ok (.aload_n 2, 1) := by decide +kernel
theorem dL_law_514 : decode cL_law 514 = .ok (.aload_n 0, 1) := by decide +kernel
theorem dL_law_515 : decode cL_law 515 = .ok (.iload_n 3, 1) := by decide +kernel
theorem dL_law_516 : decode cL_law 516 = .ok (.iconst 1, 1) := by decide +kernel
theorem dL_law_517 : decode cL_law 517 = .ok (.iadd, 1) := by decide +kernel
theorem dL_law_518 : decode cL_law 518 = .ok (.iaload, 1) := by decide +kernel
theorem dL_law_519 : decode cL_law 519 = .ok (.aload_n 0, 1) := by decide +kernel
theorem dL_law_520 : decode cL_law 520 = .ok (.iload_n 3, 1) := by decide +kernel
theorem dL_law_521 : decode cL_law 521 = .ok (.iconst 2, 1) := by decide +kernel
theorem dL_law_522 : decode cL_law 522 = .ok (.iadd, 1) := by decide +kernel
theorem dL_law_523 : decode cL_law 523 = .ok (.iaload, 1) := by decide +kernel
theorem dL_law_524 : decode cL_law 524 = .ok (.invokevirtual 48, 3) := by decide +kernel
theorem dL_law_527 : decode cL_law 527 = .ok (.if_icmp .eq 947, 3) := by decide +kernel
theorem dL_law_530 : decode cL_law 530 = .ok (.iconst 0, 1) := by decide +kernel
theorem dL_law_531 : decode cL_law 531 = .ok (.ireturn, 1) := by decide +kernel
theorem dL_law_532 : decode cL_law 532 = .ok (.aload_n 1, 1) := by decide +kernel
theorem dL_law_533 : decode cL_law 533 = .ok (.aload_n 0, 1) := by decide +kernel
theorem dL_law_534 : decode cL_law 534 = .ok (.iload_n 3, 1) := by decide +kernel
theorem dL_law_535 : decode cL_law 535 = .ok (.iconst 1, 1) := by decide +kernel
theorem dL_law_536 : decode cL_law 536 = .ok (.iadd, 1) := by decide +kernel
theorem dL_law_537 : decode cL_law 537 = .ok (.iaload, 1) := by decide +kernel
theorem dL_law_538 : decode cL_law 538 = .ok (.invokevirtual 49, 3) := by decide +kernel
theorem dL_law_541 : decode cL_law 541 = .ok (.aload_n 2, 1) := by decide +kernel
theorem dL_law_542 : decode cL_law 542 = .ok (.aload_n 0, 1) := by decide +kernel
theorem dL_law_543 : decode cL_law 543 = .ok (.iload_n 3, 1) := by decide +kernel
theorem dL_law_544 : decode cL_law 544 = .ok (.iconst 1, 1) := by decide +kernel
theorem dL_law_545 : decode cL_law 545 = .ok (.iadd, 1) := by decide +kernel
theorem dL_law_546 : decode cL_law 546 = .ok (.iaload, 1) := by decide +kernel
theorem dL_law_547 : decode cL_law 547 = .ok (.invokevirtual 52, 3) := by decide +kernel
theorem dL_law_550 : decode cL_law 550 = .ok (.if_icmp .eq 924, 3) := by decide +kernel
theorem dL_law_553 : decode cL_law 553 = .ok (.iconst 0, 1) := by decide +kernel
theorem dL_law_554 : decode cL_law 554 = .ok (.ireturn, 1) := by decide +kernel
theorem dL_law_555 : decode cL_law 555 = .ok (.aload_n 1, 1) := by decide +kernel
theorem dL_law_556 : decode cL_law 556 = .ok (.invokevirtual 53, 3) := by decide +kernel
theorem dL_law_559 : decode cL_law 559 = .ok (.aload_n 2, 1) := by decide +kernel
theorem dL_law_560 : decode cL_law 560 = .ok (.invokevirtual 57, 3) := by decide +kernel
theorem dL_law_563 : decode cL_law 563 = .ok (.if_icmp .eq 911, 3) := by decide +kernel
theorem dL_law_566 : decode cL_law 566 = .ok (.iconst 0, 1) := by decide +kernel
theorem dL_law_567 : decode cL_law 567 = .ok (.ireturn, 1) := by decide +kernel
theorem dL_law_568 : decode cL_law 568 = .ok (.aload_n 1, 1) := by decide +kernel
theorem dL_law_569 : decode cL_law 569 = .ok (.invokevirtual 58, 3) := by decide +kernel
theorem dL_law_572 : decode cL_law 572 = .ok (.aload_n 2, 1) := by decide +kernel
theorem dL_law_573 : decode cL_law 573 = .ok (.invokevirtual 61, 3) := by decide +kernel
theorem dL_law_576 : decode cL_law 576 = .ok (.if_icmp .eq 898, 3) := by decide +kernel
theorem dL_law_579 : decode cL_law 579 = .ok (.iconst 0, 1) := by decide +kernel
theorem dL_law_580 : decode cL_law 580 = .ok (.ireturn, 1) := by decide +kernel
theorem dL_law_581 : decode cL_law 581 = .ok (.aload_n 1, 1) := by decide +kernel
theorem dL_law_582 : decode cL_law 582 = .ok (.invokevirtual 62, 3) := by decide +kernel
theorem dL_law_585 : decode cL_law 585 = .ok (.aload_n 2, 1) := by decide +kernel
theorem dL_law_586 : decode cL_law 586 = .ok (.invokevirtual 65, 3) := by decide +kernel
theorem dL_law_589 : decode cL_law 589 = .ok (.if_icmp .eq 885, 3) := by decide +kernel
theorem dL_law_592 : decode cL_law 592 = .ok (.iconst 0, 1) := by decide +kernel
theorem dL_law_593 : decode cL_law 593 = .ok (.ireturn, 1) := by decide +kernel
theorem dL_law_594 : decode cL_law 594 = .ok (.aload_n 1, 1) := by decide +kernel
theorem dL_law_595 : decode cL_law 595 = .ok (.aload_n 0, 1) := by decide +kernel
theorem dL_law_596 : decode cL_law 596 = .ok (.iload_n 3, 1) := by decide +kernel
theorem dL_law_597 : decode cL_law 597 = .ok (.iconst 1, 1) := by decide +kernel
theorem dL_law_598 : decode cL_law 598 = .ok (.iadd, 1) := by decide +kernel
theorem dL_law_599 : decode cL_law 599 = .ok (.iaload, 1) := by decide +kernel
theorem dL_law_600 : decode cL_law 600 = .ok (.invokevirtual 66, 3) := by decide +kernel
theorem dL_law_603 : decode cL_law 603 = .ok (.aload_n 2, 1) := by decide +kernel
theorem dL_law_604 : decode cL_law 604 = .ok (.aload_n 0, 1) := by decide +kernel
theorem dL_law_605 : decode cL_law 605 = .ok (.iload_n 3, 1) := by decide +kernel
theorem dL_law_606 : decode cL_law 606 = .ok (.iconst 1, 1) := by decide +kernel
theorem dL_law_607 : decode cL_law 607 = .ok (.iadd, 1) := by decide +kernel
theorem dL_law_608 : decode cL_law 608 = .ok (.iaload, 1) := by decide +kernel
theorem dL_law_609 : decode cL_law 609 = .ok (.invokevirtual 69, 3) := by decide +kernel
theorem dL_law_612 : decode cL_law 612 = .ok (.if_icmp .eq 862, 3) := by decide +kernel
theorem dL_law_615 : decode cL_law 615 = .ok (.iconst 0, 1) := by decide +kernel
theorem dL_law_616 : decode cL_law 616 = .ok (.ireturn, 1) := by decide +kernel
theorem dL_law_617 : decode cL_law 617 = .ok (.aload_n 1, 1) := by decide +kernel
theorem dL_law_618 : decode cL_law 618 = .ok (.aload_n 0, 1) := by decide +kernel
theorem dL_law_619 : decode cL_law 619 = .ok (.iload_n 3, 1) := by decide +kernel
theorem dL_law_620 : decode cL_law 620 = .ok (.iconst 1, 1) := by decide +kernel
theorem dL_law_621 : decode cL_law 621 = .ok (.iadd, 1) := by decide +kernel
theorem dL_law_622 : decode cL_law 622 = .ok (.iaload, 1) := by decide +kernel
theorem dL_law_623 : decode cL_law 623 = .ok (.invokevirtual 70, 3) := by decide +kernel
theorem dL_law_626 : decode cL_law 626 = .ok (.aload_n 2, 1) := by decide +kernel
theorem dL_law_627 : decode cL_law 627 = .ok (.aload_n 0, 1) := by decide +kernel
theorem dL_law_628 : decode cL_law 628 = .ok (.iload_n 3, 1) := by decide +kernel
theorem dL_law_629 : decode cL_law 629 = .ok (.iconst 1, 1) := by decide +kernel
theorem dL_law_630 : decode cL_law 630 = .ok (.iadd, 1) := by decide +kernel
theorem dL_law_631 : decode cL_law 631 = .ok (.iaload, 1) := by decide +kernel
theorem dL_law_632 : decode cL_law 632 = .ok (.invokevirtual 73, 3) := by decide +kernel
theorem dL_law_635 : decode cL_law 635 = .ok (.if_icmp .eq 839, 3) := by decide +kernel
theorem dL_law_638 : decode cL_law 638 = .ok (.iconst 0, 1) := by decide +kernel
theorem dL_law_639 : decode cL_law 639 = .ok (.ireturn, 1) := by decide +kernel
theorem dL_law_640 : decode cL_law 640 = .ok (.aload_n 1, 1) := by decide +kernel
theorem dL_law_641 : decode cL_law 641 = .ok (.aload_n 0, 1) := by decide +kernel
theorem dL_law_642 : decode cL_law 642 = .ok (.iload_n 3, 1) := by decide +kernel
theorem dL_law_643 : decode cL_law 643 = .ok (.iconst 1, 1) := by decide +kernel
theorem dL_law_644 : decode cL_law 644 = .ok (.iadd, 1) := by decide +kernel
theorem dL_law_645 : decode cL_law 645 = .ok (.iaload, 1) := by decide +kernel
theorem dL_law_646 : decode cL_law 646 = .ok (.invokevirtual 74, 3) := by decide +kernel
theorem dL_law_649 : decode cL_law 649 = .ok (.aload_n 2, 1) := by decide +kernel
theorem dL_law_650 : decode cL_law 650 = .ok (.aload_n 0, 1) := by decide +kernel
theorem dL_law_651 : decode cL_law 651 = .ok (.iload_n 3, 1) := by decide +kernel
theorem dL_law_652 : decode cL_law 652 = .ok (.iconst 1, 1) := by decide +kernel
theorem dL_law_653 : decode cL_law 653 = .ok (.iadd, 1) := by decide +kernel
theorem dL_law_654 : decode cL_law 654 = .ok (.iaload, 1) := by decide +kernel
theorem dL_law_655 : decode cL_law 655 = .ok (.invokevirtual 77, 3) := by decide +kernel
theorem dL_law_658 : decode cL_law 658 = .ok (.if_icmp .eq 816, 3) := by decide +kernel
theorem dL_law_661 : decode cL_law 661 = .ok (.iconst 0, 1) := by decide +kernel
theorem dL_law_662 : decode cL_law 662 = .ok (.ireturn, 1) := by decide +kernel
theorem dL_law_663 : decode cL_law 663 = .ok (.aload_n 1, 1) := by decide +kernel
theorem dL_law_664 : decode cL_law 664 = .ok (.aload_n 0, 1) := by decide +kernel
theorem dL_law_665 : decode cL_law 665 = .ok (.iload_n 3, 1) := by decide +kernel
theorem dL_law_666 : decode cL_law 666 = .ok (.iconst 1, 1) := by decide +kernel
theorem dL_law_667 : decode cL_law 667 = .ok (.iadd, 1) := by decide +kernel
theorem dL_law_668 : decode cL_law 668 = .ok (.iaload, 1) := by decide +kernel
theorem dL_law_669 : decode cL_law 669 = .ok (.aload_n 0, 1) := by decide +kernel
theorem dL_law_670 : decode cL_law 670 = .ok (.iload_n 3, 1) := by decide +kernel
theorem dL_law_671 : decode cL_law 671 = .ok (.iconst 2, 1) := by decide +kernel
theorem dL_law_672 : decode cL_law 672 = .ok (.iadd, 1) := by decide +kernel
theorem dL_law_673 : decode cL_law 673 = .ok (.iaload, 1) := by decide +kernel
theorem dL_law_674 : decode cL_law 674 = .ok (.aload_n 0, 1) := by decide +kernel
theorem dL_law_675 : decode cL_law 675 = .ok (.iload_n 3, 1) := by decide +kernel
theorem dL_law_676 : decode cL_law 676 = .ok (.iconst 3, 1) := by decide +kernel
theorem dL_law_677 : decode cL_law 677 = .ok (.iadd, 1) := by decide +kernel
theorem dL_law_678 : decode cL_law 678 = .ok (.iaload, 1) := by decide +kernel
theorem dL_law_679 : decode cL_law 679 = .ok (.invokevirtual 78, 3) := by decide +kernel
theorem dL_law_682 : decode cL_law 682 = .ok (.aload_n 2, 1) := by decide +kernel
theorem dL_law_683 : decode cL_law 683 = .ok (.aload_n 0, 1) := by decide +kernel
theorem dL_law_684 : decode cL_law 684 = .ok (.iload_n 3, 1) := by decide +kernel
theorem dL_law_685 : decode cL_law 685 = .ok (.iconst 1, 1) := by decide +kernel
theorem dL_law_686 : decode cL_law 686 = .ok (.iadd, 1) := by decide +kernel
theorem dL_law_687 : decode cL_law 687 = .ok (.iaload, 1) := by decide +kernel
theorem dL_law_688 : decode cL_law 688 = .ok (.aload_n 0, 1) := by decide +kernel
theorem dL_law_689 : decode cL_law 689 = .ok (.iload_n 3, 1) := by decide +kernel
theorem dL_law_690 : decode cL_law 690 = .ok (.iconst 2, 1) := by decide +kernel
theorem dL_law_691 : decode cL_law 691 = .ok (.iadd, 1) := by decide +kernel
theorem dL_law_692 : decode cL_law 692 = .ok (.iaload, 1) := by decide +kernel
theorem dL_law_693 : decode cL_law 693 = .ok (.aload_n 0, 1) := by decide +kernel
theorem dL_law_694 : decode cL_law 694 = .ok (.iload_n 3, 1) := by decide +kernel
theorem dL_law_695 : decode cL_law 695 = .ok (.iconst 3, 1) := by decide +kernel
theorem dL_law_696 : decode cL_law 696 = .ok (.iadd, 1) := by decide +kernel
theorem dL_law_697 : decode cL_law 697 = .ok (.iaload, 1) := by decide +kernel
theorem dL_law_698 : decode cL_law 698 = .ok (.invokevirtual 81, 3) := by decide +kernel
theorem dL_law_701 : decode cL_law 701 = .ok (.if_icmp .eq 773, 3) := by decide +kernel
theorem dL_law_704 : decode cL_law 704 = .ok (.iconst 0, 1) := by decide +kernel
theorem dL_law_705 : decode cL_law 705 = .ok (.ireturn, 1) := by decide +kernel
theorem dL_law_706 : decode cL_law 706 = .ok (.aload_n 1, 1) := by decide +kernel
theorem dL_law_707 : decode cL_law 707 = .ok (.aload_n 0, 1) := by decide +kernel
theorem dL_law_708 : decode cL_law 708 = .ok (.iload_n 3, 1) := by decide +kernel
theorem dL_law_709 : decode cL_law 709 = .ok (.iconst 1, 1) := by decide +kernel
theorem dL_law_710 : decode cL_law 710 = .ok (.iadd, 1) := by decide +kernel
theorem dL_law_711 : decode cL_law 711 = .ok (.iaload, 1) := by decide +kernel
theorem dL_law_712 : decode cL_law 712 = .ok (.invokevirtual 82, 3) := by decide +kernel
theorem dL_law_715 : decode cL_law 715 = .ok (.aload_n 2, 1) := by decide +kernel
theorem dL_law_716 : decode cL_law 716 = .ok (.aload_n 0, 1) := by decide +kernel
theorem dL_law_717 : decode cL_law 717 = .ok (.iload_n 3, 1) := by decide +kernel
theorem dL_law_718 : decode cL_law 718 = .ok (.iconst 1, 1) := by decide +kernel
theorem dL_law_719 : decode cL_law 719 = .ok (.iadd, 1) := by decide +kernel
theorem dL_law_720 : decode cL_law 720 = .ok (.iaload, 1) := by decide +kernel
theorem dL_law_721 : decode cL_law 721 = .ok (.invokevirtual 85, 3) := by decide +kernel
theorem dL_law_724 : decode cL_law 724 = .ok (.if_icmp .eq 750, 3) := by decide +kernel
theorem dL_law_727 : decode cL_law 727 = .ok (.iconst 0, 1) := by decide +kernel
theorem dL_law_728 : decode cL_law 728 = .ok (.ireturn, 1) := by decide +kernel
theorem dL_law_729 : decode cL_law 729 = .ok (.aload_n 1, 1) := by decide +kernel
theorem dL_law_730 : decode cL_law 730 = .ok (.invokevirtual 86, 3) := by decide +kernel
theorem dL_law_733 : decode cL_law 733 = .ok (.aload_n 2, 1) := by decide +kernel
theorem dL_law_734 : decode cL_law 734 = .ok (.invokevirtual 89, 3) := by decide +kernel
theorem dL_law_737 : decode cL_law 737 = .ok (.if_icmp .eq 737, 3) := by decide +kernel
theorem dL_law_740 : decode cL_law 740 = .ok (.iconst 0, 1) := by decide +kernel
theorem dL_law_741 : decode cL_law 741 = .ok (.ireturn, 1) := by decide +kernel
theorem dL_law_742 : decode cL_law 742 = .ok (.aload_n 1, 1) := by decide +kernel
theorem dL_law_743 : decode cL_law 743 = .ok (.aload_n 0, 1) := by decide +kernel
theorem dL_law_744 : decode cL_law 744 = .ok (.iload_n 3, 1) := by decide +kernel
theorem dL_law_745 : decode cL_law 745 = .ok (.iconst 1, 1) := by decide +kernel
theorem dL_law_746 : decode cL_law 746 = .ok (.iadd, 1) := by decide +kernel
theorem dL_law_747 : decode cL_law 747 = .ok (.iaload, 1) := by decide +kernel
theorem dL_law_748 : decode cL_law 748 = .ok (.aload_n 0, 1) := by decide +kernel
theorem dL_law_749 : decode cL_law 749 = .ok (.iload_n 3, 1) := by decide +kernel
theorem dL_law_750 : decode cL_law 750 = .ok (.iconst 2, 1) := by decide +kernel
theorem dL_law_751 : decode cL_law 751 = .ok (.iadd, 1) := by decide +kernel
theorem dL_law_752 : decode cL_law 752 = .ok (.iaload, 1) := by decide +kernel
theorem dL_law_753 : decode cL_law 753 = .ok (.invokevirtual 90, 3) := by decide +kernel
theorem dL_law_756 : decode cL_law 756 = .ok (.aload_n 2, 1) := by decide +kernel
theorem dL_law_757 : decode cL_law 757 = .ok (.aload_n 0, 1) := by decide +kernel
theorem dL_law_758 : decode cL_law 758 = .ok (.iload_n 3, 1) := by decide +kernel
theorem dL_law_759 : decode cL_law 759 = .ok (.iconst 1, 1) := by decide +kernel
theorem dL_law_760 : decode cL_law 760 = .ok (.iadd, 1) := by decide +kernel
theorem dL_law_761 : decode cL_law 761 = .ok (.iaload, 1) := by decide +kernel
theorem dL_law_762 : decode cL_law 762 = .ok (.aload_n 0, 1) := by decide +kernel
theorem dL_law_763 : decode cL_law 763 = .ok (.iload_n 3, 1) := by decide +kernel
theorem dL_law_764 : decode cL_law 764 = .ok (.iconst 2, 1) := by decide +kernel
theorem dL_law_765 : decode cL_law 765 = .ok (.iadd, 1) := by decide +kernel
theorem dL_law_766 : decode cL_law 766 = .ok (.iaload, 1) := by decide +kernel
theorem dL_law_767 : decode cL_law 767 = .ok (.invokevirtual 93, 3) := by decide +kernel
theorem dL_law_770 : decode cL_law 770 = .ok (.if_icmp .eq 704, 3) := by decide +kernel
theorem dL_law_773 : decode cL_law 773 = .ok (.iconst 0, 1) := by decide +kernel
theorem dL_law_774 : decode cL_law 774 = .ok (.ireturn, 1) := by decide +kernel
theorem dL_law_775 : decode cL_law 775 = .ok (.aload_n 1, 1) := by decide +kernel
theorem dL_law_776 : decode cL_law 776 = .ok (.aload_n 0, 1) := by decide +kernel
theorem dL_law_777 : decode cL_law 777 = .ok (.iload_n 3, 1) := by decide +kernel
theorem dL_law_778 : decode cL_law 778 = .ok (.iconst 1, 1) := by decide +kernel
theorem dL_law_779 : decode cL_law 779 = .ok (.iadd, 1) := by decide +kernel
theorem dL_law_780 : decode cL_law 780 = .ok (.iaload, 1) := by decide +kernel
theorem dL_law_781 : decode cL_law 781 = .ok (.aload_n 0, 1) := by decide +kernel
theorem dL_law_782 : decode cL_law 782 = .ok (.iload_n 3, 1) := by decide +kernel
theorem dL_law_783 : decode cL_law 783 = .ok (.iconst 2, 1) := by decide +kernel
theorem dL_law_784 : decode cL_law 784 = .ok (.iadd, 1) := by decide +kernel
theorem dL_law_785 : decode cL_law 785 = .ok (.iaload, 1) := by decide +kernel
theorem dL_law_786 : decode cL_law 786 = .ok (.invokevirtual 94, 3) := by decide +kernel
theorem dL_law_789 : decode cL_law 789 = .ok (.aload_n 2, 1) := by decide +kernel
theorem dL_law_790 : decode cL_law 790 = .ok (.aload_n 0, 1) := by decide +kernel
theorem dL_law_791 : decode cL_law 791 = .ok (.iload_n 3, 1) := by decide +kernel
theorem dL_law_792 : decode cL_law 792 = .ok (.iconst 1, 1) := by decide +kernel
theorem dL_law_793 : decode cL_law 793 = .ok (.iadd, 1) := by decide +kernel
theorem dL_law_794 : decode cL_law 794 = .ok (.iaload, 1) := by decide +kernel
theorem dL_law_795 : decode cL_law 795 = .ok (.aload_n 0, 1) := by decide +kernel
theorem dL_law_796 : decode cL_law 796 = .ok (.iload_n 3, 1) := by decide +kernel
theorem dL_law_797 : decode cL_law 797 = .ok (.iconst 2, 1) := by decide +kernel
theorem dL_law_798 : decode cL_law 798 = .ok (.iadd, 1) := by decide +kernel
theorem dL_law_799 : decode cL_law 799 = .ok (.iaload, 1) := by decide +kernel
theorem dL_law_800 : decode cL_law 800 = .ok (.invokevirtual 97, 3) := by decide +kernel
theorem dL_law_803 : decode cL_law 803 = .ok (.if_icmp .eq 671, 3) := by decide +kernel
theorem dL_law_806 : decode cL_law 806 = .ok (.iconst 0, 1) := by decide +kernel
theorem dL_law_807 : decode cL_law 807 = .ok (.ireturn, 1) := by decide +kernel
theorem dL_law_808 : decode cL_law 808 = .ok (.aload_n 1, 1) := by decide +kernel
theorem dL_law_809 : decode cL_law 809 = .ok (.aload_n 0, 1) := by decide +kernel
theorem dL_law_810 : decode cL_law 810 = .ok (.iload_n 3, 1) := by decide +kernel
theorem dL_law_811 : decode cL_law 811 = .ok (.iconst 1, 1) := by decide +kernel
theorem dL_law_812 : decode cL_law 812 = .ok (.iadd, 1) := by decide +kernel
theorem dL_law_813 : decode cL_law 813 = .ok (.iaload, 1) := by decide +kernel
theorem dL_law_814 : decode cL_law 814 = .ok (.aload_n 0, 1) := by decide +kernel
theorem dL_law_815 : decode cL_law 815 = .ok (.iload_n 3, 1) := by decide +kernel
theorem dL_law_816 : decode cL_law 816 = .ok (.iconst 2, 1) := by decide +kernel
theorem dL_law_817 : decode cL_law 817 = .ok (.iadd, 1) := by decide +kernel
theorem dL_law_818 : decode cL_law 818 = .ok (.iaload, 1) := by decide +kernel
theorem dL_law_819 : decode cL_law 819 = .ok (.invokevirtual 98, 3) := by decide +kernel
theorem dL_law_822 : decode cL_law 822 = .ok (.aload_n 2, 1) := by decide +kernel
theorem dL_law_823 : decode cL_law 823 = .ok (.aload_n 0, 1) := by decide +kernel
theorem dL_law_824 : decode cL_law 824 = .ok (.iload_n 3, 1) := by decide +kernel
theorem dL_law_825 : decode cL_law 825 = .ok (.iconst 1, 1) := by decide +kernel
theorem dL_law_826 : decode cL_law 826 = .ok (.iadd, 1) := by decide +kernel
theorem dL_law_827 : decode cL_law 827 = .ok (.iaload, 1) := by decide +kernel
theorem dL_law_828 : decode cL_law 828 = .ok (.aload_n 0, 1) := by decide +kernel
theorem dL_law_829 : decode cL_law 829 = .ok (.iload_n 3, 1) := by decide +kernel
theorem dL_law_830 : decode cL_law 830 = .ok (.iconst 2, 1) := by decide +kernel
theorem dL_law_831 : decode cL_law 831 = .ok (.iadd, 1) := by decide +kernel
theorem dL_law_832 : decode cL_law 832 = .ok (.iaload, 1) := by decide +kernel
theorem dL_law_833 : decode cL_law 833 = .ok (.invokevirtual 101, 3) := by decide +kernel
theorem dL_law_836 : decode cL_law 836 = .ok (.if_icmp .eq 638, 3) := by decide +kernel
theorem dL_law_839 : decode cL_law 839 = .ok (.iconst 0, 1) := by decide +kernel
theorem dL_law_840 : decode cL_law 840 = .ok (.ireturn, 1) := by decide +kernel
theorem dL_law_841 : decode cL_law 841 = .ok (.aload_n 1, 1) := by decide +kernel
theorem dL_law_842 : decode cL_law 842 = .ok (.aload_n 0, 1) := by decide +kernel
theorem dL_law_843 : decode cL_law 843 = .ok (.iload_n 3, 1) := by decide +kernel
theorem dL_law_844 : decode cL_law 844 = .ok (.iconst 1, 1) := by decide +kernel
theorem dL_law_845 : decode cL_law 845 = .ok (.iadd, 1) := by decide +kernel
theorem dL_law_846 : decode cL_law 846 = .ok (.iaload, 1) := by decide +kernel
theorem dL_law_847 : decode cL_law 847 = .ok (.aload_n 0, 1) := by decide +kernel
theorem dL_law_848 : decode cL_law 848 = .ok (.iload_n 3, 1) := by decide +kernel
theorem dL_law_849 : decode cL_law 849 = .ok (.iconst 2, 1) := by decide +kernel
theorem dL_law_850 : decode cL_law 850 = .ok (.iadd, 1) := by decide +kernel
theorem dL_law_851 : decode cL_law 851 = .ok (.iaload, 1) := by decide +kernel
theorem dL_law_852 : decode cL_law 852 = .ok (.aload_n 0, 1) := by decide +kernel
theorem dL_law_853 : decode cL_law 853 = .ok (.iload_n 3, 1) := by decide +kernel
theorem dL_law_854 : decode cL_law 854 = .ok (.iconst 3, 1) := by decide +kernel
theorem dL_law_855 : decode cL_law 855 = .ok (.iadd, 1) := by decide +kernel
theorem dL_law_856 : decode cL_law 856 = .ok (.iaload, 1) := by decide +kernel
theorem dL_law_857 : decode cL_law 857 = .ok (.invokevirtual 102, 3) := by decide +kernel
theorem dL_law_860 : decode cL_law 860 = .ok (.aload_n 2, 1) := by decide +kernel
theorem dL_law_861 : decode cL_law 861 = .ok (.aload_n 0, 1) := by decide +kernel
theorem dL_law_862 : decode cL_law 862 = .ok (.iload_n 3, 1) := by decide +kernel
theorem dL_law_863 : decode cL_law 863 = .ok (.iconst 1, 1) := by decide +kernel
theorem dL_law_864 : decode cL_law 864 = .ok (.iadd, 1) := by decide +kernel
theorem dL_law_865 : decode cL_law 865 = .ok (.iaload, 1) := by decide +kernel
theorem dL_law_866 : decode cL_law 866 = .ok (.aload_n 0, 1) := by decide +kernel
theorem dL_law_867 : decode cL_law 867 = .ok (.iload_n 3, 1) := by decide +kernel
theorem dL_law_868 : decode cL_law 868 = .ok (.iconst 2, 1) := by decide +kernel
theorem dL_law_869 : decode cL_law 869 = .ok (.iadd, 1) := by decide +kernel
theorem dL_law_870 : decode cL_law 870 = .ok (.iaload, 1) := by decide +kernel
theorem dL_law_871 : decode cL_law 871 = .ok (.aload_n 0, 1) := by decide +kernel
theorem dL_law_872 : decode cL_law 872 = .ok (.iload_n 3, 1) := by decide +kernel
theorem dL_law_873 : decode cL_law 873 = .ok (.iconst 3, 1) := by decide +kernel
theorem dL_law_874 : decode cL_law 874 = .ok (.iadd, 1) := by decide +kernel
theorem dL_law_875 : decode cL_law 875 = .ok (.iaload, 1) := by decide +kernel
theorem dL_law_876 : decode cL_law 876 = .ok (.invokevirtual 105, 3) := by decide +kernel
theorem dL_law_879 : decode cL_law 879 = .ok (.if_icmp .eq 595, 3) := by decide +kernel
theorem dL_law_882 : decode cL_law 882 = .ok (.iconst 0, 1) := by decide +kernel
theorem dL_law_883 : decode cL_law 883 = .ok (.ireturn, 1) := by decide +kernel
theorem dL_law_884 : decode cL_law 884 = .ok (.aload_n 1, 1) := by decide +kernel
theorem dL_law_885 : decode cL_law 885 = .ok (.aload_n 0, 1) := by decide +kernel
theorem dL_law_886 : decode cL_law 886 = .ok (.iload_n 3, 1) := by decide +kernel
theorem dL_law_887 : decode cL_law 887 = .ok (.iconst 1, 1) := by decide +kernel
theorem dL_law_888 : decode cL_law 888 = .ok (.iadd, 1) := by decide +kernel
theorem dL_law_889 : decode cL_law 889 = .ok (.iaload, 1) := by decide +kernel
theorem dL_law_890 : decode cL_law 890 = .ok (.aload_n 0, 1) := by decide +kernel
theorem dL_law_891 : decode cL_law 891 = .ok (.iload_n 3, 1) := by decide +kernel
theorem dL_law_892 : decode cL_law 892 = .ok (.iconst 2, 1) := by decide +kernel
theorem dL_law_893 : decode cL_law 893 = .ok (.iadd, 1) := by decide +kernel
theorem dL_law_894 : decode cL_law 894 = .ok (.iaload, 1) := by decide +kernel
theorem dL_law_895 : decode cL_law 895 = .ok (.invokevirtual 106, 3) := by decide +kernel
theorem dL_law_898 : decode cL_law 898 = .ok (.aload_n 2, 1) := by decide +kernel
theorem dL_law_899 : decode cL_law 899 = .ok (.aload_n 0, 1) := by decide +kernel
theorem dL_law_900 : decode cL_law 900 = .ok (.iload_n 3, 1) := by decide +kernel
theorem dL_law_901 : decode cL_law 901 = .ok (.iconst 1, 1) := by decide +kernel
theorem dL_law_902 : decode cL_law 902 = .ok (.iadd, 1) := by decide +kernel
theorem dL_law_903 : decode cL_law 903 = .ok (.iaload, 1) := by decide +kernel
theorem dL_law_904 : decode cL_law 904 = .ok (.aload_n 0, 1) := by decide +kernel
theorem dL_law_905 : decode cL_law 905 = .ok (.iload_n 3, 1) := by decide +kernel
theorem dL_law_906 : decode cL_law 906 = .ok (.iconst 2, 1) := by decide +kernel
theorem dL_law_907 : decode cL_law 907 = .ok (.iadd, 1) := by decide +kernel
theorem dL_law_908 : decode cL_law 908 = .ok (.iaload, 1) := by decide +kernel
theorem dL_law_909 : decode cL_law 909 = .ok (.invokevirtual 109, 3) := by decide +kernel
theorem dL_law_912 : decode cL_law 912 = .ok (.if_icmp .eq 562, 3) := by decide +kernel
theorem dL_law_915 : decode cL_law 915 = .ok (.iconst 0, 1) := by decide +kernel
theorem dL_law_916 : decode cL_law 916 = .ok (.ireturn, 1) := by decide +kernel
theorem dL_law_917 : decode cL_law 917 = .ok (.aload_n 1, 1) := by decide +kernel
theorem dL_law_918 : decode cL_law 918 = .ok (.aload_n 0, 1) := by decide +kernel
theorem dL_law_919 : decode cL_law 919 = .ok (.iload_n 3, 1) := by decide +kernel
theorem dL_law_920 : decode cL_law 920 = .ok (.iconst 1, 1) := by decide +kernel
theorem dL_law_921 : decode cL_law 921 = .ok (.iadd, 1) := by decide +kernel
theorem dL_law_922 : decode cL_law 922 = .ok (.iaload, 1) := by decide +kernel
theorem dL_law_923 : decode cL_law 923 = .ok (.invokevirtual 110, 3) := by decide +kernel
theorem dL_law_926 : decode cL_law 926 = .ok (.aload_n 2, 1) := by decide +kernel
theorem dL_law_927 : decode cL_law 927 = .ok (.aload_n 0, 1) := by decide +kernel
theorem dL_law_928 : decode cL_law 928 = .ok (.iload_n 3, 1) := by decide +kernel
theorem dL_law_929 : decode cL_law 929 = .ok (.iconst 1, 1) := by decide +kernel
theorem dL_law_930 : decode cL_law 930 = .ok (.iadd, 1) := by decide +kernel
theorem dL_law_931 : decode cL_law 931 = .ok (.iaload, 1) := by decide +kernel
theorem dL_law_932 : decode cL_law 932 = .ok (.invokevirtual 114, 3) := by decide +kernel
theorem dL_law_935 : decode cL_law 935 = .ok (.lcmp, 1) := by decide +kernel
theorem dL_law_936 : decode cL_law 936 = .ok (.ifCond .eq 538, 3) := by decide +kernel
theorem dL_law_939 : decode cL_law 939 = .ok (.iconst 0, 1) := by decide +kernel
theorem dL_law_940 : decode cL_law 940 = .ok (.ireturn, 1) := by decide +kernel
theorem dL_law_941 : decode cL_law 941 = .ok (.aload_n 1, 1) := by decide +kernel
theorem dL_law_942 : decode cL_law 942 = .ok (.invokevirtual 115, 3) := by decide +kernel
theorem dL_law_945 : decode cL_law 945 = .ok (.aload_n 2, 1) := by decide +kernel
theorem dL_law_946 : decode cL_law 946 = .ok (.invokevirtual 118, 3) := by decide +kernel
theorem dL_law_949 : decode cL_law 949 = .ok (.if_icmp .eq 525, 3) := by decide +kernel
theorem dL_law_952 : decode cL_law 952 = .ok (.iconst 0, 1) := by decide +kernel
theorem dL_law_953 : decode cL_law 953 = .ok (.ireturn, 1) := by decide +kernel
theorem dL_law_954 : decode cL_law 954 = .ok (.aload_n 1, 1) := by decide +kernel
theorem dL_law_955 : decode cL_law 955 = .ok (.aload_n 0, 1) := by decide +kernel
theorem dL_law_956 : decode cL_law 956 = .ok (.iload_n 3, 1) := by decide +kernel
theorem dL_law_957 : decode cL_law 957 = .ok (.iconst 1, 1) := by decide +kernel
theorem dL_law_958 : decode cL_law 958 = .ok (.iadd, 1) := by decide +kernel
theorem dL_law_959 : decode cL_law 959 = .ok (.iaload, 1) := by decide +kernel
theorem dL_law_960 : decode cL_law 960 = .ok (.aload_n 0, 1) := by decide +kernel
theorem dL_law_961 : decode cL_law 961 = .ok (.iload_n 3, 1) := by decide +kernel
theorem dL_law_962 : decode cL_law 962 = .ok (.iconst 2, 1) := by decide +kernel
theorem dL_law_963 : decode cL_law 963 = .ok (.iadd, 1) := by decide +kernel
theorem dL_law_964 : decode cL_law 964 = .ok (.iaload, 1) := by decide +kernel
theorem dL_law_965 : decode cL_law 965 = .ok (.invokevirtual 119, 3) := by decide +kernel
theorem dL_law_968 : decode cL_law 968 = .ok (.aload_n 2, 1) := by decide +kernel
theorem dL_law_969 : decode cL_law 969 = .ok (.aload_n 0, 1) := by decide +kernel
theorem dL_law_970 : decode cL_law 970 = .ok (.iload_n 3, 1) := by decide +kernel
theorem dL_law_971 : decode cL_law 971 = .ok (.iconst 1, 1) := by decide +kernel
theorem dL_law_972 : decode cL_law 972 = .ok (.iadd, 1) := by decide +kernel
theorem dL_law_973 : decode cL_law 973 = .ok (.iaload, 1) := by decide +kernel
theorem dL_law_974 : decode cL_law 974 = .ok (.aload_n 0, 1) := by decide +kernel
theorem dL_law_975 : decode cL_law 975 = .ok (.iload_n 3, 1) := by decide +kernel
theorem dL_law_976 : decode cL_law 976 = .ok (.iconst 2, 1) := by decide +kernel
theorem dL_law_977 : decode cL_law 977 = .ok (.iadd, 1) := by decide +kernel
theorem dL_law_978 : decode cL_law 978 = .ok (.iaload, 1) := by decide +kernel
theorem dL_law_979 : decode cL_law 979 = .ok (.invokevirtual 122, 3) := by decide +kernel
theorem dL_law_982 : decode cL_law 982 = .ok (.if_icmp .eq 492, 3) := by decide +kernel
theorem dL_law_985 : decode cL_law 985 = .ok (.iconst 0, 1) := by decide +kernel
theorem dL_law_986 : decode cL_law 986 = .ok (.ireturn, 1) := by decide +kernel
theorem dL_law_987 : decode cL_law 987 = .ok (.aload_n 1, 1) := by decide +kernel
theorem dL_law_988 : decode cL_law 988 = .ok (.aload_n 0, 1) := by decide +kernel
theorem dL_law_989 : decode cL_law 989 = .ok (.iload_n 3, 1) := by decide +kernel
theorem dL_law_990 : decode cL_law 990 = .ok (.iconst 1, 1) := by decide +kernel
theorem dL_law_991 : decode cL_law 991 = .ok (.iadd, 1) := by decide +kernel
theorem dL_law_992 : decode cL_law 992 = .ok (.iaload, 1) := by decide +kernel
theorem dL_law_993 : decode cL_law 993 = .ok (.aload_n 0, 1) := by decide +kernel
theorem dL_law_994 : decode cL_law 994 = .ok (.iload_n 3, 1) := by decide +kernel
theorem dL_law_995 : decode cL_law 995 = .ok (.iconst 2, 1) := by decide +kernel
theorem dL_law_996 : decode cL_law 996 = .ok (.iadd, 1) := by decide +kernel
theorem dL_law_997 : decode cL_law 997 = .ok (.iaload, 1) := by decide +kernel
theorem dL_law_998 : decode cL_law 998 = .ok (.invokevirtual 123, 3) := by decide +kernel
theorem dL_law_1001 : decode cL_law 1001 = .ok (.aload_n 2, 1) := by decide +kernel
theorem dL_law_1002 : decode cL_law 1002 = .ok (.aload_n 0, 1) := by decide +kernel
theorem dL_law_1003 : decode cL_law 1003 = .ok (.iload_n 3, 1) := by decide +kernel
theorem dL_law_1004 : decode cL_law 1004 = .ok (.iconst 1, 1) := by decide +kernel
theorem dL_law_1005 : decode cL_law 1005 = .ok (.iadd, 1) := by decide +kernel
theorem dL_law_1006 : decode cL_law 1006 = .ok (.iaload, 1) := by decide +kernel
theorem dL_law_1007 : decode cL_law 1007 = .ok (.aload_n 0, 1) := by decide +kernel
theorem dL_law_1008 : decode cL_law 1008 = .ok (.iload_n 3, 1) := by decide +kernel
theorem dL_law_1009 : decode cL_law 1009 = .ok (.iconst 2, 1) := by decide +kernel
theorem dL_law_1010 : decode cL_law 1010 = .ok (.iadd, 1) := by decide +kernel
theorem dL_law_1011 : decode cL_law 1011 = .ok (.iaload, 1) := by decide +kernel
theorem dL_law_1012 : decode cL_law 1012 = .ok (.invokevirtual 126, 3) := by decide +kernel
theorem dL_law_1015 : decode cL_law 1015 = .ok (.if_icmp .eq 459, 3) := by decide +kernel
theorem dL_law_1018 : decode cL_law 1018 = .ok (.iconst 0, 1) := by decide +kernel
theorem dL_law_1019 : decode cL_law 1019 = .ok (.ireturn, 1) := by decide +kernel
theorem dL_law_1020 : decode cL_law 1020 = .ok (.aload_n 1, 1) := by decide +kernel
theorem dL_law_1021 : decode cL_law 1021 = .ok (.aload_n 0, 1) := by decide +kernel
theorem dL_law_1022 : decode cL_law 1022 = .ok (.iload_n 3, 1) := by decide +kernel
theorem dL_law_1023 : decode cL_law 1023 = .ok (.iconst 1, 1) := by decide +kernel
theorem dL_law_1024 : decode cL_law 1024 = .ok (.iadd, 1) := by decide +kernel
theorem dL_law_1025 : decode cL_law 1025 = .ok (.iaload, 1) := by decide +kernel
theorem dL_law_1026 : decode cL_law 1026 = .ok (.aload_n 0, 1) := by decide +kernel
theorem dL_law_1027 : decode cL_law 1027 = .ok (.iload_n 3, 1) := by decide +kernel
theorem dL_law_1028 : decode cL_law 1028 = .ok (.iconst 2, 1) := by decide +kernel
theorem dL_law_1029 : decode cL_law 1029 = .ok (.iadd, 1) := by decide +kernel
theorem dL_law_1030 : decode cL_law 1030 = .ok (.iaload, 1) := by decide +kernel
theorem dL_law_1031 : decode cL_law 1031 = .ok (.aload_n 0, 1) := by decide +kernel
theorem dL_law_1032 : decode cL_law 1032 = .ok (.iload_n 3, 1) := by decide +kernel
theorem dL_law_1033 : decode cL_law 1033 = .ok (.iconst 3, 1) := by decide +kernel
theorem dL_law_1034 : decode cL_law 1034 = .ok (.iadd, 1) := by decide +kernel
theorem dL_law_1035 : decode cL_law 1035 = .ok (.iaload, 1) := by decide +kernel
theorem dL_law_1036 : decode cL_law 1036 = .ok (.invokevirtual 127, 3) := by decide +kernel
theorem dL_law_1039 : decode cL_law 1039 = .ok (.aload_n 2, 1) := by decide +kernel
theorem dL_law_1040 : decode cL_law 1040 = .ok (.aload_n 0, 1) := by decide +kernel
theorem dL_law_1041 : decode cL_law 1041 = .ok (.iload_n 3, 1) := by decide +kernel
theorem dL_law_1042 : decode cL_law 1042 = .ok (.iconst 1, 1) := by decide +kernel
theorem dL_law_1043 : decode cL_law 1043 = .ok (.iadd, 1) := by decide +kernel
theorem dL_law_1044 : decode cL_law 1044 = .ok (.iaload, 1) := by decide +kernel
theorem dL_law_1045 : decode cL_law 1045 = .ok (.aload_n 0, 1) := by decide +kernel
theorem dL_law_1046 : decode cL_law 1046 = .ok (.iload_n 3, 1) := by decide +kernel
theorem dL_law_1047 : decode cL_law 1047 = .ok (.iconst 2, 1) := by decide +kernel
theorem dL_law_1048 : decode cL_law 1048 = .ok (.iadd, 1) := by decide +kernel
theorem dL_law_1049 : decode cL_law 1049 = .ok (.iaload, 1) := by decide +kernel
theorem dL_law_1050 : decode cL_law 1050 = .ok (.aload_n 0, 1) := by decide +kernel
theorem dL_law_1051 : decode cL_law 1051 = .ok (.iload_n 3, 1) := by decide +kernel
theorem dL_law_1052 : decode cL_law 1052 = .ok (.iconst 3, 1) := by decide +kernel
theorem dL_law_1053 : decode cL_law 1053 = .ok (.iadd, 1) := by decide +kernel
theorem dL_law_1054 : decode cL_law 1054 = .ok (.iaload, 1) := by decide +kernel
theorem dL_law_1055 : decode cL_law 1055 = .ok (.invokevirtual 130, 3) := by decide +kernel
theorem dL_law_1058 : decode cL_law 1058 = .ok (.if_icmp .eq 416, 3) := by decide +kernel
theorem dL_law_1061 : decode cL_law 1061 = .ok (.iconst 0, 1) := by decide +kernel
theorem dL_law_1062 : decode cL_law 1062 = .ok (.ireturn, 1) := by decide +kernel
theorem dL_law_1063 : decode cL_law 1063 = .ok (.aload_n 1, 1) := by decide +kernel
theorem dL_law_1064 : decode cL_law 1064 = .ok (.aload_n 0, 1) := by decide +kernel
theorem dL_law_1065 : decode cL_law 1065 = .ok (.iload_n 3, 1) := by decide +kernel
theorem dL_law_1066 : decode cL_law 1066 = .ok (.iconst 1, 1) := by decide +kernel
theorem dL_law_1067 : decode cL_law 1067 = .ok (.iadd, 1) := by decide +kernel
theorem dL_law_1068 : decode cL_law 1068 = .ok (.iaload, 1) := by decide +kernel
theorem dL_law_1069 : decode cL_law 1069 = .ok (.aload_n 0, 1) := by decide +kernel
theorem dL_law_1070 : decode cL_law 1070 = .ok (.iload_n 3, 1) := by decide +kernel
theorem dL_law_1071 : decode cL_law 1071 = .ok (.iconst 2, 1) := by decide +kernel
theorem dL_law_1072 : decode cL_law 1072 = .ok (.iadd, 1) := by decide +kernel
theorem dL_law_1073 : decode cL_law 1073 = .ok (.iaload, 1) := by decide +kernel
theorem dL_law_1074 : decode cL_law 1074 = .ok (.invokevirtual 131, 3) := by decide +kernel
theorem dL_law_1077 : decode cL_law 1077 = .ok (.aload_n 2, 1) := by decide +kernel
theorem dL_law_1078 : decode cL_law 1078 = .ok (.aload_n 0, 1) := by decide +kernel
theorem dL_law_1079 : decode cL_law 1079 = .ok (.iload_n 3, 1) := by decide +kernel
theorem dL_law_1080 : decode cL_law 1080 = .ok (.iconst 1, 1) := by decide +kernel
theorem dL_law_1081 : decode cL_law 1081 = .ok (.iadd, 1) := by decide +kernel
theorem dL_law_1082 : decode cL_law 1082 = .ok (.iaload, 1) := by decide +kernel
theorem dL_law_1083 : decode cL_law 1083 = .ok (.aload_n 0, 1) := by decide +kernel
theorem dL_law_1084 : decode cL_law 1084 = .ok (.iload_n 3, 1) := by decide +kernel
theorem dL_law_1085 : decode cL_law 1085 = .ok (.iconst 2, 1) := by decide +kernel
theorem dL_law_1086 : decode cL_law 1086 = .ok (.iadd, 1) := by decide +kernel
theorem dL_law_1087 : decode cL_law 1087 = .ok (.iaload, 1) := by decide +kernel
theorem dL_law_1088 : decode cL_law 1088 = .ok (.invokevirtual 134, 3) := by decide +kernel
theorem dL_law_1091 : decode cL_law 1091 = .ok (.if_icmp .eq 383, 3) := by decide +kernel
theorem dL_law_1094 : decode cL_law 1094 = .ok (.iconst 0, 1) := by decide +kernel
theorem dL_law_1095 : decode cL_law 1095 = .ok (.ireturn, 1) := by decide +kernel
theorem dL_law_1096 : decode cL_law 1096 = .ok (.aload_n 1, 1) := by decide +kernel
theorem dL_law_1097 : decode cL_law 1097 = .ok (.aload_n 0, 1) := by decide +kernel
theorem dL_law_1098 : decode cL_law 1098 = .ok (.iload_n 3, 1) := by decide +kernel
theorem dL_law_1099 : decode cL_law 1099 = .ok (.iconst 1, 1) := by decide +kernel
theorem dL_law_1100 : decode cL_law 1100 = .ok (.iadd, 1) := by decide +kernel
theorem dL_law_1101 : decode cL_law 1101 = .ok (.iaload, 1) := by decide +kernel
theorem dL_law_1102 : decode cL_law 1102 = .ok (.aload_n 0, 1) := by decide +kernel
theorem dL_law_1103 : decode cL_law 1103 = .ok (.iload_n 3, 1) := by decide +kernel
theorem dL_law_1104 : decode cL_law 1104 = .ok (.iconst 2, 1) := by decide +kernel
theorem dL_law_1105 : decode cL_law 1105 = .ok (.iadd, 1) := by decide +kernel
theorem dL_law_1106 : decode cL_law 1106 = .ok (.iaload, 1) := by decide +kernel
theorem dL_law_1107 : decode cL_law 1107 = .ok (.invokevirtual 135, 3) := by decide +kernel
theorem dL_law_1110 : decode cL_law 1110 = .ok (.aload_n 2, 1) := by decide +kernel
theorem dL_law_1111 : decode cL_law 1111 = .ok (.aload_n 0, 1) := by decide +kernel
theorem dL_law_1112 : decode cL_law 1112 = .ok (.iload_n 3, 1) := by decide +kernel
theorem dL_law_1113 : decode cL_law 1113 = .ok (.iconst 1, 1) := by decide +kernel
theorem dL_law_1114 : decode cL_law 1114 = .ok (.iadd, 1) := by decide +kernel
theorem dL_law_1115 : decode cL_law 1115 = .ok (.iaload, 1) := by decide +kernel
theorem dL_law_1116 : decode cL_law 1116 = .ok (.aload_n 0, 1) := by decide +kernel
theorem dL_law_1117 : decode cL_law 1117 = .ok (.iload_n 3, 1) := by decide +kernel
theorem dL_law_1118 : decode cL_law 1118 = .ok (.iconst 2, 1) := by decide +kernel
theorem dL_law_1119 : decode cL_law 1119 = .ok (.iadd, 1) := by decide +kernel
theorem dL_law_1120 : decode cL_law 1120 = .ok (.iaload, 1) := by decide +kernel
theorem dL_law_1121 : decode cL_law 1121 = .ok (.invokevirtual 138, 3) := by decide +kernel
theorem dL_law_1124 : decode cL_law 1124 = .ok (.if_icmp .eq 350, 3) := by decide +kernel
theorem dL_law_1127 : decode cL_law 1127 = .ok (.iconst 0, 1) := by decide +kernel
theorem dL_law_1128 : decode cL_law 1128 = .ok (.ireturn, 1) := by decide +kernel
theorem dL_law_1129 : decode cL_law 1129 = .ok (.aload_n 1, 1) := by decide +kernel
theorem dL_law_1130 : decode cL_law 1130 = .ok (.aload_n 0, 1) := by decide +kernel
theorem dL_law_1131 : decode cL_law 1131 = .ok (.iload_n 3, 1) := by decide +kernel
theorem dL_law_1132 : decode cL_law 1132 = .ok (.iconst 1, 1) := by decide +kernel
theorem dL_law_1133 : decode cL_law 1133 = .ok (.iadd, 1) := by decide +kernel
theorem dL_law_1134 : decode cL_law 1134 = .ok (.iaload, 1) := by decide +kernel
theorem dL_law_1135 : decode cL_law 1135 = .ok (.invokevirtual 139, 3) := by decide +kernel
theorem dL_law_1138 : decode cL_law 1138 = .ok (.aload_n 2, 1) := by decide +kernel
theorem dL_law_1139 : decode cL_law 1139 = .ok (.aload_n 0, 1) := by decide +kernel
theorem dL_law_1140 : decode cL_law 1140 = .ok (.iload_n 3, 1) := by decide +kernel
theorem dL_law_1141 : decode cL_law 1141 = .ok (.iconst 1, 1) := by decide +kernel
theorem dL_law_1142 : decode cL_law 1142 = .ok (.iadd, 1) := by decide +kernel
theorem dL_law_1143 : decode cL_law 1143 = .ok (.iaload, 1) := by decide +kernel
theorem dL_law_1144 : decode cL_law 1144 = .ok (.invokevirtual 142, 3) := by decide +kernel
theorem dL_law_1147 : decode cL_law 1147 = .ok (.if_icmp .eq 327, 3) := by decide +kernel
theorem dL_law_1150 : decode cL_law 1150 = .ok (.iconst 0, 1) := by decide +kernel
theorem dL_law_1151 : decode cL_law 1151 = .ok (.ireturn, 1) := by decide +kernel
theorem dL_law_1152 : decode cL_law 1152 = .ok (.aload_n 1, 1) := by decide +kernel
theorem dL_law_1153 : decode cL_law 1153 = .ok (.aload_n 0, 1) := by decide +kernel
theorem dL_law_1154 : decode cL_law 1154 = .ok (.iload_n 3, 1) := by decide +kernel
theorem dL_law_1155 : decode cL_law 1155 = .ok (.iconst 1, 1) := by decide +kernel
theorem dL_law_1156 : decode cL_law 1156 = .ok (.iadd, 1) := by decide +kernel
theorem dL_law_1157 : decode cL_law 1157 = .ok (.iaload, 1) := by decide +kernel
theorem dL_law_1158 : decode cL_law 1158 = .ok (.aload_n 0, 1) := by decide +kernel
theorem dL_law_1159 : decode cL_law 1159 = .ok (.iload_n 3, 1) := by decide +kernel
theorem dL_law_1160 : decode cL_law 1160 = .ok (.iconst 2, 1) := by decide +kernel
theorem dL_law_1161 : decode cL_law 1161 = .ok (.iadd, 1) := by decide +kernel
theorem dL_law_1162 : decode cL_law 1162 = .ok (.iaload, 1) := by decide +kernel
theorem dL_law_1163 : decode cL_law 1163 = .ok (.invokevirtual 143, 3) := by decide +kernel
theorem dL_law_1166 : decode cL_law 1166 = .ok (.aload_n 2, 1) := by decide +kernel
theorem dL_law_1167 : decode cL_law 1167 = .ok (.aload_n 0, 1) := by decide +kernel
theorem dL_law_1168 : decode cL_law 1168 = .ok (.iload_n 3, 1) := by decide +kernel
theorem dL_law_1169 : decode cL_law 1169 = .ok (.iconst 1, 1) := by decide +kernel
theorem dL_law_1170 : decode cL_law 1170 = .ok (.iadd, 1) := by decide +kernel
theorem dL_law_1171 : decode cL_law 1171 = .ok (.iaload, 1) := by decide +kernel
theorem dL_law_1172 : decode cL_law 1172 = .ok (.aload_n 0, 1) := by decide +kernel
theorem dL_law_1173 : decode cL_law 1173 = .ok (.iload_n 3, 1) := by decide +kernel
theorem dL_law_1174 : decode cL_law 1174 = .ok (.iconst 2, 1) := by decide +kernel
theorem dL_law_1175 : decode cL_law 1175 = .ok (.iadd, 1) := by decide +kernel
theorem dL_law_1176 : decode cL_law 1176 = .ok (.iaload, 1) := by decide +kernel
theorem dL_law_1177 : decode cL_law 1177 = .ok (.invokevirtual 146, 3) := by decide +kernel
theorem dL_law_1180 : decode cL_law 1180 = .ok (.if_icmp .eq 294, 3) := by decide +kernel
theorem dL_law_1183 : decode cL_law 1183 = .ok (.iconst 0, 1) := by decide +kernel
theorem dL_law_1184 : decode cL_law 1184 = .ok (.ireturn, 1) := by decide +kernel
theorem dL_law_1185 : decode cL_law 1185 = .ok (.aload_n 1, 1) := by decide +kernel
theorem dL_law_1186 : decode cL_law 1186 = .ok (.aload_n 0, 1) := by decide +kernel
theorem dL_law_1187 : decode cL_law 1187 = .ok (.iload_n 3, 1) := by decide +kernel
theorem dL_law_1188 : decode cL_law 1188 = .ok (.iconst 1, 1) := by decide +kernel
theorem dL_law_1189 : decode cL_law 1189 = .ok (.iadd, 1) := by decide +kernel
theorem dL_law_1190 : decode cL_law 1190 = .ok (.iaload, 1) := by decide +kernel
theorem dL_law_1191 : decode cL_law 1191 = .ok (.invokevirtual 147, 3) := by decide +kernel
theorem dL_law_1194 : decode cL_law 1194 = .ok (.aload_n 2, 1) := by decide +kernel
theorem dL_law_1195 : decode cL_law 1195 = .ok (.aload_n 0, 1) := by decide +kernel
theorem dL_law_1196 : decode cL_law 1196 = .ok (.iload_n 3, 1) := by decide +kernel
theorem dL_law_1197 : decode cL_law 1197 = .ok (.iconst 1, 1) := by decide +kernel
theorem dL_law_1198 : decode cL_law 1198 = .ok (.iadd, 1) := by decide +kernel
theorem dL_law_1199 : decode cL_law 1199 = .ok (.iaload, 1) := by decide +kernel
theorem dL_law_1200 : decode cL_law 1200 = .ok (.invokevirtual 150, 3) := by decide +kernel
theorem dL_law_1203 : decode cL_law 1203 = .ok (.if_icmp .eq 271, 3) := by decide +kernel
theorem dL_law_1206 : decode cL_law 1206 = .ok (.iconst 0, 1) := by decide +kernel
theorem dL_law_1207 : decode cL_law 1207 = .ok (.ireturn, 1) := by decide +kernel
theorem dL_law_1208 : decode cL_law 1208 = .ok (.aload_n 1, 1) := by decide +kernel
theorem dL_law_1209 : decode cL_law 1209 = .ok (.aload_n 0, 1) := by decide +kernel
theorem dL_law_1210 : decode cL_law 1210 = .ok (.iload_n 3, 1) := by decide +kernel
theorem dL_law_1211 : decode cL_law 1211 = .ok (.iconst 1, 1) := by decide +kernel
theorem dL_law_1212 : decode cL_law 1212 = .ok (.iadd, 1) := by decide +kernel
theorem dL_law_1213 : decode cL_law 1213 = .ok (.iaload, 1) := by decide +kernel
theorem dL_law_1214 : decode cL_law 1214 = .ok (.aload_n 0, 1) := by decide +kernel
theorem dL_law_1215 : decode cL_law 1215 = .ok (.iload_n 3, 1) := by decide +kernel
theorem dL_law_1216 : decode cL_law 1216 = .ok (.iconst 2, 1) := by decide +kernel
theorem dL_law_1217 : decode cL_law 1217 = .ok (.iadd, 1) := by decide +kernel
theorem dL_law_1218 : decode cL_law 1218 = .ok (.iaload, 1) := by decide +kernel
theorem dL_law_1219 : decode cL_law 1219 = .ok (.invokevirtual 151, 3) := by decide +kernel
theorem dL_law_1222 : decode cL_law 1222 = .ok (.aload_n 2, 1) := by decide +kernel
theorem dL_law_1223 : decode cL_law 1223 = .ok (.aload_n 0, 1) := by decide +kernel
theorem dL_law_1224 : decode cL_law 1224 = .ok (.iload_n 3, 1) := by decide +kernel
theorem dL_law_1225 : decode cL_law 1225 = .ok (.iconst 1, 1) := by decide +kernel
theorem dL_law_1226 : decode cL_law 1226 = .ok (.iadd, 1) := by decide +kernel
theorem dL_law_1227 : decode cL_law 1227 = .ok (.iaload, 1) := by decide +kernel
theorem dL_law_1228 : decode cL_law 1228 = .ok (.aload_n 0, 1) := by decide +kernel
theorem dL_law_1229 : decode cL_law 1229 = .ok (.iload_n 3, 1) := by decide +kernel
theorem dL_law_1230 : decode cL_law 1230 = .ok (.iconst 2, 1) := by decide +kernel
theorem dL_law_1231 : decode cL_law 1231 = .ok (.iadd, 1) := by decide +kernel
theorem dL_law_1232 : decode cL_law 1232 = .ok (.iaload, 1) := by decide +kernel
theorem dL_law_1233 : decode cL_law 1233 = .ok (.invokevirtual 154, 3) := by decide +kernel
theorem dL_law_1236 : decode cL_law 1236 = .ok (.lcmp, 1) := by decide +kernel
theorem dL_law_1237 : decode cL_law 1237 = .ok (.ifCond .eq 237, 3) := by decide +kernel
theorem dL_law_1240 : decode cL_law 1240 = .ok (.iconst 0, 1) := by decide +kernel
theorem dL_law_1241 : decode cL_law 1241 = .ok (.ireturn, 1) := by decide +kernel
theorem dL_law_1242 : decode cL_law 1242 = .ok (.aload_n 1, 1) := by decide +kernel
theorem dL_law_1243 : decode cL_law 1243 = .ok (.aload_n 0, 1) := by decide +kernel
theorem dL_law_1244 : decode cL_law 1244 = .ok (.iload_n 3, 1) := by decide +kernel
theorem dL_law_1245 : decode cL_law 1245 = .ok (.iconst 1, 1) := by decide +kernel
theorem dL_law_1246 : decode cL_law 1246 = .ok (.iadd, 1) := by decide +kernel
theorem dL_law_1247 : decode cL_law 1247 = .ok (.iaload, 1) := by decide +kernel
theorem dL_law_1248 : decode cL_law 1248 = .ok (.invokevirtual 155, 3) := by decide +kernel
theorem dL_law_1251 : decode cL_law 1251 = .ok (.aload_n 2, 1) := by decide +kernel
theorem dL_law_1252 : decode cL_law 1252 = .ok (.aload_n 0, 1) := by decide +kernel
theorem dL_law_1253 : decode cL_law 1253 = .ok (.iload_n 3, 1) := by decide +kernel
theorem dL_law_1254 : decode cL_law 1254 = .ok (.iconst 1, 1) := by decide +kernel
theorem dL_law_1255 : decode cL_law 1255 = .ok (.iadd, 1) := by decide +kernel
theorem dL_law_1256 : decode cL_law 1256 = .ok (.iaload, 1) := by decide +kernel
theorem dL_law_1257 : decode cL_law 1257 = .ok (.invokevirtual 158, 3) := by decide +kernel
theorem dL_law_1260 : decode cL_law 1260 = .ok (.lcmp, 1) := by decide +kernel
theorem dL_law_1261 : decode cL_law 1261 = .ok (.ifCond .eq 213, 3) := by decide +kernel
theorem dL_law_1264 : decode cL_law 1264 = .ok (.iconst 0, 1) := by decide +kernel
theorem dL_law_1265 : decode cL_law 1265 = .ok (.ireturn, 1) := by decide +kernel
theorem dL_law_1266 : decode cL_law 1266 = .ok (.aload_n 1, 1) := by decide +kernel
theorem dL_law_1267 : decode cL_law 1267 = .ok (.invokevirtual 159, 3) := by decide +kernel
theorem dL_law_1270 : decode cL_law 1270 = .ok (.aload_n 2, 1) := by decide +kernel
theorem dL_law_1271 : decode cL_law 1271 = .ok (.invokevirtual 163, 3) := by decide +kernel
theorem dL_law_1274 : decode cL_law 1274 = .ok (.lcmp, 1) := by decide +kernel
theorem dL_law_1275 : decode cL_law 1275 = .ok (.ifCond .eq 199, 3) := by decide +kernel
theorem dL_law_1278 : decode cL_law 1278 = .ok (.iconst 0, 1) := by decide +kernel
theorem dL_law_1279 : decode cL_law 1279 = .ok (.ireturn, 1) := by decide +kernel
theorem dL_law_1280 : decode cL_law 1280 = .ok (.aload_n 1, 1) := by decide +kernel
theorem dL_law_1281 : decode cL_law 1281 = .ok (.aload_n 0, 1) := by decide +kernel
theorem dL_law_1282 : decode cL_law 1282 = .ok (.iload_n 3, 1) := by decide +kernel
theorem dL_law_1283 : decode cL_law 1283 = .ok (.iconst 1, 1) := by decide +kernel
theorem dL_law_1284 : decode cL_law 1284 = .ok (.iadd, 1) := by decide +kernel
theorem dL_law_1285 : decode cL_law 1285 = .ok (.iaload, 1) := by decide +kernel
theorem dL_law_1286 : decode cL_law 1286 = .ok (.invokevirtual 164, 3) := by decide +kernel
theorem dL_law_1289 : decode cL_law 1289 = .ok (.aload_n 2, 1) := by decide +kernel
theorem dL_law_1290 : decode cL_law 1290 = .ok (.aload_n 0, 1) := by decide +kernel
theorem dL_law_1291 : decode cL_law 1291 = .ok (.iload_n 3, 1) := by decide +kernel
theorem dL_law_1292 : decode cL_law 1292 = .ok (.iconst 1, 1) := by decide +kernel
theorem dL_law_1293 : decode cL_law 1293 = .ok (.iadd, 1) := by decide +kernel
theorem dL_law_1294 : decode cL_law 1294 = .ok (.iaload, 1) := by decide +kernel
theorem dL_law_1295 : decode cL_law 1295 = .ok (.invokevirtual 167, 3) := by decide +kernel
theorem dL_law_1298 : decode cL_law 1298 = .ok (.if_icmp .eq 176, 3) := by decide +kernel
theorem dL_law_1301 : decode cL_law 1301 = .ok (.iconst 0, 1) := by decide +kernel
theorem dL_law_1302 : decode cL_law 1302 = .ok (.ireturn, 1) := by decide +kernel
theorem dL_law_1303 : decode cL_law 1303 = .ok (.aload_n 1, 1) := by decide +kernel
theorem dL_law_1304 : decode cL_law 1304 = .ok (.aload_n 0, 1) := by decide +kernel
theorem dL_law_1305 : decode cL_law 1305 = .ok (.iload_n 3, 1) := by decide +kernel
theorem dL_law_1306 : decode cL_law 1306 = .ok (.iconst 1, 1) := by decide +kernel
theorem dL_law_1307 : decode cL_law 1307 = .ok (.iadd, 1) := by decide +kernel
theorem dL_law_1308 : decode cL_law 1308 = .ok (.iaload, 1) := by decide +kernel
theorem dL_law_1309 : decode cL_law 1309 = .ok (.aload_n 0, 1) := by decide +kernel
theorem dL_law_1310 : decode cL_law 1310 = .ok (.iload_n 3, 1) := by decide +kernel
theorem dL_law_1311 : decode cL_law 1311 = .ok (.iconst 2, 1) := by decide +kernel
theorem dL_law_1312 : decode cL_law 1312 = .ok (.iadd, 1) := by decide +kernel
theorem dL_law_1313 : decode cL_law 1313 = .ok (.iaload, 1) := by decide +kernel
theorem dL_law_1314 : decode cL_law 1314 = .ok (.invokevirtual 168, 3) := by decide +kernel
theorem dL_law_1317 : decode cL_law 1317 = .ok (.aload_n 2, 1) := by decide +kernel
theorem dL_law_1318 : decode cL_law 1318 = .ok (.aload_n 0, 1) := by decide +kernel
theorem dL_law_1319 : decode cL_law 1319 = .ok (.iload_n 3, 1) := by decide +kernel
theorem dL_law_1320 : decode cL_law 1320 = .ok (.iconst 1, 1) := by decide +kernel
theorem dL_law_1321 : decode cL_law 1321 = .ok (.iadd, 1) := by decide +kernel
theorem dL_law_1322 : decode cL_law 1322 = .ok (.iaload, 1) := by decide +kernel
theorem dL_law_1323 : decode cL_law 1323 = .ok (.aload_n 0, 1) := by decide +kernel
theorem dL_law_1324 : decode cL_law 1324 = .ok (.iload_n 3, 1) := by decide +kernel
theorem dL_law_1325 : decode cL_law 1325 = .ok (.iconst 2, 1) := by decide +kernel
theorem dL_law_1326 : decode cL_law 1326 = .ok (.iadd, 1) := by decide +kernel
theorem dL_law_1327 : decode cL_law 1327 = .ok (.iaload, 1) := by decide +kernel
theorem dL_law_1328 : decode cL_law 1328 = .ok (.invokevirtual 171, 3) := by decide +kernel
theorem dL_law_1331 : decode cL_law 1331 = .ok (.if_icmp .eq 143, 3) := by decide +kernel
theorem dL_law_1334 : decode cL_law 1334 = .ok (.iconst 0, 1) := by decide +kernel
theorem dL_law_1335 : decode cL_law 1335 = .ok (.ireturn, 1) := by decide +kernel
theorem dL_law_1336 : decode cL_law 1336 = .ok (.aload_n 1, 1) := by decide +kernel
theorem dL_law_1337 : decode cL_law 1337 = .ok (.aload_n 0, 1) := by decide +kernel
theorem dL_law_1338 : decode cL_law 1338 = .ok (.iload_n 3, 1) := by decide +kernel
theorem dL_law_1339 : decode cL_law 1339 = .ok (.iconst 1, 1) := by decide +kernel
theorem dL_law_1340 : decode cL_law 1340 = .ok (.iadd, 1) := by decide +kernel
theorem dL_law_1341 : decode cL_law 1341 = .ok (.iaload, 1) := by decide +kernel
theorem dL_law_1342 : decode cL_law 1342 = .ok (.aload_n 0, 1) := by decide +kernel
theorem dL_law_1343 : decode cL_law 1343 = .ok (.iload_n 3, 1) := by decide +kernel
theorem dL_law_1344 : decode cL_law 1344 = .ok (.iconst 2, 1) := by decide +kernel
theorem dL_law_1345 : decode cL_law 1345 = .ok (.iadd, 1) := by decide +kernel
theorem dL_law_1346 : decode cL_law 1346 = .ok (.iaload, 1) := by decide +kernel
theorem dL_law_1347 : decode cL_law 1347 = .ok (.aload_n 0, 1) := by decide +kernel
theorem dL_law_1348 : decode cL_law 1348 = .ok (.iload_n 3, 1) := by decide +kernel
theorem dL_law_1349 : decode cL_law 1349 = .ok (.iconst 3, 1) := by decide +kernel
theorem dL_law_1350 : decode cL_law 1350 = .ok (.iadd, 1) := by decide +kernel
theorem dL_law_1351 : decode cL_law 1351 = .ok (.iaload, 1) := by decide +kernel
theorem dL_law_1352 : decode cL_law 1352 = .ok (.invokevirtual 172, 3) := by decide +kernel
theorem dL_law_1355 : decode cL_law 1355 = .ok (.aload_n 2, 1) := by decide +kernel
theorem dL_law_1356 : decode cL_law 1356 = .ok (.aload_n 0, 1) := by decide +kernel
theorem dL_law_1357 : decode cL_law 1357 = .ok (.iload_n 3, 1) := by decide +kernel
theorem dL_law_1358 : decode cL_law 1358 = .ok (.iconst 1, 1) := by decide +kernel
theorem dL_law_1359 : decode cL_law 1359 = .ok (.iadd, 1) := by decide +kernel
theorem dL_law_1360 : decode cL_law 1360 = .ok (.iaload, 1) := by decide +kernel
theorem dL_law_1361 : decode cL_law 1361 = .ok (.aload_n 0, 1) := by decide +kernel
theorem dL_law_1362 : decode cL_law 1362 = .ok (.iload_n 3, 1) := by decide +kernel
theorem dL_law_1363 : decode cL_law 1363 = .ok (.iconst 2, 1) := by decide +kernel
theorem dL_law_1364 : decode cL_law 1364 = .ok (.iadd, 1) := by decide +kernel
theorem dL_law_1365 : decode cL_law 1365 = .ok (.iaload, 1) := by decide +kernel
theorem dL_law_1366 : decode cL_law 1366 = .ok (.aload_n 0, 1) := by decide +kernel
theorem dL_law_1367 : decode cL_law 1367 = .ok (.iload_n 3, 1) := by decide +kernel
theorem dL_law_1368 : decode cL_law 1368 = .ok (.iconst 3, 1) := by decide +kernel
theorem dL_law_1369 : decode cL_law 1369 = .ok (.iadd, 1) := by decide +kernel
theorem dL_law_1370 : decode cL_law 1370 = .ok (.iaload, 1) := by decide +kernel
theorem dL_law_1371 : decode cL_law 1371 = .ok (.invokevirtual 175, 3) := by decide +kernel
theorem dL_law_1374 : decode cL_law 1374 = .ok (.if_icmp .eq 100, 3) := by decide +kernel
theorem dL_law_1377 : decode cL_law 1377 = .ok (.iconst 0, 1) := by decide +kernel
theorem dL_law_1378 : decode cL_law 1378 = .ok (.ireturn, 1) := by decide +kernel
theorem dL_law_1379 : decode cL_law 1379 = .ok (.aload_n 1, 1) := by decide +kernel
theorem dL_law_1380 : decode cL_law 1380 = .ok (.aload_n 0, 1) := by decide +kernel
theorem dL_law_1381 : decode cL_law 1381 = .ok (.iload_n 3, 1) := by decide +kernel
theorem dL_law_1382 : decode cL_law 1382 = .ok (.iconst 1, 1) := by decide +kernel
theorem dL_law_1383 : decode cL_law 1383 = .ok (.iadd, 1) := by decide +kernel
theorem dL_law_1384 : decode cL_law 1384 = .ok (.iaload, 1) := by decide +kernel
theorem dL_law_1385 : decode cL_law 1385 = .ok (.invokevirtual 176, 3) := by decide +kernel
theorem dL_law_1388 : decode cL_law 1388 = .ok (.aload_n 2, 1) := by decide +kernel
theorem dL_law_1389 : decode cL_law 1389 = .ok (.aload_n 0, 1) := by decide +kernel
theorem dL_law_1390 : decode cL_law 1390 = .ok (.iload_n 3, 1) := by decide +kernel
theorem dL_law_1391 : decode cL_law 1391 = .ok (.iconst 1, 1) := by decide +kernel
theorem dL_law_1392 : decode cL_law 1392 = .ok (.iadd, 1) := by decide +kernel
theorem dL_law_1393 : decode cL_law 1393 = .ok (.iaload, 1) := by decide +kernel
theorem dL_law_1394 : decode cL_law 1394 = .ok (.invokevirtual 179, 3) := by decide +kernel
theorem dL_law_1397 : decode cL_law 1397 = .ok (.if_icmp .eq 77, 3) := by decide +kernel
theorem dL_law_1400 : decode cL_law 1400 = .ok (.iconst 0, 1) := by decide +kernel
theorem dL_law_1401 : decode cL_law 1401 = .ok (.ireturn, 1) := by decide +kernel
theorem dL_law_1402 : decode cL_law 1402 = .ok (.aload_n 1, 1) := by decide +kernel
theorem dL_law_1403 : decode cL_law 1403 = .ok (.aload_n 0, 1) := by decide +kernel
theorem dL_law_1404 : decode cL_law 1404 = .ok (.iload_n 3, 1) := by decide +kernel
theorem dL_law_1405 : decode cL_law 1405 = .ok (.iconst 1, 1) := by decide +kernel
theorem dL_law_1406 : decode cL_law 1406 = .ok (.iadd, 1) := by decide +kernel
theorem dL_law_1407 : decode cL_law 1407 = .ok (.iaload, 1) := by decide +kernel
theorem dL_law_1408 : decode cL_law 1408 = .ok (.invokevirtual 180, 3) := by decide +kernel
theorem dL_law_1411 : decode cL_law 1411 = .ok (.aload_n 2, 1) := by decide +kernel
theorem dL_law_1412 : decode cL_law 1412 = .ok (.aload_n 0, 1) := by decide +kernel
theorem dL_law_1413 : decode cL_law 1413 = .ok (.iload_n 3, 1) := by decide +kernel
theorem dL_law_1414 : decode cL_law 1414 = .ok (.iconst 1, 1) := by decide +kernel
theorem dL_law_1415 : decode cL_law 1415 = .ok (.iadd, 1) := by decide +kernel
theorem dL_law_1416 : decode cL_law 1416 = .ok (.iaload, 1) := by decide +kernel
theorem dL_law_1417 : decode cL_law 1417 = .ok (.invokevirtual 183, 3) := by decide +kernel
theorem dL_law_1420 : decode cL_law 1420 = .ok (.if_icmp .eq 54, 3) := by decide +kernel
theorem dL_law_1423 : decode cL_law 1423 = .ok (.iconst 0, 1) := by decide +kernel
theorem dL_law_1424 : decode cL_law 1424 = .ok (.ireturn, 1) := by decide +kernel
theorem dL_law_1425 : decode cL_law 1425 = .ok (.aload_n 1, 1) := by decide +kernel
theorem dL_law_1426 : decode cL_law 1426 = .ok (.invokevirtual 184, 3) := by decide +kernel
theorem dL_law_1429 : decode cL_law 1429 = .ok (.aload_n 2, 1) := by decide +kernel
theorem dL_law_1430 : decode cL_law 1430 = .ok (.invokevirtual 187, 3) := by decide +kernel
theorem dL_law_1433 : decode cL_law 1433 = .ok (.if_icmp .eq 41, 3) := by decide +kernel
theorem dL_law_1436 : decode cL_law 1436 = .ok (.iconst 0, 1) := by decide +kernel
theorem dL_law_1437 : decode cL_law 1437 = .ok (.ireturn, 1) := by decide +kernel
theorem dL_law_1438 : decode cL_law 1438 = .ok (.aload_n 1, 1) := by decide +kernel
theorem dL_law_1439 : decode cL_law 1439 = .ok (.invokevirtual 188, 3) := by decide +kernel
theorem dL_law_1442 : decode cL_law 1442 = .ok (.aload_n 2, 1) := by decide +kernel
theorem dL_law_1443 : decode cL_law 1443 = .ok (.invokevirtual 191, 3) := by decide +kernel
theorem dL_law_1446 : decode cL_law 1446 = .ok (.if_icmp .eq 28, 3) := by decide +kernel
theorem dL_law_1449 : decode cL_law 1449 = .ok (.iconst 0, 1) := by decide +kernel
theorem dL_law_1450 : decode cL_law 1450 = .ok (.ireturn, 1) := by decide +kernel
theorem dL_law_1451 : decode cL_law 1451 = .ok (.aload_n 1, 1) := by decide +kernel
theorem dL_law_1452 : decode cL_law 1452 = .ok (.aload_n 0, 1) := by decide +kernel
theorem dL_law_1453 : decode cL_law 1453 = .ok (.iload_n 3, 1) := by decide +kernel
theorem dL_law_1454 : decode cL_law 1454 = .ok (.iconst 1, 1) := by decide +kernel
theorem dL_law_1455 : decode cL_law 1455 = .ok (.iadd, 1) := by decide +kernel
theorem dL_law_1456 : decode cL_law 1456 = .ok (.iaload, 1) := by decide +kernel
theorem dL_law_1457 : decode cL_law 1457 = .ok (.invokevirtual 192, 3) := by decide +kernel
theorem dL_law_1460 : decode cL_law 1460 = .ok (.aload_n 2, 1) := by decide +kernel
theorem dL_law_1461 : decode cL_law 1461 = .ok (.aload_n 0, 1) := by decide +kernel
theorem dL_law_1462 : decode cL_law 1462 = .ok (.iload_n 3, 1) := by decide +kernel
theorem dL_law_1463 : decode cL_law 1463 = .ok (.iconst 1, 1) := by decide +kernel
theorem dL_law_1464 : decode cL_law 1464 = .ok (.iadd, 1) := by decide +kernel
theorem dL_law_1465 : decode cL_law 1465 = .ok (.iaload, 1) := by decide +kernel
theorem dL_law_1466 : decode cL_law 1466 = .ok (.invokevirtual 195, 3) := by decide +kernel
theorem dL_law_1469 : decode cL_law 1469 = .ok (.if_icmp .eq 5, 3) := by decide +kernel
theorem dL_law_1472 : decode cL_law 1472 = .ok (.iconst 0, 1) := by decide +kernel
theorem dL_law_1473 : decode cL_law 1473 = .ok (.ireturn, 1) := by decide +kernel
theorem dL_law_1474 : decode cL_law 1474 = .ok (.iinc 3 6, 3) := by decide +kernel
theorem dL_law_1477 : decode cL_law 1477 = .ok (.goto (-1459), 3) := by decide +kernel
theorem dL_law_1480 : decode cL_law 1480 = .ok (.iconst 1, 1) := by decide +kernel
theorem dL_law_1481 : decode cL_law 1481 = .ok (.ireturn, 1) := by decide +kernel
end
section
/-! the abstract machine: ints as integers, a heap as a function; a walk z_w over it stands for the machine's own walk W -/
abbrev z_V : Type := Int ⊕ Int ⊕ Option (Option Nat)
abbrev z_i (z : Int) : z_V := .inl z
abbrev z_l (z : Int) : z_V := .inr (.inl z)
abbrev z_q (o : Option Nat) : z_V := .inr (.inr (some o))
abbrev z_r (a : Nat) : z_V := .inr (.inr (some (some a)))
abbrev z_n : z_V := .inr (.inr (some none))
abbrev z_u : z_V := .inr (.inr none)
def z_v : z_V → Value
  | .inl z => .int (Int32.ofInt z)
  | .inr (.inl z) => .long (Int64.ofInt z)
  | .inr (.inr (some o)) => va_rf o
  | .inr (.inr none) => .null
abbrev z_C : Type := (Nat × (Nat → Int)) ⊕ (Nat × (Nat → Int)) ⊕ (Nat × Nat × (Nat → Option Nat)) ⊕ (Nat × List z_V)
abbrev c_I (n : Nat) (f : Nat → Int) : z_C := .inl (n, f)
abbrev c_J (n : Nat) (f : Nat → Int) : z_C := .inr (.inl (n, f))
abbrev c_A (k n : Nat) (f : Nat → Option Nat) : z_C := .inr (.inr (.inl (k, n, f)))
abbrev c_O (c : Nat) (fs : List z_V) : z_C := .inr (.inr (.inr (c, fs)))
def z_e (cy : Nat → ClassId) : z_C → va_E
  | .inl (n, f) => .inl (cy 0, (n, .inl (fun j => Int32.ofInt (f j))))
  | .inr (.inl (n, f)) => .inl (cy 1, (n, .inr (.inl (fun j => Int64.ofInt (f j)))))
  | .inr (.inr (.inl (k, n, f))) => .inl (cy (k + 2), (n, .inr (.inr (.inr (.inr f)))))
  | .inr (.inr (.inr (c, fs))) => .inr (c, fs.map z_v)
abbrev z_H : Type := Nat → Option z_C
/-- what is the same in all methods: launch, places of fields, array kinds, the first free address, statics' tables, the constants' cells, the script -/
abbrev z_G : Type := Launch × va_G × (Nat → ClassId) × Nat × (Nat → Nat) × (Nat → Nat) × (Nat → Nat) × Nat × Nat × (Nat → Int32)
abbrev g_l (g : z_G) : Launch := g.1
abbrev g_D (g : z_G) : va_G := g.2.1
abbrev g_c (g : z_G) : Nat → ClassId := g.2.2.1
abbrev g_0 (g : z_G) : Nat := g.2.2.2.1
abbrev g_s (g : z_G) : Nat → Nat := g.2.2.2.2.1
abbrev g_K (g : z_G) : Nat → Nat := g.2.2.2.2.2.1
abbrev g_W (g : z_G) : Nat → Nat := g.2.2.2.2.2.2.1
abbrev g_b (g : z_G) : Nat := g.2.2.2.2.2.2.2.1
abbrev g_L (g : z_G) : Nat := g.2.2.2.2.2.2.2.2.1
abbrev g_x (g : z_G) : Nat → Int32 := g.2.2.2.2.2.2.2.2.2
def z_A (g : z_G) : Nat → Prop := fun q => g_0 g ≤ q
def z_R (g : z_G) (h : z_H) (H : Heap) : Prop := ∃ ws : va_W, va_P (g_D g) vwCl ws H ∧ va_D (z_A g) ws ∧ ∀ (a : Nat) (e : z_C), h a = some e → ∃ q0 : Nat, ws[q0]? = some (a, z_e (g_c g) e)
def z_T (g : z_G) : List (ClassId × FieldType) := [(g_c g 0, .int), (g_c g 1, .long), (g_c g 2, .object RX1), (g_c g 3, .object RX3), (g_c g 4, .object RX5)]

def z_tn : Nat → String := fun i => match i with
  | 0 => "ABOVE"
  | 1 => "TAKES"
  | 2 => "MAKES"
  | _ => "YARN"
def z_tABOVE : List Int := [-1, 0, 0, 0, 1, 1, 1, 2, 2, 3, 3, 3, 10]
def z_tTAKES : List Int := [0, 0, 0, 0, 1, 1, 1, 0, 0, 2, 2, 1, 3]
def z_tMAKES : List Int := [0, 0, 0, 0, 1, 1, 1, 1, 1, 1, 1, 0, 1]
def z_tYARN : List Int := [0, 0, 0, 0, 10, 11, 4, 13, 9, 12, 14, 15, 18]
def z_tv : Nat → Nat → Int := fun i j => match i with
  | 0 => z_tABOVE.getD j 0
  | 1 => z_tTAKES.getD j 0
  | 2 => z_tMAKES.getD j 0
  | _ => z_tYARN.getD j 0
def z_sc : List Nat := [44, 46, 48, 50, 52, 54, 56, 58, 60, 62]
def z_sx : List String := ["k", "p", "sl", "yo", "m", "kt", "sk", "bo", "sd", ""]
def z_sn : List Nat := [1, 1, 2, 2, 1, 2, 2, 2, 2, 0]
def z_sb : List (List Int32) := [[107], [112], [115, 108], [121, 111], [109], [107, 116], [115, 107], [98, 111], [115, 100], []]
/-- what nobody writes: the tables of Kinds, its Strings, the script -/
def z_St (g : z_G) (U : State) (H : Heap) : Prop :=
  (∀ i, i < 4 → va_Z "KnitReader$Kinds" (z_tn i) "[I" (.ref (g_s g i)) (z_A g) U H ∧ va_T .int (g_s g i) 13 (fun j => .int (Int32.ofInt (z_tv i j))) (z_A g) U H) ∧
  vk_S 10 z_sn z_sb (g_K g) (g_W g) (z_A g) U H ∧
  (∀ i, i < 10 → vk_R "KnitReader$Kinds" (z_sc.getD i 0) (z_sx.getD i "") (g_K g i) U) ∧
  va_Z "java/lang/String" "COMPACT_STRINGS" "Z" (.int 1) (z_A g) U H ∧
  va_Zq "jdk/internal/util/Preconditions" "SIOOBE_FORMATTER" "Ljava/util/function/BiFunction;" (z_A g) U H ∧
  va_X (g_b g) (g_L g) (g_x g) U H ∧ g_b g < H.size ∧ ¬ z_A g (g_b g)
theorem z_St.moved {g : z_G} {u U : State} {H H1 : Heap} (hW : u.WarmedH U.vm) (hz : H.size ≤ H1.size) (hq : ∀ a : Nat, a < H.size → ¬ z_A g a → H1[a]? = H[a]?) (h : z_St g u H) : z_St g U H1 := by
  have hv : u.vm.Alike U.vm := hW.alike
  obtain ⟨h1, h2, h3, h4, h5, h6, h7, h8⟩ := h
  exact ⟨fun i hi => ⟨((h1 i hi).1.kept hq).moved hv, ((h1 i hi).2.kept hq).moved hv⟩, (h2.kept hq).moved hv, fun i hi => (h3 i hi).warm hW, (h4.kept hq).moved hv, (h5.kept hq).moved hv, (h6.kept (hq _ h7 h8)).moved hv, Nat.lt_of_lt_of_le h7 hz, h8⟩
/-- the tables' words that hold at every call -/
def z_W : List Cond := lw_tbl.filter goodWord
theorem z_Wg : ∀ w ∈ z_W, (w.onTables && w.keeps) = true ∨ ∃ ty, w = .arrayClass ty := fun w h => good_of_word (List.mem_filter.mp h).2
theorem z_Wt {w : Cond} (h : w ∈ z_W) : w ∈ lw_tbl := (List.mem_filter.mp h).1
theorem z_at1 {w : Cond} (i : Nat) (h : tables_1[i]? = some w) (hg : goodWord w = true) : w ∈ z_W := List.mem_filter.mpr ⟨List.mem_append_right _ (List.mem_of_getElem? h), hg⟩
theorem z_at0 {w : Cond} (i : Nat) (h : (k2_sels lw_privs)[i]? = some w) (hg : goodWord w = true) : w ∈ z_W := List.mem_filter.mpr ⟨List.mem_append_left _ (List.mem_of_getElem? h), hg⟩
def z_isN : Cond → Bool
  | .fieldLinkNest .. => true
  | .methodLinkNest .. => true
  | _ => false
/-- the words on private members of nest mates -/
def z_N : List Cond := lw_tbl.filter z_isN
theorem z_atN {w : Cond} (i : Nat) (h : tables_1[i]? = some w) (hg : z_isN w = true) : w ∈ z_N := List.mem_filter.mpr ⟨List.mem_append_right _ (List.mem_of_getElem? h), hg⟩
theorem z_Nmoved {w : Cond} {u U : State} (hW : u.WarmedH U.vm) (hw : z_isN w = true) (h : va_Nw w u) : va_Nw w U := by
  cases w <;> first | exact va_Nw.warmF hW h | exact va_Nw.warmM hW h | (exact absurd hw (by decide)) | cases hw
theorem z_Nt {w : Cond} (hw : z_isN w = true) : w.onTables = true := by
  cases w <;> first | rfl | cases hw
def z_S (g : z_G) (U : State) : Prop := va_K (g_D g) vwCl (z_T g) U ∧ z_St g U U.heap ∧ g_0 g ≤ U.heap.size ∧ (∀ w ∈ z_N, va_Nw w U) ∧ va_AO RX1 U ∧ va_AO RX3 U ∧ va_AO RX5 U
theorem z_S.moved {g : z_G} {u U : State} (hW : u.WarmedH U.vm) (hz : u.heap.size ≤ U.heap.size) (hq : ∀ a : Nat, a < u.heap.size → ¬ z_A g a → U.heap[a]? = u.heap[a]?) (h : z_S g u) : z_S g U :=
  ⟨va_K.moved hW.alike h.1, z_St.moved hW hz hq h.2.1, Nat.le_trans h.2.2.1 hz, fun w hw => z_Nmoved hW (List.mem_filter.mp hw).2 (h.2.2.2.1 w hw), va_AO.moved hW.alike h.2.2.2.2.1, va_AO.moved hW.alike h.2.2.2.2.2.1, va_AO.moved hW.alike h.2.2.2.2.2.2⟩
theorem z_St.blind {g : z_G} {U : State} {H : Heap} {U' : State} (hv : U'.vm = U.vm) (h : z_St g U H) : z_St g U' H := by
  obtain ⟨h1, h2, h3, h4, h5, h6, h7, h8⟩ := h
  have ha : U.vm.Alike U'.vm := by rw [hv]; exact Vm.Alike.refl _
  exact ⟨fun i hi => ⟨(h1 i hi).1.moved ha, (h1 i hi).2.moved ha⟩, h2.moved ha, fun i hi => (h3 i hi).same hv, h4.moved ha, h5.moved ha, h6.moved ha, h7, h8⟩
theorem z_S.blind {g : z_G} {U : State} {U' : State} (hv : U'.vm = U.vm) (hh : U'.heap = U.heap) (h : z_S g U) : z_S g U' := by
  have ha : U.vm.Alike U'.vm := by rw [hv]; exact Vm.Alike.refl _
  refine ⟨va_K.moved ha h.1, ?_, by rw [hh]; exact h.2.2.1, fun w hw => va_Nw.same (z_Nt (List.mem_filter.mp hw).2) hv.symm (h.2.2.2.1 w hw), va_AO.moved ha h.2.2.2.2.1, va_AO.moved ha h.2.2.2.2.2.1, va_AO.moved ha h.2.2.2.2.2.2⟩
  rw [hh]
  exact h.2.1.blind hv
abbrev z_M : Type := MethodName × ByteArray × Nat × Option FieldType
def z_ws (M : z_M) : List Cond := .code M.1 M.2.1 M.2.2.1 M.2.2.2 :: z_W
def z_rm (d mc ms : Nat) : Room := { frames := d, cells := mc, slots := ms, locals := 41 * d }
def z_Q (g : z_G) (P : Option z_V → z_H → Prop) : Array Value → State → Outcome → State → Prop := fun _ st oc t => (∃ (r : Option z_V) (h : z_H), oc = .returned (r.map z_v) ∧ P r h ∧ z_R g h t.heap) ∧ va_F (z_A g) st t
def z_Pc (g : z_G) (args : List z_V) (h : z_H) : Array Value → State → Prop := va_Pc (args.map z_v) (fun U => z_R g h U.heap ∧ z_S g U)
/-- the method M on these arguments in this heap ends, with an answer and a heap of which P holds; d frames, mc cells, ms slots -/
def z_D (g : z_G) (M : z_M) (d mc ms : Nat) (args : List z_V) (h : z_H) (P : Option z_V → z_H → Prop) : Prop := Met (g_l g) M.1 (z_ws M) (z_rm d mc ms) (z_Pc g args h) (z_Q g P) mc ms (z_A g)
theorem z_D.mono {g : z_G} {M : z_M} {d mc ms : Nat} {args : List z_V} {h : z_H} {P P' : Option z_V → z_H → Prop} (hD : z_D g M d mc ms args h P) (hP : ∀ r h', P r h' → P' r h') : z_D g M d mc ms args h P' := by
  intro p e ha hc hk s m a below hf hpre hpc hkk
  obtain ⟨t, o, h1, h2, h3, ⟨⟨⟨r, h', e1, e2, e3⟩, e4⟩, e5⟩⟩ := hD p e ha hc hk s m a below hf hpre hpc hkk
  exact ⟨t, o, h1, h2, h3, ⟨⟨⟨r, h', e1, hP r h' e2, e3⟩, e4⟩, e5⟩⟩
theorem z_Pcb (g : z_G) (args : List z_V) (h : z_H) : FrameBlind (z_Pc g args h) := by
  intro a U f mk q
  obtain ⟨q1, q2, q3⟩ := q
  exact ⟨q1, q2, z_S.blind (U := U) rfl rfl q3⟩
/-- the machine's side of a method's body -/
abbrev z_X : Type := Program × Env × Room × State × MethodId × Array Value × List Frame × Method × Code × Nat × (State → Prop)
abbrev x_p (X : z_X) : Program := X.1
abbrev x_e (X : z_X) : Env := X.2.1
abbrev x_R (X : z_X) : Room := X.2.2.1
abbrev x_s (X : z_X) : State := X.2.2.2.1
abbrev x_m (X : z_X) : MethodId := X.2.2.2.2.1
abbrev x_a (X : z_X) : Array Value := X.2.2.2.2.2.1
abbrev x_b (X : z_X) : List Frame := X.2.2.2.2.2.2.1
abbrev x_t (X : z_X) : Method := X.2.2.2.2.2.2.2.1
abbrev x_c (X : z_X) : Code := X.2.2.2.2.2.2.2.2.1
abbrev x_n (X : z_X) : Nat := X.2.2.2.2.2.2.2.2.2.1
abbrev x_q (X : z_X) : State → Prop := X.2.2.2.2.2.2.2.2.2.2
def z_L (nL : Nat) (ls : List z_V) (S : Array Slot) : Prop := ls.length = nL ∧ S.size = nL ∧ lv_wf S ∧ ∀ (i : Nat) (v : z_V), ls[i]? = some v → v ≠ z_u → S[i]? = some (.val (z_v v))
abbrev z_Cx (g : z_G) (X : z_X) (cc : ByteArray) (own : String) (r : Nat × Nat × Nat) : Prop :=
  (x_p X).tables.exec = Jvm.exec ∧ (x_c X).code = cc ∧ (x_c X).maxLocals = x_n X ∧ (x_s X).vm.findClass own = some (x_m X).cls ∧ (∀ w ∈ z_W, w.before (x_a X) (x_s X) = true) ∧ z_S g (x_s X) ∧ (x_t X).locks = false ∧
  r.1 ≤ (x_R X).frames ∧ r.2.1 ≤ (x_R X).cells ∧ r.2.2 ≤ (x_R X).slots ∧ 41 * r.1 ≤ (x_R X).locals
def z_w (g : z_G) (X : z_X) (cc : ByteArray) (own : String) (r : Nat × Nat × Nat) (pc : Nat) (ls st : List z_V) (h : z_H) (k n : Nat) : Prop :=
  z_Cx g X cc own r → ∀ (H : Heap) (locs : List Loc) (S : Array Slot), z_R g h H → va_S (z_A g) (x_s X).heap H locs → z_L (x_n X) ls S →
    W (x_p X) (g_l g) (x_e X) (x_R X) (x_s X) (x_m X) (x_a X) (x_b X) (x_t X) (x_c X) H locs k n (x_q X) (F0 (x_m X) pc S (st.map z_v))
/-- how a body may end -/
def z_F (g : z_G) (X : z_X) (M : z_M) (r : Nat × Nat × Nat) (P : Option z_V → z_H → Prop) : Prop :=
  x_q X = MQ (x_b X) (z_Q g P) (x_a X) (x_s X) r.2.1 r.2.2 (z_A g) ∧ (x_t X).sig.returnType = M.2.2.2 ∧ (x_t X).name = M.1.name
/-- the locals at the entry -/
def z_al : List z_V → List z_V
  | [] => []
  | .inr (.inl z) :: l => .inr (.inl z) :: z_u :: z_al l
  | v :: l => v :: z_al l
def z_en (nL : Nat) (args : List z_V) : List z_V := z_al args ++ List.replicate (nL - (z_al args).length) z_u
theorem z_cat (v : z_V) : (z_v v).category = (match v with | .inr (.inl _) => 2 | _ => 1) := by
  rcases v with z | z | o
  · rfl
  · rfl
  · cases o with
    | none => rfl
    | some o => cases o <;> rfl
theorem z_slc (a : Value) (l : List Value) : lg_sl (a :: l) = (if a.category = 2 then [Slot.val a, Slot.second] else [Slot.val a]) ++ lg_sl l := rfl
theorem z_sl : ∀ (args : List z_V), (lg_sl (args.map z_v)).length = (z_al args).length ∧ ∀ (i : Nat) (v : z_V), (z_al args)[i]? = some v → v ≠ z_u → (lg_sl (args.map z_v))[i]? = some (.val (z_v v)) := by
  intro args
  induction args with
  | nil => exact ⟨rfl, fun i v h => by simp [z_al] at h⟩
  | cons a l ih =>
    obtain ⟨ih1, ih2⟩ := ih
    rw [List.map_cons, z_slc]
    rcases a with z | z | o
    · have hc : ¬ (z_v (.inl z)).category = 2 := by simp [z_cat]
      rw [if_neg hc]
      refine ⟨by simp [z_al, ih1], fun i v h hv => ?_⟩
      cases i with
      | zero =>
        simp [z_al] at h
        subst h
        simp
      | succ i =>
        simp [z_al] at h
        simpa using ih2 i v h hv
    · have hc : (z_v (.inr (.inl z))).category = 2 := by simp [z_cat]
      rw [if_pos hc]
      refine ⟨by simp [z_al, ih1], fun i v h hv => ?_⟩
      cases i with
      | zero =>
        simp [z_al] at h
        subst h
        simp
      | succ i =>
        cases i with
        | zero =>
          simp [z_al] at h
          exact absurd h.symm hv
        | succ i =>
          simp [z_al] at h
          simpa using ih2 i v h hv
    · have hc : ¬ (z_v (.inr (.inr o))).category = 2 := by simp [z_cat]
      rw [if_neg hc]
      refine ⟨by simp [z_al, ih1], fun i v h hv => ?_⟩
      cases i with
      | zero =>
        simp [z_al] at h
        subst h
        simp
      | succ i =>
        simp [z_al] at h
        simpa using ih2 i v h hv
/-- the locals and the machine's -/
theorem z_L.entry {nL : Nat} {args : List z_V} (hn : (z_al args).length ≤ nL) : z_L nL (z_en nL args) ((lg_sl (args.map z_v) ++ List.replicate (nL - (lg_sl (args.map z_v)).length) Slot.unset).toArray) := by
  obtain ⟨e1, e2⟩ := z_sl args
  obtain ⟨h1, h2, -⟩ := lv_entry (args.map z_v) (n := nL) (by rw [e1]; exact hn)
  refine ⟨by simp [z_en]; omega, h1, h2, fun i v h hv => ?_⟩
  unfold z_en at h
  by_cases hi : i < (z_al args).length
  · rw [List.getElem?_append_left hi] at h
    have := e2 i v h hv
    simp only [List.getElem?_toArray]
    rw [List.getElem?_append_left (by rw [e1]; exact hi)]
    exact this
  · rw [List.getElem?_append_right (by omega)] at h
    have := List.mem_of_getElem? h
    exact absurd (List.eq_of_mem_replicate this) hv
theorem z_D.of {g : z_G} {M : z_M} {d mc ms : Nat} {args : List z_V} {h : z_H} {P : Option z_V → z_H → Prop} (hy : plainName M.1.cls = true) (hn : (z_al args).length ≤ M.2.2.1)
    (body : ∀ X : z_X, z_F g X M (d, mc, ms) P → z_w g X M.2.1 M.1.cls (d, mc, ms) 0 (z_en M.2.2.1 args) [] h 0 0) : z_D g M d mc ms args h P := by
  refine Met.ofW (cc := M.2.1) (maxL := M.2.2.1) (ret := M.2.2.2) hy rfl ?_
  intro p e s m a below meth c s₁ B hml hv
  obtain ⟨rfl, hR, hS⟩ := hv
  have hts := atoms_spec (ws := z_ws M) B.pre
  have hown : s.vm.findClass M.1.cls = some m.cls := findClass_of_methodNamed B.named
  have hX := body (p, e, (headSpec (z_ws M) (z_rm d mc ms)).room, s, m, (args.map z_v).toArray, below, meth, c, M.2.2.1, MQ below (z_Q g P) (args.map z_v).toArray s mc ms (z_A g)) ⟨rfl, B.returns, (name_of_methodNamed B.named B.method).1⟩
  rw [lg_entry_eq]
  exact hX ⟨B.exec, B.bytes, hml, hown, fun w hw => hts w (List.mem_cons_of_mem _ hw), hS, B.notSynchronized, Nat.le_refl _, Nat.le_refl _, Nat.le_refl _, Nat.le_refl _⟩ s.heap [] _ hR va_S.rf (z_L.entry hn)
/-! the heap -/
def z_up (h : z_H) (a : Nat) (e : z_C) : z_H := fun q => if q = a then some e else h q
def z_sf (f : Nat → Int) (k : Nat) (x : Int) : Nat → Int := fun q => if q = k then x else f q
def z_sq (f : Nat → Option Nat) (k : Nat) (x : Option Nat) : Nat → Option Nat := fun q => if q = k then x else f q
theorem z_up_s {h : z_H} {a : Nat} {e : z_C} : z_up h a e a = some e := if_pos rfl
theorem z_up_n {h : z_H} {a b : Nat} {e : z_C} (hb : b ≠ a) : z_up h a e b = h b := if_neg hb
theorem z_R.set {g : z_G} {h : z_H} {H1 : Heap} {ws : va_W} {q0 a : Nat} {e0 : va_E} {e1 : z_C} (hw : ∀ (a : Nat) (e : z_C), h a = some e → ∃ q0 : Nat, ws[q0]? = some (a, z_e (g_c g) e)) (hq : ws[q0]? = some (a, e0))
    (hP : va_P (g_D g) vwCl (ws.set q0 (a, z_e (g_c g) e1)) H1) (hD : va_D (z_A g) (ws.set q0 (a, z_e (g_c g) e1))) : z_R g (z_up h a e1) H1 := by
  have hl := (List.getElem?_eq_some_iff.mp hq).1
  refine ⟨_, hP, hD, fun b e hb => ?_⟩
  by_cases hba : b = a
  · subst hba
    rw [z_up_s] at hb
    cases hb
    exact ⟨q0, List.getElem?_set_self hl⟩
  · rw [z_up_n hba] at hb
    obtain ⟨j, hj⟩ := hw b e hb
    refine ⟨j, ?_⟩
    rw [List.getElem?_set_ne]
    · exact hj
    · intro hjq
      subst hjq
      rw [hq] at hj
      cases hj
      exact hba rfl
theorem z_R.push {g : z_G} {h : z_H} {H1 : Heap} {ws : va_W} {a : Nat} {e1 : z_C} (hw : ∀ (a : Nat) (e : z_C), h a = some e → ∃ q0 : Nat, ws[q0]? = some (a, z_e (g_c g) e))
    (hP : va_P (g_D g) vwCl (ws ++ [(a, z_e (g_c g) e1)]) H1) (hD : va_D (z_A g) (ws ++ [(a, z_e (g_c g) e1)])) : z_R g (z_up h a e1) H1 ∧ h a = none := by
  have hn : h a = none := by
    cases hb : h a with
    | none => rfl
    | some e =>
      obtain ⟨j, hj⟩ := hw a e hb
      have hl := (List.getElem?_eq_some_iff.mp hj).1
      have h1 : (ws ++ [(a, z_e (g_c g) e1)])[j]? = some (a, z_e (g_c g) e) := by rw [List.getElem?_append_left hl]; exact hj
      have h2 : (ws ++ [(a, z_e (g_c g) e1)])[ws.length]? = some (a, z_e (g_c g) e1) := by simp
      have := hD.1 j ws.length _ _ h1 h2 rfl
      omega
  refine ⟨⟨_, hP, hD, fun b e hb => ?_⟩, hn⟩
  by_cases hba : b = a
  · subst hba
    rw [z_up_s] at hb
    cases hb
    exact ⟨ws.length, by simp⟩
  · rw [z_up_n hba] at hb
    obtain ⟨j, hj⟩ := hw b e hb
    have hl := (List.getElem?_eq_some_iff.mp hj).1
    exact ⟨j, by rw [List.getElem?_append_left hl]; exact hj⟩
theorem z_R.weak {g : z_G} {h h' : z_H} {H : Heap} (hR : z_R g h H) (hh : ∀ (a : Nat) (e : z_C), h' a = some e → h a = some e) : z_R g h' H := by
  obtain ⟨ws, h1, h2, h3⟩ := hR
  exact ⟨ws, h1, h2, fun a e he => h3 a e (hh a e he)⟩
theorem z_R.base {g : z_G} {h : z_H} {H : Heap} (hR : z_R g h H) {a : Nat} {e : z_C} (he : h a = some e) : g_0 g ≤ a := by
  obtain ⟨ws, h1, h2, h3⟩ := hR
  obtain ⟨q0, hq⟩ := h3 a e he
  exact h2.2 q0 _ hq
end
section
/-! the rows: one instruction each, over the abstract machine -/
abbrev z_in (a : Int) : Prop := -2147483648 ≤ a ∧ a < 2147483648
theorem z_toI {a : Int} (h : z_in a) : (Int32.ofInt a).toInt = a := Int32.toInt_ofInt_of_le (by have := h.1; omega) (by have := h.2; omega)
theorem z_lt {a b : Int} (ha : z_in a) (hb : z_in b) : Int32.ofInt a < Int32.ofInt b ↔ a < b := by rw [Int32.lt_iff_toInt_lt, z_toI ha, z_toI hb]
theorem z_le {a b : Int} (ha : z_in a) (hb : z_in b) : Int32.ofInt a ≤ Int32.ofInt b ↔ a ≤ b := by rw [Int32.le_iff_toInt_le, z_toI ha, z_toI hb]
theorem z_eq {a b : Int} (ha : z_in a) (hb : z_in b) : Int32.ofInt a = Int32.ofInt b ↔ a = b := by rw [← Int32.toInt_inj, z_toI ha, z_toI hb]
theorem z_0 : (0 : Int32) = Int32.ofInt 0 := by decide
theorem z_in0 : z_in 0 := by decide
theorem z_ofN (n : Nat) : Int32.ofNat n = Int32.ofInt (n : Int) := Int32.ofInt_eq_ofNat.symm
theorem z_clamp {j : Int} (h0 : 0 ≤ j) (h1 : j < 2147483648) : (Int32.ofInt j).toNatClampNeg = j.toNat := by
  show (Int32.ofInt j).toInt.toNat = j.toNat
  rw [z_toI ⟨by omega, h1⟩]
theorem z_vin {j : Int} {n : Nat} (h0 : 0 ≤ j) (h1 : j < (n : Int)) (hn : j < 2147483648) : vp_in (Int32.ofInt j) n := by
  intro q
  rcases q with q | q
  · rw [z_0, z_lt ⟨by omega, hn⟩ z_in0] at q
    omega
  · rw [z_clamp h0 hn] at q
    omega
def z_c1 (v : z_V) : Bool := match v with
  | .inr (.inl _) => false
  | .inr (.inr none) => false
  | _ => true
theorem z_c1c {v : z_V} (h : z_c1 v = true) : (z_v v).category = 1 ∧ v ≠ z_u := by
  rcases v with z | z | o
  · exact ⟨rfl, fun e => by cases e⟩
  · cases h
  · cases o with
    | none => cases h
    | some o => exact ⟨by cases o <;> rfl, fun e => by cases e⟩
def z_nl (ls : List z_V) (i : Nat) : Bool := match i with
  | 0 => true
  | j + 1 => match ls[j]? with
    | some (.inr (.inl _)) => false
    | _ => true
/-- the locals as the kit's list -/
theorem z_L.has {nL : Nat} {ls : List z_V} {S : Array Slot} (hL : z_L nL ls S) (l : List (Nat × Value)) (hl : ∀ q ∈ l, ∃ v, ls[q.1]? = some v ∧ v ≠ z_u ∧ q.2 = z_v v) : lv_has S nL l :=
  ⟨hL.2.1, hL.2.2.1, fun q hq => by
    obtain ⟨v, h1, h2, h3⟩ := hl q hq
    rw [h3]
    exact hL.2.2.2 _ _ h1 h2⟩
def z_as (ls : List z_V) : List (Nat × Value) := (List.range ls.length).filterMap (fun j => match ls[j]? with
  | some v => if v = z_u then none else some (j, z_v v)
  | none => none)
theorem z_as_mem {ls : List z_V} {q : Nat × Value} : q ∈ z_as ls ↔ ∃ v, ls[q.1]? = some v ∧ v ≠ z_u ∧ q.2 = z_v v := by
  unfold z_as
  rw [List.mem_filterMap]
  constructor
  · rintro ⟨j, -, h⟩
    cases hv : ls[j]? with
    | none => rw [hv] at h; cases h
    | some v =>
      rw [hv] at h
      by_cases hu : v = z_u
      · simp [hu] at h
      · simp [hu] at h
        subst h
        exact ⟨v, hv, hu, rfl⟩
  · rintro ⟨v, h1, h2, h3⟩
    refine ⟨q.1, List.mem_range.mpr (List.getElem?_eq_some_iff.mp h1).1, ?_⟩
    rw [h1]
    simp [h2, ← h3]
theorem z_L.has' {nL : Nat} {ls : List z_V} {S : Array Slot} (hL : z_L nL ls S) : lv_has S nL (z_as ls) := hL.has _ (fun _ hq => z_as_mem.mp hq)
theorem z_L.set1 {nL i : Nat} {ls : List z_V} {S S' : Array Slot} {v : z_V} (hL : z_L nL ls S) (hi : i < ls.length) (hn : z_nl ls i = true) (l : List (Nat × Value)) (hsub : ∀ q ∈ z_as ls, q ∈ l) (h' : lv_has S' nL ((i, z_v v) :: l.filter (fun q => !(q.1 == i) && !(q.1 + 1 == i && q.2.category == 2)))) : z_L nL (ls.set i v) S' := by
  refine ⟨by rw [List.length_set]; exact hL.1, h'.1, h'.2.1, fun j w hj hw => ?_⟩
  by_cases hji : j = i
  · subst hji
    rw [List.getElem?_set_self hi] at hj
    cases hj
    exact h'.2.2 (j, z_v v) List.mem_cons_self
  · rw [List.getElem?_set_ne (Ne.symm hji)] at hj
    refine h'.2.2 (j, z_v w) (List.mem_cons_of_mem _ (List.mem_filter.mpr ⟨hsub _ (z_as_mem.mpr ⟨w, hj, hw, rfl⟩), ?_⟩))
    have h1 : (j == i) = false := by simpa using hji
    have h2 : (j + 1 == i && (z_v w).category == 2) = false := by
      by_cases hji1 : j + 1 = i
      · subst hji1
        simp only [z_nl, hj] at hn
        rcases w with z | z | o
        · simp [z_v, Value.category]
        · simp at hn
        · have := z_cat (.inr (.inr o))
          simp [this]
      · simp [hji1]
    simp [h1, h2]
theorem z_L.set2 {nL i : Nat} {ls : List z_V} {S S' : Array Slot} {v : z_V} (hL : z_L nL ls S) (hi : i < ls.length) (hn : z_nl ls i = true) (h' : lv_has S' nL ((i, z_v v) :: (z_as ls).filter (fun q => !(q.1 == i) && (!(q.1 == i + 1) && !(q.1 + 1 == i && q.2.category == 2))))) : z_L nL ((ls.set i v).set (i + 1) z_u) S' := by
  refine ⟨by rw [List.length_set, List.length_set]; exact hL.1, h'.1, h'.2.1, fun j w hj hw => ?_⟩
  by_cases hj1 : j = i + 1
  · subst hj1
    have hl : i + 1 < ((ls.set i v).set (i + 1) z_u).length := (List.getElem?_eq_some_iff.mp hj).1
    rw [List.length_set] at hl
    rw [List.getElem?_set_self hl] at hj
    cases hj
    exact absurd rfl hw
  · rw [List.getElem?_set_ne (Ne.symm hj1)] at hj
    by_cases hji : j = i
    · subst hji
      rw [List.getElem?_set_self hi] at hj
      cases hj
      exact h'.2.2 (j, z_v v) List.mem_cons_self
    · rw [List.getElem?_set_ne (Ne.symm hji)] at hj
      refine h'.2.2 (j, z_v w) (List.mem_cons_of_mem _ (List.mem_filter.mpr ⟨z_as_mem.mpr ⟨w, hj, hw, rfl⟩, ?_⟩))
      have h1 : (j == i) = false := by simpa using hji
      have h3 : (j == i + 1) = false := by simpa using hj1
      have h2 : (j + 1 == i && (z_v w).category == 2) = false := by
        by_cases hji1 : j + 1 = i
        · subst hji1
          simp only [z_nl, hj] at hn
          rcases w with z | z | o
          · simp [z_v, Value.category]
          · simp at hn
          · have := z_cat (.inr (.inr o))
            simp [this]
        · simp [hji1]
      simp [h1, h2, h3]
section ZR
variable {g : z_G} {X : z_X} {cc : ByteArray} {own : String} {r : Nat × Nat × Nat} {pc k n : Nat} {ls st : List z_V} {h : z_H}

theorem z_iconst {v : Int} (hd : decode cc pc = .ok (.iconst v, 1))
    (kk : z_w g X cc own r (pc + 1) (ls) (z_i v :: st) (h) k n) : z_w g X cc own r pc ls (st) h k n := fun C H locs S hR hS hL =>
  lv_iconst C.1 C.2.1 hd rfl (kk C H locs S hR hS hL)
theorem z_bipush {v : Int} (hd : decode cc pc = .ok (.bipush v, 2)) (hv : decide (-128 ≤ v ∧ v ≤ 127) = true)
    (kk : z_w g X cc own r (pc + 2) (ls) (z_i v :: st) (h) k n) : z_w g X cc own r pc ls (st) h k n := fun C H locs S hR hS hL =>
  lv_bipush C.1 C.2.1 hd (Int8.toInt32_ofInt (of_decide_eq_true hv).1 (of_decide_eq_true hv).2) (kk C H locs S hR hS hL)
theorem z_sipush {v : Int} (hd : decode cc pc = .ok (.sipush v, 3)) (hv : decide (-32768 ≤ v ∧ v ≤ 32767) = true)
    (kk : z_w g X cc own r (pc + 3) (ls) (z_i v :: st) (h) k n) : z_w g X cc own r pc ls (st) h k n := fun C H locs S hR hS hL =>
  lv_sipush C.1 C.2.1 hd (Int16.toInt32_ofInt (of_decide_eq_true hv).1 (of_decide_eq_true hv).2) (kk C H locs S hR hS hL)
theorem z_lconst0 (hd : decode cc pc = .ok (.lconst 0, 1))
    (kk : z_w g X cc own r (pc + 1) (ls) (z_l 0 :: st) (h) k n) : z_w g X cc own r pc ls (st) h k n := fun C H locs S hR hS hL =>
  lv_lconst (v := Int64.ofInt 0) C.1 C.2.1 hd (by decide) (kk C H locs S hR hS hL)
theorem z_lconst1 (hd : decode cc pc = .ok (.lconst 1, 1))
    (kk : z_w g X cc own r (pc + 1) (ls) (z_l 1 :: st) (h) k n) : z_w g X cc own r pc ls (st) h k n := fun C H locs S hR hS hL =>
  lv_lconst (v := Int64.ofInt 1) C.1 C.2.1 hd (by decide) (kk C H locs S hR hS hL)
theorem z_null (hd : decode cc pc = .ok (.aconst_null, 1))
    (kk : z_w g X cc own r (pc + 1) (ls) (z_n :: st) (h) k n) : z_w g X cc own r pc ls (st) h k n := fun C H locs S hR hS hL =>
  lv_null C.1 C.2.1 hd (kk C H locs S hR hS hL)
theorem z_ldc {ix : Nat} {v : Int} (hd : decode cc pc = .ok (.ldc ix, 2)) (hw : Cond.constant own ix (Int32.ofInt v) ∈ z_W)
    (kk : z_w g X cc own r (pc + 2) (ls) (z_i v :: st) (h) k n) : z_w g X cc own r pc ls (st) h k n := fun C H locs S hR hS hL =>
  lv_ldc C.1 C.2.1 C.2.2.2.1 (C.2.2.2.2.1 _ hw) hd (kk C H locs S hR hS hL)
theorem z_ldcw {ix : Nat} {v : Int} (hd : decode cc pc = .ok (.ldc_w ix, 3)) (hw : Cond.constant own ix (Int32.ofInt v) ∈ z_W)
    (kk : z_w g X cc own r (pc + 3) (ls) (z_i v :: st) (h) k n) : z_w g X cc own r pc ls (st) h k n := fun C H locs S hR hS hL =>
  lv_ldcw C.1 C.2.1 C.2.2.2.1 (C.2.2.2.2.1 _ hw) hd (kk C H locs S hR hS hL)
theorem z_ldc2 {ix : Nat} {v : Int} (hd : decode cc pc = .ok (.ldc2_w ix, 3)) (hw : Cond.constantLong own ix (Int64.ofInt v) ∈ z_W)
    (kk : z_w g X cc own r (pc + 3) (ls) (z_l v :: st) (h) k n) : z_w g X cc own r pc ls (st) h k n := fun C H locs S hR hS hL =>
  lv_ldc2 C.1 C.2.1 C.2.2.2.1 (C.2.2.2.2.1 _ hw) hd (kk C H locs S hR hS hL)
theorem z_iload_n {i : Fin 4} {x : Int} (hd : decode cc pc = .ok (.iload_n i, 1)) (hl : ls[(i : Nat)]? = some (z_i x))
    (kk : z_w g X cc own r (pc + 1) (ls) (z_i x :: st) (h) k n) : z_w g X cc own r pc ls (st) h k n := fun C H locs S hR hS hL =>
  lv_iload_n C.1 C.2.1 hd rfl (hL.2.2.2 _ _ hl (fun e => by cases e)) (kk C H locs S hR hS hL)
theorem z_iload {i : Nat} {x : Int} (hd : decode cc pc = .ok (.iload i, 2)) (hl : ls[i]? = some (z_i x))
    (kk : z_w g X cc own r (pc + 2) (ls) (z_i x :: st) (h) k n) : z_w g X cc own r pc ls (st) h k n := fun C H locs S hR hS hL =>
  lv_iload C.1 C.2.1 hd (hL.2.2.2 _ _ hl (fun e => by cases e)) (kk C H locs S hR hS hL)
theorem z_lload_n {i : Fin 4} {x : Int} (hd : decode cc pc = .ok (.lload_n i, 1)) (hl : ls[(i : Nat)]? = some (z_l x))
    (kk : z_w g X cc own r (pc + 1) (ls) (z_l x :: st) (h) k n) : z_w g X cc own r pc ls (st) h k n := fun C H locs S hR hS hL =>
  lv_lload_n C.1 C.2.1 hd rfl (hL.2.2.2 _ _ hl (fun e => by cases e)) (kk C H locs S hR hS hL)
theorem z_lload {i : Nat} {x : Int} (hd : decode cc pc = .ok (.lload i, 2)) (hl : ls[i]? = some (z_l x))
    (kk : z_w g X cc own r (pc + 2) (ls) (z_l x :: st) (h) k n) : z_w g X cc own r pc ls (st) h k n := fun C H locs S hR hS hL =>
  lv_lload C.1 C.2.1 hd (hL.2.2.2 _ _ hl (fun e => by cases e)) (kk C H locs S hR hS hL)
theorem z_aload_n {i : Fin 4} {x : Option Nat} (hd : decode cc pc = .ok (.aload_n i, 1)) (hl : ls[(i : Nat)]? = some (z_q x))
    (kk : z_w g X cc own r (pc + 1) ls (z_q x :: st) h k n) : z_w g X cc own r pc ls st h k n := fun C H locs S hR hS hL => by
  have h1 := hL.2.2.2 _ _ hl (fun e => by cases e)
  have h2 := kk C H locs S hR hS hL
  cases x with
  | none => exact lv_aload_nN C.1 C.2.1 hd rfl h1 h2
  | some x => exact lv_aload_n C.1 C.2.1 hd rfl h1 h2
theorem z_aload {i : Nat} {x : Option Nat} (hd : decode cc pc = .ok (.aload i, 2)) (hl : ls[i]? = some (z_q x))
    (kk : z_w g X cc own r (pc + 2) ls (z_q x :: st) h k n) : z_w g X cc own r pc ls st h k n := fun C H locs S hR hS hL => by
  have h1 := hL.2.2.2 _ _ hl (fun e => by cases e)
  have h2 := kk C H locs S hR hS hL
  cases x with
  | none => exact lv_aloadN C.1 C.2.1 hd h1 h2
  | some x => exact lv_aload C.1 C.2.1 hd h1 h2
theorem z_istore_n {i : Fin 4} {x : Int} (hd : decode cc pc = .ok (.istore_n i, 1)) (hi : (i : Nat) < ls.length) (hn : z_nl ls i = true)
    (kk : z_w g X cc own r (pc + 1) (ls.set i (z_i x)) (st) (h) k n) : z_w g X cc own r pc ls (z_i x :: st) h k n := fun C H locs S hR hS hL =>
  lv_istore_n C.1 C.2.1 hd rfl hL.has' (by rw [← hL.1]; exact hi) rfl (fun S2 h2 => kk C H locs S2 hR hS (hL.set1 hi hn _ (fun _ q => q) h2))
theorem z_istore {i : Nat} {x : Int} (hd : decode cc pc = .ok (.istore i, 2)) (hi : i < ls.length) (hn : z_nl ls i = true)
    (kk : z_w g X cc own r (pc + 2) (ls.set i (z_i x)) (st) (h) k n) : z_w g X cc own r pc ls (z_i x :: st) h k n := fun C H locs S hR hS hL =>
  lv_istore C.1 C.2.1 hd hL.has' (by rw [← hL.1]; exact hi) rfl (fun S2 h2 => kk C H locs S2 hR hS (hL.set1 hi hn _ (fun _ q => q) h2))
theorem z_lstore_n {i : Fin 4} {x : Int} (hd : decode cc pc = .ok (.lstore_n i, 1)) (hi : (i : Nat) + 1 < ls.length) (hn : z_nl ls i = true)
    (kk : z_w g X cc own r (pc + 1) ((ls.set i (z_l x)).set (i + 1) z_u) (st) (h) k n) : z_w g X cc own r pc ls (z_l x :: st) h k n := fun C H locs S hR hS hL =>
  lv_lstore_n C.1 C.2.1 hd rfl hL.has' (by rw [← hL.1]; exact hi) rfl (fun S2 h2 => kk C H locs S2 hR hS (hL.set2 (Nat.lt_of_succ_lt hi) hn h2))
theorem z_lstore {i : Nat} {x : Int} (hd : decode cc pc = .ok (.lstore i, 2)) (hi : i + 1 < ls.length) (hn : z_nl ls i = true)
    (kk : z_w g X cc own r (pc + 2) ((ls.set i (z_l x)).set (i + 1) z_u) (st) (h) k n) : z_w g X cc own r pc ls (z_l x :: st) h k n := fun C H locs S hR hS hL =>
  lv_lstore C.1 C.2.1 hd hL.has' (by rw [← hL.1]; exact hi) rfl (fun S2 h2 => kk C H locs S2 hR hS (hL.set2 (Nat.lt_of_succ_lt hi) hn h2))
theorem z_astore_n {i : Fin 4} {x : Option Nat} (hd : decode cc pc = .ok (.astore_n i, 1)) (hi : (i : Nat) < ls.length) (hn : z_nl ls i = true)
    (kk : z_w g X cc own r (pc + 1) (ls.set i (z_q x)) st h k n) : z_w g X cc own r pc ls (z_q x :: st) h k n := fun C H locs S hR hS hL => by
  cases x with
  | none => exact lv_astore_nN C.1 C.2.1 hd rfl hL.has' (by rw [← hL.1]; exact hi) rfl (fun S2 h2 => kk C H locs S2 hR hS (hL.set1 hi hn _ (fun _ q => q) h2))
  | some x => exact lv_astore_n C.1 C.2.1 hd rfl hL.has' (by rw [← hL.1]; exact hi) rfl (fun S2 h2 => kk C H locs S2 hR hS (hL.set1 hi hn _ (fun _ q => q) h2))
theorem z_astore {i : Nat} {x : Option Nat} (hd : decode cc pc = .ok (.astore i, 2)) (hi : i < ls.length) (hn : z_nl ls i = true)
    (kk : z_w g X cc own r (pc + 2) (ls.set i (z_q x)) st h k n) : z_w g X cc own r pc ls (z_q x :: st) h k n := fun C H locs S hR hS hL => by
  cases x with
  | none => exact lv_astoreN C.1 C.2.1 hd hL.has' (by rw [← hL.1]; exact hi) rfl (fun S2 h2 => kk C H locs S2 hR hS (hL.set1 hi hn _ (fun _ q => q) h2))
  | some x => exact lv_astore C.1 C.2.1 hd hL.has' (by rw [← hL.1]; exact hi) rfl (fun S2 h2 => kk C H locs S2 hR hS (hL.set1 hi hn _ (fun _ q => q) h2))
theorem z_iinc {i : Nat} {x d : Int} (hd : decode cc pc = .ok (.iinc i d, 3)) (hl : ls[i]? = some (z_i x)) (hn : z_nl ls i = true)
    (kk : z_w g X cc own r (pc + 3) (ls.set i (z_i (x + d))) st h k n) : z_w g X cc own r pc ls st h k n := fun C H locs S hR hS hL => by
  have hi : i < ls.length := (List.getElem?_eq_some_iff.mp hl).1
  have h0 : lv_has S (x_n X) ((i, z_v (z_i x)) :: z_as ls) := hL.has _ (fun q hq => by
    rcases List.mem_cons.mp hq with rfl | hq
    · exact ⟨_, hl, (fun e => by cases e), rfl⟩
    · exact z_as_mem.mp hq)
  exact lv_iinc (v := Int32.ofInt (x + d)) C.1 C.2.1 hd h0 (k := 0) rfl (Int32.ofInt_add x d).symm (by rw [← hL.1]; exact hi) rfl (fun S2 h2 => kk C H locs S2 hR hS (hL.set1 hi hn _ (fun _ q => List.mem_cons_of_mem _ q) h2))
theorem z_iadd {a b : Int} (hd : decode cc pc = .ok (.iadd, 1))
    (kk : z_w g X cc own r (pc + 1) ls (z_i (a + b) :: st) h k n) : z_w g X cc own r pc ls (z_i b :: z_i a :: st) h k n := fun C H locs S hR hS hL =>
  lv_iadd (x := Int32.ofInt a) (y := Int32.ofInt b) C.1 C.2.1 hd (by rw [← Int32.ofInt_add]; exact kk C H locs S hR hS hL)
theorem z_isub {a b : Int} (hd : decode cc pc = .ok (.isub, 1))
    (kk : z_w g X cc own r (pc + 1) ls (z_i (a - b) :: st) h k n) : z_w g X cc own r pc ls (z_i b :: z_i a :: st) h k n := fun C H locs S hR hS hL =>
  lv_isub (x := Int32.ofInt a) (y := Int32.ofInt b) C.1 C.2.1 hd (by rw [← Int32.ofInt_sub]; exact kk C H locs S hR hS hL)
theorem z_imul {a b : Int} (hd : decode cc pc = .ok (.imul, 1))
    (kk : z_w g X cc own r (pc + 1) ls (z_i (a * b) :: st) h k n) : z_w g X cc own r pc ls (z_i b :: z_i a :: st) h k n := fun C H locs S hR hS hL =>
  lv_imul (x := Int32.ofInt a) (y := Int32.ofInt b) C.1 C.2.1 hd (by rw [← Int32.ofInt_mul]; exact kk C H locs S hR hS hL)
theorem z_ladd {a b : Int} (hd : decode cc pc = .ok (.ladd, 1))
    (kk : z_w g X cc own r (pc + 1) ls (z_l (a + b) :: st) h k n) : z_w g X cc own r pc ls (z_l b :: z_l a :: st) h k n := fun C H locs S hR hS hL =>
  lv_ladd (x := Int64.ofInt a) (y := Int64.ofInt b) C.1 C.2.1 hd (by rw [← Int64.ofInt_add]; exact kk C H locs S hR hS hL)
theorem z_lsub {a b : Int} (hd : decode cc pc = .ok (.lsub, 1))
    (kk : z_w g X cc own r (pc + 1) ls (z_l (a - b) :: st) h k n) : z_w g X cc own r pc ls (z_l b :: z_l a :: st) h k n := fun C H locs S hR hS hL =>
  lv_lsub (x := Int64.ofInt a) (y := Int64.ofInt b) C.1 C.2.1 hd (by rw [← Int64.ofInt_sub]; exact kk C H locs S hR hS hL)
theorem z_divI {a b : Int} (ha : 0 ≤ a) (ha' : a < 2147483648) (hb : 0 < b) (hb' : b < 2147483648) : Int32.ofInt a / Int32.ofInt b = Int32.ofInt (a / b) := by
  obtain ⟨x, rfl⟩ := Int.eq_ofNat_of_zero_le ha
  obtain ⟨y, rfl⟩ := Int.eq_ofNat_of_zero_le (Int.le_of_lt hb)
  have := pk_div (a := x) (d := y) (by omega) (by omega) (by omega)
  simp only [nI, z_ofN] at this
  rw [this]
  rfl
theorem z_remI {a b : Int} (ha : 0 ≤ a) (ha' : a < 2147483648) (hb : 0 < b) (hb' : b < 2147483648) : Int32.ofInt a - Int32.ofInt a / Int32.ofInt b * Int32.ofInt b = Int32.ofInt (a % b) := by
  obtain ⟨x, rfl⟩ := Int.eq_ofNat_of_zero_le ha
  obtain ⟨y, rfl⟩ := Int.eq_ofNat_of_zero_le (Int.le_of_lt hb)
  have := pk_rem (a := x) (d := y) (by omega) (by omega) (by omega)
  simp only [nI, z_ofN] at this
  rw [this]
  rfl
theorem z_ne0 {b : Int} (hb : 0 < b) (hb' : b < 2147483648) : ¬ Int32.ofInt b = 0 := by
  rw [z_0, z_eq ⟨by omega, hb'⟩ z_in0]
  omega
theorem z_idiv {a b : Int} (hd : decode cc pc = .ok (.idiv, 1)) (ha : 0 ≤ a ∧ a < 2147483648) (hb : 0 < b ∧ b < 2147483648)
    (kk : z_w g X cc own r (pc + 1) ls (z_i (a / b) :: st) h k n) : z_w g X cc own r pc ls (z_i b :: z_i a :: st) h k n := fun C H locs S hR hS hL =>
  lv_idiv (x := Int32.ofInt a) (y := Int32.ofInt b) C.1 C.2.1 hd (z_ne0 hb.1 hb.2) (by rw [z_divI ha.1 ha.2 hb.1 hb.2]; exact kk C H locs S hR hS hL)
theorem z_irem {a b : Int} (hd : decode cc pc = .ok (.irem, 1)) (ha : 0 ≤ a ∧ a < 2147483648) (hb : 0 < b ∧ b < 2147483648)
    (kk : z_w g X cc own r (pc + 1) ls (z_i (a % b) :: st) h k n) : z_w g X cc own r pc ls (z_i b :: z_i a :: st) h k n := fun C H locs S hR hS hL =>
  lv_irem (x := Int32.ofInt a) (y := Int32.ofInt b) C.1 C.2.1 hd (z_ne0 hb.1 hb.2) (by rw [z_remI ha.1 ha.2 hb.1 hb.2]; exact kk C H locs S hR hS hL)
theorem z_tbN (a : Int) : (Int32.ofInt a).toBitVec.toNat = (a % 4294967296).toNat := by
  show (BitVec.ofInt 32 a).toNat = _
  rw [BitVec.toNat_ofInt]
  rfl
theorem z_iand63 {a : Int} (hd : decode cc pc = .ok (.iand, 1))
    (kk : z_w g X cc own r (pc + 1) ls (z_i (a % 64) :: st) h k n) : z_w g X cc own r pc ls (z_i 63 :: z_i a :: st) h k n := fun C H locs S hR hS hL => by
  refine lv_iand (x := Int32.ofInt a) (y := Int32.ofInt 63) C.1 C.2.1 hd ?_
  have e : Int32.ofInt a &&& Int32.ofInt 63 = Int32.ofInt (a % 64) := by
    rw [pk_and (Int32.ofInt a) 6 (by decide), z_tbN]
    show Int32.ofNat _ = _
    rw [z_ofN]
    congr 1
    omega
  rw [e]
  exact kk C H locs S hR hS hL
theorem z_iushr16 {a : Int} (hd : decode cc pc = .ok (.iushr, 1))
    (kk : z_w g X cc own r (pc + 1) ls (z_i (a % 4294967296 / 65536) :: st) h k n) : z_w g X cc own r pc ls (z_i 16 :: z_i a :: st) h k n := fun C H locs S hR hS hL => by
  refine lv_iushr (x := Int32.ofInt a) (y := Int32.ofInt 16) (v := Int32.ofInt (a % 4294967296 / 65536)) C.1 C.2.1 hd ?_ (kk C H locs S hR hS hL)
  have e := pk_ushr (Int32.ofInt a) (Int32.ofInt 16) 16 (by decide)
  apply Int32.toBitVec.inj
  apply BitVec.eq_of_toNat_eq
  rw [e, z_tbN, z_tbN]
  omega
theorem z_i2l {a : Int} (hd : decode cc pc = .ok (.i2l, 1)) (ha : z_in a)
    (kk : z_w g X cc own r (pc + 1) ls (z_l a :: st) h k n) : z_w g X cc own r pc ls (z_i a :: st) h k n := fun C H locs S hR hS hL =>
  lv_i2l (x := Int32.ofInt a) (v := Int64.ofInt a) C.1 C.2.1 hd (by rw [← Int64.ofInt_int32ToInt, z_toI ha]) (kk C H locs S hR hS hL)
theorem z_l2i {a : Int} (hd : decode cc pc = .ok (.l2i, 1))
    (kk : z_w g X cc own r (pc + 1) ls (z_i a :: st) h k n) : z_w g X cc own r pc ls (z_l a :: st) h k n := fun C H locs S hR hS hL =>
  lv_l2i (x := Int64.ofInt a) (v := Int32.ofInt a) C.1 C.2.1 hd Int64.toInt32_ofInt (kk C H locs S hR hS hL)
theorem z_i2b {a : Int} (hd : decode cc pc = .ok (.i2b, 1))
    (kk : z_w g X cc own r (pc + 1) ls (z_i (a.bmod 256) :: st) h k n) : z_w g X cc own r pc ls (z_i a :: st) h k n := fun C H locs S hR hS hL =>
  lv_i2b (x := Int32.ofInt a) (v := Int32.ofInt (a.bmod 256)) C.1 C.2.1 hd (by rw [Int32.toInt8_ofInt, ← Int32.ofInt_int8ToInt, Int8.toInt_ofInt]) (kk C H locs S hR hS hL)
theorem z_i2s {a : Int} (hd : decode cc pc = .ok (.i2s, 1))
    (kk : z_w g X cc own r (pc + 1) ls (z_i (a.bmod 65536) :: st) h k n) : z_w g X cc own r pc ls (z_i a :: st) h k n := fun C H locs S hR hS hL =>
  lv_i2s (x := Int32.ofInt a) (v := Int32.ofInt (a.bmod 65536)) C.1 C.2.1 hd (by rw [Int32.toInt16_ofInt, ← Int32.ofInt_int16ToInt, Int16.toInt_ofInt]) (kk C H locs S hR hS hL)
/-- what is known of an int's range costs nothing: another integer of the same int -/
theorem z_re {a b : Int} (he : Int32.ofInt a = Int32.ofInt b) (kk : z_w g X cc own r pc ls (z_i b :: st) h k n) : z_w g X cc own r pc ls (z_i a :: st) h k n := fun C H locs S hR hS hL => by
  have := kk C H locs S hR hS hL
  simp only [List.map_cons, z_v] at this ⊢
  rw [he]
  exact this
abbrev z_inL (a : Int) : Prop := -9223372036854775808 ≤ a ∧ a < 9223372036854775808
theorem z_toL {a : Int} (h : z_inL a) : (Int64.ofInt a).toInt = a := Int64.toInt_ofInt_of_le (by have := h.1; omega) (by have := h.2; omega)
theorem z_ltL {a b : Int} (ha : z_inL a) (hb : z_inL b) : Int64.ofInt a < Int64.ofInt b ↔ a < b := by rw [Int64.lt_iff_toInt_lt, z_toL ha, z_toL hb]
theorem z_eqL {a b : Int} (ha : z_inL a) (hb : z_inL b) : Int64.ofInt a = Int64.ofInt b ↔ a = b := by rw [← Int64.toInt_inj, z_toL ha, z_toL hb]

theorem z_lcmp {a b : Int} (hd : decode cc pc = .ok (.lcmp, 1)) (ha : z_inL a) (hb : z_inL b)
    (kk : z_w g X cc own r (pc + 1) ls (z_i (if a < b then -1 else if a = b then 0 else 1) :: st) h k n) : z_w g X cc own r pc ls (z_l b :: z_l a :: st) h k n := fun C H locs S hR hS hL => by
  refine W.lcmp (x := Int64.ofInt a) (y := Int64.ofInt b) C.1 C.2.1 hd ?_
  have e : lg_cmp (Int64.ofInt a) (Int64.ofInt b) = Int32.ofInt (if a < b then -1 else if a = b then 0 else 1) := by
    unfold lg_cmp
    by_cases h1 : a < b
    · simp [z_ltL hb ha, z_eqL ha hb, h1, show ¬ b < a by omega, show ¬ a = b by omega]
    · by_cases h2 : a = b
      · simp [h2]
      · simp [z_ltL hb ha, z_eqL ha hb, h1, h2, show b < a by omega]
  rw [e]
  exact kk C H locs S hR hS hL

theorem z_dup {v : z_V} (hd : decode cc pc = .ok (.dup, 1)) (hc : z_c1 v = true)
    (kk : z_w g X cc own r (pc + 1) (ls) (v :: v :: st) (h) k n) : z_w g X cc own r pc ls (v :: st) h k n := fun C H locs S hR hS hL =>
  lv_dup C.1 C.2.1 hd (z_c1c hc).1 (kk C H locs S hR hS hL)
theorem z_pop {v : z_V} (hd : decode cc pc = .ok (.pop, 1)) (hc : z_c1 v = true)
    (kk : z_w g X cc own r (pc + 1) (ls) (st) (h) k n) : z_w g X cc own r pc ls (v :: st) h k n := fun C H locs S hR hS hL =>
  lv_pop C.1 C.2.1 hd (z_c1c hc).1 (kk C H locs S hR hS hL)
theorem z_dup2 {v w : z_V} (hd : decode cc pc = .ok (.dup2, 1)) (hc : z_c1 v = true) (hw : z_c1 w = true)
    (kk : z_w g X cc own r (pc + 1) (ls) (v :: w :: v :: w :: st) (h) k n) : z_w g X cc own r pc ls (v :: w :: st) h k n := fun C H locs S hR hS hL =>
  lv_dup2_11 C.1 C.2.1 hd (z_c1c hc).1 (z_c1c hw).1 (kk C H locs S hR hS hL)
theorem z_dup_x1 {v w : z_V} (hd : decode cc pc = .ok (.dup_x1, 1)) (hc : z_c1 v = true) (hw : z_c1 w = true)
    (kk : z_w g X cc own r (pc + 1) (ls) (v :: w :: v :: st) (h) k n) : z_w g X cc own r pc ls (v :: w :: st) h k n := fun C H locs S hR hS hL =>
  lv_dup_x1 C.1 C.2.1 hd (z_c1c hc).1 (z_c1c hw).1 (kk C H locs S hR hS hL)
theorem z_if_eq {a : Int} {off : Int} {tgt : Nat} (hd : decode cc pc = .ok (.ifCond .eq off, 3)) (ht : (pc : Int) + off = (tgt : Int)) (ha : z_in a)
    (kt : a = 0 → z_w g X cc own r tgt ls st h k n) (kf : ¬ a = 0 → z_w g X cc own r (pc + 3) ls st h k n) : z_w g X cc own r pc ls (z_i a :: st) h k n := fun C H locs S hR hS hL => by
  have e := (z_eq ha z_in0)
  refine lv_if_eq (x := Int32.ofInt a) C.1 C.2.1 hd ht (fun q => kt ?_ C H locs S hR hS hL) (fun q => kf ?_ C H locs S hR hS hL)
  all_goals (try rw [z_0] at q)
  all_goals first | exact e.mp q | exact fun z => q (e.mpr z) | (first | (have q2 := fun z => q (e.mpr z); omega) | (rw [e] at q; omega)) | (simp only [ne_eq, ge_iff_le, gt_iff_lt] at q ⊢; first | exact e.mp q | exact fun z => q (e.mpr z) | (rw [e] at q; exact q))
theorem z_icmp_eq {a b : Int} {off : Int} {tgt : Nat} (hd : decode cc pc = .ok (.if_icmp .eq off, 3)) (ht : (pc : Int) + off = (tgt : Int)) (ha : z_in a) (hb : z_in b)
    (kt : a = b → z_w g X cc own r tgt ls st h k n) (kf : ¬ a = b → z_w g X cc own r (pc + 3) ls st h k n) : z_w g X cc own r pc ls (z_i b :: z_i a :: st) h k n := fun C H locs S hR hS hL => by
  have e := (z_eq ha hb)
  refine lv_icmp_eq (x := Int32.ofInt a) (y := Int32.ofInt b) C.1 C.2.1 hd ht (fun q => kt ?_ C H locs S hR hS hL) (fun q => kf ?_ C H locs S hR hS hL)
  all_goals first | exact e.mp q | exact fun z => q (e.mpr z) | (first | (have q2 := fun z => q (e.mpr z); omega) | (rw [e] at q; omega)) | (simp only [ne_eq, ge_iff_le, gt_iff_lt] at q ⊢; first | exact e.mp q | exact fun z => q (e.mpr z) | (rw [e] at q; exact q))
theorem z_if_ne {a : Int} {off : Int} {tgt : Nat} (hd : decode cc pc = .ok (.ifCond .ne off, 3)) (ht : (pc : Int) + off = (tgt : Int)) (ha : z_in a)
    (kt : a ≠ 0 → z_w g X cc own r tgt ls st h k n) (kf : a = 0 → z_w g X cc own r (pc + 3) ls st h k n) : z_w g X cc own r pc ls (z_i a :: st) h k n := fun C H locs S hR hS hL => by
  have e := (z_eq ha z_in0)
  refine lv_if_ne (x := Int32.ofInt a) C.1 C.2.1 hd ht (fun q => kt ?_ C H locs S hR hS hL) (fun q => kf ?_ C H locs S hR hS hL)
  all_goals (try rw [z_0] at q)
  all_goals first | exact e.mp q | exact fun z => q (e.mpr z) | (first | (have q2 := fun z => q (e.mpr z); omega) | (rw [e] at q; omega)) | (simp only [ne_eq, ge_iff_le, gt_iff_lt] at q ⊢; first | exact e.mp q | exact fun z => q (e.mpr z) | (rw [e] at q; exact q))
theorem z_icmp_ne {a b : Int} {off : Int} {tgt : Nat} (hd : decode cc pc = .ok (.if_icmp .ne off, 3)) (ht : (pc : Int) + off = (tgt : Int)) (ha : z_in a) (hb : z_in b)
    (kt : a ≠ b → z_w g X cc own r tgt ls st h k n) (kf : a = b → z_w g X cc own r (pc + 3) ls st h k n) : z_w g X cc own r pc ls (z_i b :: z_i a :: st) h k n := fun C H locs S hR hS hL => by
  have e := (z_eq ha hb)
  refine lv_icmp_ne (x := Int32.ofInt a) (y := Int32.ofInt b) C.1 C.2.1 hd ht (fun q => kt ?_ C H locs S hR hS hL) (fun q => kf ?_ C H locs S hR hS hL)
  all_goals first | exact e.mp q | exact fun z => q (e.mpr z) | (first | (have q2 := fun z => q (e.mpr z); omega) | (rw [e] at q; omega)) | (simp only [ne_eq, ge_iff_le, gt_iff_lt] at q ⊢; first | exact e.mp q | exact fun z => q (e.mpr z) | (rw [e] at q; exact q))
theorem z_if_lt {a : Int} {off : Int} {tgt : Nat} (hd : decode cc pc = .ok (.ifCond .lt off, 3)) (ht : (pc : Int) + off = (tgt : Int)) (ha : z_in a)
    (kt : a < 0 → z_w g X cc own r tgt ls st h k n) (kf : ¬ a < 0 → z_w g X cc own r (pc + 3) ls st h k n) : z_w g X cc own r pc ls (z_i a :: st) h k n := fun C H locs S hR hS hL => by
  have e := (z_lt ha z_in0)
  refine lv_if_lt (x := Int32.ofInt a) C.1 C.2.1 hd ht (fun q => kt ?_ C H locs S hR hS hL) (fun q => kf ?_ C H locs S hR hS hL)
  all_goals (try rw [z_0] at q)
  all_goals first | exact e.mp q | exact fun z => q (e.mpr z) | (first | (have q2 := fun z => q (e.mpr z); omega) | (rw [e] at q; omega)) | (simp only [ne_eq, ge_iff_le, gt_iff_lt] at q ⊢; first | exact e.mp q | exact fun z => q (e.mpr z) | (rw [e] at q; exact q))
theorem z_icmp_lt {a b : Int} {off : Int} {tgt : Nat} (hd : decode cc pc = .ok (.if_icmp .lt off, 3)) (ht : (pc : Int) + off = (tgt : Int)) (ha : z_in a) (hb : z_in b)
    (kt : a < b → z_w g X cc own r tgt ls st h k n) (kf : ¬ a < b → z_w g X cc own r (pc + 3) ls st h k n) : z_w g X cc own r pc ls (z_i b :: z_i a :: st) h k n := fun C H locs S hR hS hL => by
  have e := (z_lt ha hb)
  refine lv_icmp_lt (x := Int32.ofInt a) (y := Int32.ofInt b) C.1 C.2.1 hd ht (fun q => kt ?_ C H locs S hR hS hL) (fun q => kf ?_ C H locs S hR hS hL)
  all_goals first | exact e.mp q | exact fun z => q (e.mpr z) | (first | (have q2 := fun z => q (e.mpr z); omega) | (rw [e] at q; omega)) | (simp only [ne_eq, ge_iff_le, gt_iff_lt] at q ⊢; first | exact e.mp q | exact fun z => q (e.mpr z) | (rw [e] at q; exact q))
theorem z_if_ge {a : Int} {off : Int} {tgt : Nat} (hd : decode cc pc = .ok (.ifCond .ge off, 3)) (ht : (pc : Int) + off = (tgt : Int)) (ha : z_in a)
    (kt : a ≥ 0 → z_w g X cc own r tgt ls st h k n) (kf : a < 0 → z_w g X cc own r (pc + 3) ls st h k n) : z_w g X cc own r pc ls (z_i a :: st) h k n := fun C H locs S hR hS hL => by
  have e := (z_le z_in0 ha)
  refine lv_if_ge (x := Int32.ofInt a) C.1 C.2.1 hd ht (fun q => kt ?_ C H locs S hR hS hL) (fun q => kf ?_ C H locs S hR hS hL)
  all_goals (try rw [z_0] at q)
  all_goals first | exact e.mp q | exact fun z => q (e.mpr z) | (first | (have q2 := fun z => q (e.mpr z); omega) | (rw [e] at q; omega)) | (simp only [ne_eq, ge_iff_le, gt_iff_lt] at q ⊢; first | exact e.mp q | exact fun z => q (e.mpr z) | (rw [e] at q; exact q))
theorem z_icmp_ge {a b : Int} {off : Int} {tgt : Nat} (hd : decode cc pc = .ok (.if_icmp .ge off, 3)) (ht : (pc : Int) + off = (tgt : Int)) (ha : z_in a) (hb : z_in b)
    (kt : a ≥ b → z_w g X cc own r tgt ls st h k n) (kf : a < b → z_w g X cc own r (pc + 3) ls st h k n) : z_w g X cc own r pc ls (z_i b :: z_i a :: st) h k n := fun C H locs S hR hS hL => by
  have e := (z_le hb ha)
  refine lv_icmp_ge (x := Int32.ofInt a) (y := Int32.ofInt b) C.1 C.2.1 hd ht (fun q => kt ?_ C H locs S hR hS hL) (fun q => kf ?_ C H locs S hR hS hL)
  all_goals first | exact e.mp q | exact fun z => q (e.mpr z) | (first | (have q2 := fun z => q (e.mpr z); omega) | (rw [e] at q; omega)) | (simp only [ne_eq, ge_iff_le, gt_iff_lt] at q ⊢; first | exact e.mp q | exact fun z => q (e.mpr z) | (rw [e] at q; exact q))
theorem z_if_gt {a : Int} {off : Int} {tgt : Nat} (hd : decode cc pc = .ok (.ifCond .gt off, 3)) (ht : (pc : Int) + off = (tgt : Int)) (ha : z_in a)
    (kt : a > 0 → z_w g X cc own r tgt ls st h k n) (kf : a ≤ 0 → z_w g X cc own r (pc + 3) ls st h k n) : z_w g X cc own r pc ls (z_i a :: st) h k n := fun C H locs S hR hS hL => by
  have e := (z_lt z_in0 ha)
  refine lv_if_gt (x := Int32.ofInt a) C.1 C.2.1 hd ht (fun q => kt ?_ C H locs S hR hS hL) (fun q => kf ?_ C H locs S hR hS hL)
  all_goals (try rw [z_0] at q)
  all_goals first | exact e.mp q | exact fun z => q (e.mpr z) | (first | (have q2 := fun z => q (e.mpr z); omega) | (rw [e] at q; omega)) | (simp only [ne_eq, ge_iff_le, gt_iff_lt] at q ⊢; first | exact e.mp q | exact fun z => q (e.mpr z) | (rw [e] at q; exact q))
theorem z_icmp_gt {a b : Int} {off : Int} {tgt : Nat} (hd : decode cc pc = .ok (.if_icmp .gt off, 3)) (ht : (pc : Int) + off = (tgt : Int)) (ha : z_in a) (hb : z_in b)
    (kt : a > b → z_w g X cc own r tgt ls st h k n) (kf : a ≤ b → z_w g X cc own r (pc + 3) ls st h k n) : z_w g X cc own r pc ls (z_i b :: z_i a :: st) h k n := fun C H locs S hR hS hL => by
  have e := (z_lt hb ha)
  refine lv_icmp_gt (x := Int32.ofInt a) (y := Int32.ofInt b) C.1 C.2.1 hd ht (fun q => kt ?_ C H locs S hR hS hL) (fun q => kf ?_ C H locs S hR hS hL)
  all_goals first | exact e.mp q | exact fun z => q (e.mpr z) | (first | (have q2 := fun z => q (e.mpr z); omega) | (rw [e] at q; omega)) | (simp only [ne_eq, ge_iff_le, gt_iff_lt] at q ⊢; first | exact e.mp q | exact fun z => q (e.mpr z) | (rw [e] at q; exact q))
theorem z_if_le {a : Int} {off : Int} {tgt : Nat} (hd : decode cc pc = .ok (.ifCond .le off, 3)) (ht : (pc : Int) + off = (tgt : Int)) (ha : z_in a)
    (kt : a ≤ 0 → z_w g X cc own r tgt ls st h k n) (kf : ¬ a ≤ 0 → z_w g X cc own r (pc + 3) ls st h k n) : z_w g X cc own r pc ls (z_i a :: st) h k n := fun C H locs S hR hS hL => by
  have e := (z_le ha z_in0)
  refine lv_if_le (x := Int32.ofInt a) C.1 C.2.1 hd ht (fun q => kt ?_ C H locs S hR hS hL) (fun q => kf ?_ C H locs S hR hS hL)
  all_goals (try rw [z_0] at q)
  all_goals first | exact e.mp q | exact fun z => q (e.mpr z) | (first | (have q2 := fun z => q (e.mpr z); omega) | (rw [e] at q; omega)) | (simp only [ne_eq, ge_iff_le, gt_iff_lt] at q ⊢; first | exact e.mp q | exact fun z => q (e.mpr z) | (rw [e] at q; exact q))
theorem z_icmp_le {a b : Int} {off : Int} {tgt : Nat} (hd : decode cc pc = .ok (.if_icmp .le off, 3)) (ht : (pc : Int) + off = (tgt : Int)) (ha : z_in a) (hb : z_in b)
    (kt : a ≤ b → z_w g X cc own r tgt ls st h k n) (kf : ¬ a ≤ b → z_w g X cc own r (pc + 3) ls st h k n) : z_w g X cc own r pc ls (z_i b :: z_i a :: st) h k n := fun C H locs S hR hS hL => by
  have e := (z_le ha hb)
  refine lv_icmp_le (x := Int32.ofInt a) (y := Int32.ofInt b) C.1 C.2.1 hd ht (fun q => kt ?_ C H locs S hR hS hL) (fun q => kf ?_ C H locs S hR hS hL)
  all_goals first | exact e.mp q | exact fun z => q (e.mpr z) | (first | (have q2 := fun z => q (e.mpr z); omega) | (rw [e] at q; omega)) | (simp only [ne_eq, ge_iff_le, gt_iff_lt] at q ⊢; first | exact e.mp q | exact fun z => q (e.mpr z) | (rw [e] at q; exact q))
theorem z_goto {off : Int} {tgt : Nat} (hd : decode cc pc = .ok (.goto off, 3)) (ht : (pc : Int) + off = (tgt : Int)) (kk : z_w g X cc own r tgt ls st h k n) : z_w g X cc own r pc ls st h k n := fun C H locs S hR hS hL =>
  lv_goto C.1 C.2.1 hd ht (kk C H locs S hR hS hL)
theorem z_ifnull {o : Option Nat} {off : Int} {tgt : Nat} (hd : decode cc pc = .ok (.ifnull off, 3)) (ht : (pc : Int) + off = (tgt : Int)) (kt : o = none → z_w g X cc own r tgt ls st h k n) (kf : ∀ a, o = some a → z_w g X cc own r (pc + 3) ls st h k n) : z_w g X cc own r pc ls (z_q o :: st) h k n := fun C H locs S hR hS hL => by
  cases o with
  | none => exact lv_ifnullN C.1 C.2.1 hd ht (kt rfl C H locs S hR hS hL)
  | some a => exact lv_ifnull C.1 C.2.1 hd (kf a rfl C H locs S hR hS hL)
theorem z_ifnonnull {o : Option Nat} {off : Int} {tgt : Nat} (hd : decode cc pc = .ok (.ifnonnull off, 3)) (ht : (pc : Int) + off = (tgt : Int)) (kt : ∀ a, o = some a → z_w g X cc own r tgt ls st h k n) (kf : o = none → z_w g X cc own r (pc + 3) ls st h k n) : z_w g X cc own r pc ls (z_q o :: st) h k n := fun C H locs S hR hS hL => by
  cases o with
  | none => exact lv_ifnonnullN C.1 C.2.1 hd (kf rfl C H locs S hR hS hL)
  | some a => exact lv_ifnonnull C.1 C.2.1 hd ht (kt a rfl C H locs S hR hS hL)
theorem z_lookup {dflt : Int} {ps : Array (Int × Int)} {len : Nat} {a off : Int} {tgt : Nat} (hd : decode cc pc = .ok (.lookupswitch dflt ps, len)) (ha : z_in a) (hp : (ps.toList.zip (ps.toList.drop 1)).all (fun (a, next) => a.1 < next.1) = true) (ho : Op.lookupswitch.offset ps.toList dflt a = off) (ht : (pc : Int) + off = (tgt : Int)) (kk : z_w g X cc own r tgt ls st h k n) : z_w g X cc own r pc ls (z_i a :: st) h k n := fun C H locs S hR hS hL =>
  lv_lookup (x := Int32.ofInt a) C.1 C.2.1 hd hp (by rw [z_toI ha]; exact ho) ht (kk C H locs S hR hS hL)
theorem z_tabOut {dflt lo hi a : Int} {offs : Array Int} {len : Nat} {tgt : Nat} (hd : decode cc pc = .ok (.tableswitch dflt lo hi offs, len)) (ha : z_in a) (hx : a < lo ∨ hi < a) (ht : (pc : Int) + dflt = (tgt : Int)) (kk : z_w g X cc own r tgt ls st h k n) : z_w g X cc own r pc ls (z_i a :: st) h k n := fun C H locs S hR hS hL =>
  lv_tableOut (x := Int32.ofInt a) C.1 C.2.1 hd (by rw [z_toI ha]; exact hx) ht (kk C H locs S hR hS hL)
theorem z_tabIn {dflt lo hi a : Int} {offs : Array Int} {len : Nat} {off : Int} {tgt : Nat} (hd : decode cc pc = .ok (.tableswitch dflt lo hi offs, len)) (ha : z_in a) (h1 : lo ≤ a) (h2 : a ≤ hi) (ho : offs[(a - lo).toNat]? = some off) (ht : (pc : Int) + off = (tgt : Int)) (kk : z_w g X cc own r tgt ls st h k n) : z_w g X cc own r pc ls (z_i a :: st) h k n := fun C H locs S hR hS hL =>
  lv_tableIn (x := Int32.ofInt a) C.1 C.2.1 hd (by rw [z_toI ha]; omega) (by rw [z_toI ha]; omega) (by rw [z_toI ha]; exact ho) ht (kk C H locs S hR hS hL)
end ZR
end
section
/-! the rows on the heap, calls, returns -/
section ZH
variable {g : z_G} {X : z_X} {cc : ByteArray} {own : String} {r : Nat × Nat × Nat} {pc k n : Nat} {ls st : List z_V} {h : z_H}
theorem z_get {ix c N kf a : Nat} {C : String} {T : u_T} {fs : List z_V} {v : z_V} (hin : ∀ w ∈ u_ws C T N, w ∈ z_W) (hc : vwCl[c]? = some (C, T, N)) (hk : kf < N) (hlink : Cond.fieldLink own ix C (T kf).2.1 (T kf).2.2.1 ∈ z_W) (hsame : (T kf).1 = C)
    (hd : decode cc pc = .ok (.getfield ix, 3)) (ha : h a = some (c_O c fs)) (hv : fs[kf]? = some v) (kk : z_w g X cc own r (pc + 3) ls (v :: st) h k n) : z_w g X cc own r pc ls (z_r a :: st) h k n := fun C0 H locs S hR hS hL => by
  obtain ⟨ws, hP, hD, hw⟩ := id hR
  obtain ⟨q0, hq⟩ := hw a _ ha
  exact va_get (ref := C) (C := C) (T := T) (N := N) (v := z_v v) C0.1 C0.2.1 (Ts := z_W) C0.2.2.2.2.1 hin C0.2.2.2.1 C0.2.2.2.2.2.1.1 hP q0 hq hc kf hk (C0.2.2.2.2.1 _ hlink) (fun x hx => by rw [hsame] at hx; exact hx) (by simp [hv]) hd (kk C0 H locs S hR hS hL)
theorem z_getN {ix c N kf a : Nat} {C host : String} {T : u_T} {fs : List z_V} {v : z_V} (hin : ∀ w ∈ u_ws C T N, w ∈ z_W) (hc : vwCl[c]? = some (C, T, N)) (hk : kf < N) (hlink : Cond.fieldLinkNest own ix C (T kf).2.1 (T kf).2.2.1 host ∈ z_N) (hsame : (T kf).1 = C)
    (hd : decode cc pc = .ok (.getfield ix, 3)) (ha : h a = some (c_O c fs)) (hv : fs[kf]? = some v) (kk : z_w g X cc own r (pc + 3) ls (v :: st) h k n) : z_w g X cc own r pc ls (z_r a :: st) h k n := fun C0 H locs S hR hS hL => by
  obtain ⟨ws, hP, hD, hw⟩ := id hR
  obtain ⟨q0, hq⟩ := hw a _ ha
  exact va_getN (ref := C) (C := C) (T := T) (N := N) (v := z_v v) C0.1 C0.2.1 (Ts := z_W) C0.2.2.2.2.1 hin C0.2.2.2.1 C0.2.2.2.2.2.1.1 hP q0 hq hc kf hk ((C0.2.2.2.2.2.1.2.2.2.1 _ hlink).use rfl) (fun x hx => by rw [hsame] at hx; exact hx) (by simp [hv]) hd (kk C0 H locs S hR hS hL)
theorem z_mset (c kf : Nat) (fs : List z_V) (v : z_V) (cy : Nat → ClassId) : z_e cy (c_O c (fs.set kf v)) = .inr (c, (fs.map z_v).set kf (z_v v)) := by simp [z_e, List.map_set]
theorem z_put {ix c N kf a : Nat} {C : String} {T : u_T} {fs : List z_V} {v : z_V} {ty : FieldType} (hin : ∀ w ∈ u_ws C T N, w ∈ z_W) (ty0 : Nat → FieldType) (hty : ∀ k, k < N → parseFieldDescriptor (T k).2.2.1 = some (ty0 k)) (hnm : ∀ a, a < N → ∀ b, b < N → a ≠ b → (T a).2.1 ≠ (T b).2.1) (hc : vwCl[c]? = some (C, T, N)) (hk : kf < N) (hlink : Cond.fieldLink own ix C (T kf).2.1 (T kf).2.2.1 ∈ z_W) (hsame : (T kf).1 = C) (hfin : (T kf).2.2.2 = false) (hd0 : parseFieldDescriptor (T kf).2.2.1 = some ty)
    (hn : narrow ty (z_v v) = z_v v) (hfit : fits ty (z_v v) = true)
    (hd : decode cc pc = .ok (.putfield ix, 3)) (ha : h a = some (c_O c fs)) (hl : kf < fs.length) (kk : z_w g X cc own r (pc + 3) ls st (z_up h a (c_O c (fs.set kf v))) k n) : z_w g X cc own r pc ls (v :: z_r a :: st) h k n := fun C0 H locs S hR hS hL => by
  obtain ⟨ws, hP, hD, hw⟩ := id hR
  obtain ⟨q0, hq⟩ := hw a _ ha
  exact va_put (ref := C) (C := C) (T := T) (N := N) (v := z_v v) C0.1 C0.2.1 (Ts := z_W) C0.2.2.2.2.1 hin ty0 hty hnm C0.2.2.2.1 C0.2.2.2.2.2.1.1 hP hD hS q0 hq hc kf hk (C0.2.2.2.2.1 _ hlink) (fun x hx => by rw [hsame] at hx; exact hx) hfin hd0 hn hfit (by simpa using hl) hd
    (fun H1 locs1 hP1 hD1 hS1 => kk C0 H1 locs1 S (z_R.set hw hq (by rw [z_mset]; exact hP1) (by rw [z_mset]; exact hD1)) hS1 hL)
theorem z_putN {ix c N kf a : Nat} {C host : String} {T : u_T} {fs : List z_V} {v : z_V} {ty : FieldType} (hin : ∀ w ∈ u_ws C T N, w ∈ z_W) (ty0 : Nat → FieldType) (hty : ∀ k, k < N → parseFieldDescriptor (T k).2.2.1 = some (ty0 k)) (hnm : ∀ a, a < N → ∀ b, b < N → a ≠ b → (T a).2.1 ≠ (T b).2.1) (hc : vwCl[c]? = some (C, T, N)) (hk : kf < N) (hlink : Cond.fieldLinkNest own ix C (T kf).2.1 (T kf).2.2.1 host ∈ z_N) (hsame : (T kf).1 = C) (hfin : (T kf).2.2.2 = false) (hd0 : parseFieldDescriptor (T kf).2.2.1 = some ty)
    (hn : narrow ty (z_v v) = z_v v) (hfit : fits ty (z_v v) = true)
    (hd : decode cc pc = .ok (.putfield ix, 3)) (ha : h a = some (c_O c fs)) (hl : kf < fs.length) (kk : z_w g X cc own r (pc + 3) ls st (z_up h a (c_O c (fs.set kf v))) k n) : z_w g X cc own r pc ls (v :: z_r a :: st) h k n := fun C0 H locs S hR hS hL => by
  obtain ⟨ws, hP, hD, hw⟩ := id hR
  obtain ⟨q0, hq⟩ := hw a _ ha
  exact va_putN (ref := C) (C := C) (T := T) (N := N) (v := z_v v) C0.1 C0.2.1 (Ts := z_W) C0.2.2.2.2.1 hin ty0 hty hnm C0.2.2.2.1 C0.2.2.2.2.2.1.1 hP hD hS q0 hq hc kf hk ((C0.2.2.2.2.2.1.2.2.2.1 _ hlink).use rfl) (fun x hx => by rw [hsame] at hx; exact hx) hfin hd0 hn hfit (by simpa using hl) hd
    (fun H1 locs1 hP1 hD1 hS1 => kk C0 H1 locs1 S (z_R.set hw hq (by rw [z_mset]; exact hP1) (by rw [z_mset]; exact hD1)) hS1 hL)
theorem z_putF {ix c N kf a : Nat} {C : String} {T : u_T} {fs : List z_V} {v : z_V} {ty : FieldType} {M : z_M} {rr : Nat × Nat × Nat} {P : Option z_V → z_H → Prop} (F : z_F g X M rr P) (hM : M.1.name = "<init>") (hin : ∀ w ∈ u_ws C T N, w ∈ z_W) (ty0 : Nat → FieldType) (hty : ∀ k, k < N → parseFieldDescriptor (T k).2.2.1 = some (ty0 k)) (hnm : ∀ a, a < N → ∀ b, b < N → a ≠ b → (T a).2.1 ≠ (T b).2.1) (hc : vwCl[c]? = some (C, T, N)) (hk : kf < N) (hlink : Cond.fieldLink own ix C (T kf).2.1 (T kf).2.2.1 ∈ z_W) (hsame : (T kf).1 = C) (hfin : (T kf).2.2.2 = true) (hown : C = own) (hd0 : parseFieldDescriptor (T kf).2.2.1 = some ty)
    (hn : narrow ty (z_v v) = z_v v) (hfit : fits ty (z_v v) = true)
    (hd : decode cc pc = .ok (.putfield ix, 3)) (ha : h a = some (c_O c fs)) (hl : kf < fs.length) (kk : z_w g X cc own r (pc + 3) ls st (z_up h a (c_O c (fs.set kf v))) k n) : z_w g X cc own r pc ls (v :: z_r a :: st) h k n := fun C0 H locs S hR hS hL => by
  obtain ⟨ws, hP, hD, hw⟩ := id hR
  obtain ⟨q0, hq⟩ := hw a _ ha
  exact va_putF (ref := C) (C := C) (T := T) (N := N) (v := z_v v) C0.1 C0.2.1 (Ts := z_W) C0.2.2.2.2.1 hin ty0 hty hnm C0.2.2.2.1 C0.2.2.2.2.2.1.1 hP hD hS q0 hq hc kf hk (C0.2.2.2.2.1 _ hlink) (fun x hx => by rw [hsame] at hx; exact hx) hfin (F.2.2.trans hM) (hsame.trans hown) hd0 hn hfit (by simpa using hl) hd
    (fun H1 locs1 hP1 hD1 hS1 => kk C0 H1 locs1 S (z_R.set hw hq (by rw [z_mset]; exact hP1) (by rw [z_mset]; exact hD1)) hS1 hL)
theorem z_fitI (x : Int) : narrow .int (z_v (z_i x)) = z_v (z_i x) ∧ fits .int (z_v (z_i x)) = true := ⟨rfl, rfl⟩
theorem z_fitZ {x : Int} (hx : x = 0 ∨ x = 1) : narrow .boolean (z_v (z_i x)) = z_v (z_i x) ∧ fits .boolean (z_v (z_i x)) = true := by
  rcases hx with rfl | rfl <;> exact ⟨by decide, by decide⟩
theorem z_fitQ {ty : FieldType} (ht : (∃ s, ty = .object s) ∨ ∃ t, ty = .array t) (o : Option Nat) : narrow ty (z_v (z_q o)) = z_v (z_q o) ∧ fits ty (z_v (z_q o)) = true := by
  rcases ht with ⟨s, rfl⟩ | ⟨t, rfl⟩ <;> cases o <;> exact ⟨rfl, rfl⟩
-- arrays
theorem z_alenI {a m : Nat} {f : Nat → Int} (hd : decode cc pc = .ok (.arraylength, 1)) (ha : h a = some (c_I m f)) (kk : z_w g X cc own r (pc + 1) ls (z_i (m : Int) :: st) h k n) : z_w g X cc own r pc ls (z_r a :: st) h k n := fun C0 H locs S hR hS hL => by
  obtain ⟨ws, hP, hD, hw⟩ := id hR
  obtain ⟨q0, hq⟩ := hw a _ ha
  exact va_alen C0.1 C0.2.1 C0.2.2.2.2.2.1.1 hP q0 0 hq rfl (z_ofN m) hd (kk C0 H locs S hR hS hL)
theorem z_alenJ {a m : Nat} {f : Nat → Int} (hd : decode cc pc = .ok (.arraylength, 1)) (ha : h a = some (c_J m f)) (kk : z_w g X cc own r (pc + 1) ls (z_i (m : Int) :: st) h k n) : z_w g X cc own r pc ls (z_r a :: st) h k n := fun C0 H locs S hR hS hL => by
  obtain ⟨ws, hP, hD, hw⟩ := id hR
  obtain ⟨q0, hq⟩ := hw a _ ha
  exact va_alen C0.1 C0.2.1 C0.2.2.2.2.2.1.1 hP q0 1 hq rfl (z_ofN m) hd (kk C0 H locs S hR hS hL)
theorem z_Tk {kq : Nat} (hk : kq < 3) : ∃ C : String, (z_T g)[kq + 2]? = some (g_c g (kq + 2), .object C) := by
  match kq, hk with
  | 0, _ => exact ⟨RX1, rfl⟩
  | 1, _ => exact ⟨RX3, rfl⟩
  | 2, _ => exact ⟨RX5, rfl⟩
theorem z_alenA {a m kq : Nat} {f : Nat → Option Nat} (hd : decode cc pc = .ok (.arraylength, 1)) (hk : kq < 3) (ha : h a = some (c_A kq m f)) (kk : z_w g X cc own r (pc + 1) ls (z_i (m : Int) :: st) h k n) : z_w g X cc own r pc ls (z_r a :: st) h k n := fun C0 H locs S hR hS hL => by
  obtain ⟨ws, hP, hD, hw⟩ := id hR
  obtain ⟨q0, hq⟩ := hw a _ ha
  obtain ⟨C, ht⟩ := z_Tk (g := g) hk
  exact va_alen C0.1 C0.2.1 C0.2.2.2.2.2.1.1 hP q0 (kq + 2) hq ht (z_ofN m) hd (kk C0 H locs S hR hS hL)
abbrev z_ix (j : Int) (m : Nat) : Prop := 0 ≤ j ∧ j < (m : Int) ∧ j < 2147483648
theorem z_iald {a m : Nat} {j : Int} {f : Nat → Int} (hd : decode cc pc = .ok (.iaload, 1)) (ha : h a = some (c_I m f)) (hj : z_ix j m) (kk : z_w g X cc own r (pc + 1) ls (z_i (f j.toNat) :: st) h k n) : z_w g X cc own r pc ls (z_i j :: z_r a :: st) h k n := fun C0 H locs S hR hS hL => by
  obtain ⟨ws, hP, hD, hw⟩ := id hR
  obtain ⟨q0, hq⟩ := hw a _ ha
  refine va_iald (i := Int32.ofInt j) C0.1 C0.2.1 C0.2.2.2.2.2.1.1 hP q0 0 hq rfl (z_vin hj.1 hj.2.1 hj.2.2) hd ?_
  rw [z_clamp hj.1 hj.2.2]
  exact kk C0 H locs S hR hS hL
theorem z_lald {a m : Nat} {j : Int} {f : Nat → Int} (hd : decode cc pc = .ok (.laload, 1)) (ha : h a = some (c_J m f)) (hj : z_ix j m) (kk : z_w g X cc own r (pc + 1) ls (z_l (f j.toNat) :: st) h k n) : z_w g X cc own r pc ls (z_i j :: z_r a :: st) h k n := fun C0 H locs S hR hS hL => by
  obtain ⟨ws, hP, hD, hw⟩ := id hR
  obtain ⟨q0, hq⟩ := hw a _ ha
  refine va_lald (i := Int32.ofInt j) C0.1 C0.2.1 C0.2.2.2.2.2.1.1 hP q0 1 hq rfl (z_vin hj.1 hj.2.1 hj.2.2) hd ?_
  rw [z_clamp hj.1 hj.2.2]
  exact kk C0 H locs S hR hS hL
theorem z_aald {a m kq : Nat} {j : Int} {f : Nat → Option Nat} (hd : decode cc pc = .ok (.aaload, 1)) (hk : kq < 3) (ha : h a = some (c_A kq m f)) (hj : z_ix j m) (kk : z_w g X cc own r (pc + 1) ls (z_q (f j.toNat) :: st) h k n) : z_w g X cc own r pc ls (z_i j :: z_r a :: st) h k n := fun C0 H locs S hR hS hL => by
  obtain ⟨ws, hP, hD, hw⟩ := id hR
  obtain ⟨q0, hq⟩ := hw a _ ha
  obtain ⟨C, ht⟩ := z_Tk (g := g) hk
  refine va_aldq (i := Int32.ofInt j) C0.1 C0.2.1 C0.2.2.2.2.2.1.1 hP q0 (kq + 2) hq ht (z_vin hj.1 hj.2.1 hj.2.2) hd ?_
  rw [z_clamp hj.1 hj.2.2]
  exact kk C0 H locs S hR hS hL
theorem z_sfe (f : Nat → Int) (j : Nat) (x : Int) : (fun q => Int32.ofInt (z_sf f j x q)) = upd (fun q => Int32.ofInt (f q)) j (Int32.ofInt x) := by
  funext q
  unfold z_sf upd
  split <;> rfl
theorem z_sfL (f : Nat → Int) (j : Nat) (x : Int) : (fun q => Int64.ofInt (z_sf f j x q)) = vp_updL (fun q => Int64.ofInt (f q)) j (Int64.ofInt x) := by
  funext q
  unfold z_sf vp_updL
  split <;> rfl
theorem z_sqe (f : Nat → Option Nat) (j : Nat) (x : Option Nat) : z_sq f j x = va_up f j x := rfl
theorem z_iast {a m : Nat} {j x : Int} {f : Nat → Int} (hd : decode cc pc = .ok (.iastore, 1)) (ha : h a = some (c_I m f)) (hj : z_ix j m) (kk : z_w g X cc own r (pc + 1) ls st (z_up h a (c_I m (z_sf f j.toNat x))) k n) : z_w g X cc own r pc ls (z_i x :: z_i j :: z_r a :: st) h k n := fun C0 H locs S hR hS hL => by
  obtain ⟨ws, hP, hD, hw⟩ := id hR
  obtain ⟨q0, hq⟩ := hw a _ ha
  refine va_iast (i := Int32.ofInt j) (x := Int32.ofInt x) C0.1 C0.2.1 C0.2.2.2.2.2.1.1 hP hD hS q0 0 hq rfl (z_vin hj.1 hj.2.1 hj.2.2) hd (fun H1 locs1 hP1 hD1 hS1 => kk C0 H1 locs1 S (z_R.set hw hq ?_ ?_) hS1 hL)
  all_goals
    rw [z_clamp hj.1 hj.2.2] at hP1 hD1
    simp only [z_e, z_sfe]
    assumption
theorem z_last {a m : Nat} {j x : Int} {f : Nat → Int} (hd : decode cc pc = .ok (.lastore, 1)) (ha : h a = some (c_J m f)) (hj : z_ix j m) (kk : z_w g X cc own r (pc + 1) ls st (z_up h a (c_J m (z_sf f j.toNat x))) k n) : z_w g X cc own r pc ls (z_l x :: z_i j :: z_r a :: st) h k n := fun C0 H locs S hR hS hL => by
  obtain ⟨ws, hP, hD, hw⟩ := id hR
  obtain ⟨q0, hq⟩ := hw a _ ha
  refine va_last (i := Int32.ofInt j) (x := Int64.ofInt x) C0.1 C0.2.1 C0.2.2.2.2.2.1.1 hP hD hS q0 1 hq rfl (z_vin hj.1 hj.2.1 hj.2.2) hd (fun H1 locs1 hP1 hD1 hS1 => kk C0 H1 locs1 S (z_R.set hw hq ?_ ?_) hS1 hL)
  all_goals
    rw [z_clamp hj.1 hj.2.2] at hP1 hD1
    simp only [z_e, z_sfL]
    assumption
theorem z_aast {a m kq ci v N : Nat} {C : String} {T : u_T} {j : Int} {f : Nat → Option Nat} {vs : List z_V} (hd : decode cc pc = .ok (.aastore, 1)) (ha : h a = some (c_A kq m f)) (hj : z_ix j m) (hv : h v = some (c_O ci vs)) (hc : vwCl[ci]? = some (C, T, N)) (ht : (z_T g)[kq + 2]? = some (g_c g (kq + 2), .object C)) (kk : z_w g X cc own r (pc + 1) ls st (z_up h a (c_A kq m (z_sq f j.toNat (some v)))) k n) : z_w g X cc own r pc ls (z_r v :: z_i j :: z_r a :: st) h k n := fun C0 H locs S hR hS hL => by
  obtain ⟨ws, hP, hD, hw⟩ := id hR
  obtain ⟨q0, hq⟩ := hw a _ ha
  obtain ⟨q1, hq1⟩ := hw v _ hv
  refine va_astq (i := Int32.ofInt j) C0.1 C0.2.1 C0.2.2.2.2.2.1.1 hP hD hS q0 (kq + 2) q1 ci hq (r := (C, T, N)) ht hq1 hc (z_vin hj.1 hj.2.1 hj.2.2) hd (fun H1 locs1 hP1 hD1 hS1 => kk C0 H1 locs1 S (z_R.set hw hq ?_ ?_) hS1 hL)
  all_goals
    rw [z_clamp hj.1 hj.2.2] at hP1 hD1
    simp only [z_e, z_sqe]
    assumption
theorem z_aastN {a m kq : Nat} {j : Int} {f : Nat → Option Nat} (hd : decode cc pc = .ok (.aastore, 1)) (ha : h a = some (c_A kq m f)) (hj : z_ix j m) (hk : kq < 3) (kk : z_w g X cc own r (pc + 1) ls st (z_up h a (c_A kq m (z_sq f j.toNat none))) k n) : z_w g X cc own r pc ls (z_n :: z_i j :: z_r a :: st) h k n := fun C0 H locs S hR hS hL => by
  obtain ⟨ws, hP, hD, hw⟩ := id hR
  obtain ⟨q0, hq⟩ := hw a _ ha
  obtain ⟨C, ht⟩ := z_Tk (g := g) hk
  refine va_astqN (i := Int32.ofInt j) C0.1 C0.2.1 C0.2.2.2.2.2.1.1 hP hD hS q0 (kq + 2) hq ht (z_vin hj.1 hj.2.1 hj.2.2) hd (fun H1 locs1 hP1 hD1 hS1 => kk C0 H1 locs1 S (z_R.set hw hq ?_ ?_) hS1 hL)
  all_goals
    rw [z_clamp hj.1 hj.2.2] at hP1 hD1
    simp only [z_e, z_sqe]
    assumption
-- making
theorem z_new {ix c N : Nat} {C : String} {T : u_T} {fs : List z_V} (hin : ∀ w ∈ u_ws C T N, w ∈ z_W) (ty0 : Nat → FieldType) (hty : ∀ k, k < N → parseFieldDescriptor (T k).2.2.1 = some (ty0 k)) (hc : vwCl[c]? = some (C, T, N)) (hcl : Cond.classLink own ix C ∈ z_W) (hins : Cond.instantiable C N ∈ z_W) (hini : Cond.initialized C ∈ z_W) (hfs : ∀ j, j < N → defaultValue (ty0 j) = vp_V (fs.map z_v) j)
    (hd : decode cc pc = .ok (.new ix, 3)) (hr : k + 1 ≤ r.2.1 ∧ n + N ≤ r.2.2) (kk : ∀ q, h q = none → z_w g X cc own r (pc + 3) ls (z_r q :: st) (z_up h q (c_O c fs)) (k + 1) (n + N)) : z_w g X cc own r pc ls st h k n := fun C0 H locs S hR hS hL => by
  obtain ⟨ws, hP, hD, hw⟩ := id hR
  refine va_new (C := C) (T := T) (N := N) (fs := fs.map z_v) C0.1 C0.2.1 (Ts := z_W) C0.2.2.2.2.1 hin ty0 hty C0.2.2.2.1 (C0.2.2.2.2.1 _ hcl) (C0.2.2.2.2.1 _ hins) (C0.2.2.2.2.1 _ hini) C0.2.2.2.2.2.1.1 hP hD hS (fun q hq => Nat.le_trans C0.2.2.2.2.2.1.2.2.1 hq) hc hfs ?_ ?_ hd (fun q H1 hP1 hD1 hS1 => ?_)
  · exact Nat.le_trans hr.1 C0.2.2.2.2.2.2.2.2.1
  · exact Nat.le_trans hr.2 C0.2.2.2.2.2.2.2.2.2.1
  · obtain ⟨h1, h2⟩ := z_R.push (e1 := c_O c fs) hw hP1 hD1
    exact kk q h2 C0 H1 locs S h1 hS1 hL
theorem z_cid {U : State} {c1 c2 : ClassId} {nm : String} (h1 : U.vm.findClass nm = some c1) (h2 : U.vm.findClass nm = some c2) : c1 = c2 := Option.some.inj (h1.symm.trans h2)
theorem z_newI {j : Int} {N : Nat} (hw0 : Cond.arrayClass .int ∈ z_W) (hd : decode cc pc = .ok (.newarray .int, 2)) (hj : j = (N : Int)) (hN : N ≤ 100000) (hr : k + 1 ≤ r.2.1 ∧ n + N ≤ r.2.2) (kk : ∀ q, h q = none → z_w g X cc own r (pc + 2) ls (z_r q :: st) (z_up h q (c_I N (fun _ => 0))) (k + 1) (n + N)) : z_w g X cc own r pc ls (z_i j :: st) h k n := fun C0 H locs S hR hS hL => by
  obtain ⟨ws, hP, hD, hw⟩ := id hR
  subst hj
  refine va_newa (atype := .int) (ty := .int) (n := Int32.ofInt (N : Int)) (N' := N) (a0 := (N, .inl (fun _ => 0))) C0.1 C0.2.1 (C0.2.2.2.2.1 _ hw0) rfl C0.2.2.2.2.2.1.1 hP hD hS (fun q hq => Nat.le_trans C0.2.2.2.2.2.1.2.2.1 hq) (fun _ => rfl) ?_ ?_ ?_ ?_ ?_ hd (fun q cA H1 hK1 hP1 hD1 hS1 => ?_)
  · rw [z_0, z_lt ⟨by omega, by omega⟩ z_in0]; omega
  · rw [z_clamp (by omega) (by omega)]; rfl
  · simp [componentBytes]; omega
  · exact Nat.le_trans hr.1 C0.2.2.2.2.2.2.2.2.1
  · exact Nat.le_trans hr.2 C0.2.2.2.2.2.2.2.2.2.1
  · have e : cA = g_c g 0 := z_cid (hK1.2 5 (cA, .int) rfl).2 (hK1.2 0 (g_c g 0, .int) rfl).2
    subst e
    obtain ⟨h1, h2⟩ := z_R.push (e1 := c_I N (fun _ => 0)) hw hP1 hD1
    exact kk q h2 C0 H1 locs S h1 hS1 hL
theorem z_newJ {j : Int} {N : Nat} (hw0 : Cond.arrayClass .long ∈ z_W) (hd : decode cc pc = .ok (.newarray .long, 2)) (hj : j = (N : Int)) (hN : N ≤ 100000) (hr : k + 1 ≤ r.2.1 ∧ n + N ≤ r.2.2) (kk : ∀ q, h q = none → z_w g X cc own r (pc + 2) ls (z_r q :: st) (z_up h q (c_J N (fun _ => 0))) (k + 1) (n + N)) : z_w g X cc own r pc ls (z_i j :: st) h k n := fun C0 H locs S hR hS hL => by
  obtain ⟨ws, hP, hD, hw⟩ := id hR
  subst hj
  refine va_newa (atype := .long) (ty := .long) (n := Int32.ofInt (N : Int)) (N' := N) (a0 := (N, .inr (.inl (fun _ => 0)))) C0.1 C0.2.1 (C0.2.2.2.2.1 _ hw0) rfl C0.2.2.2.2.2.1.1 hP hD hS (fun q hq => Nat.le_trans C0.2.2.2.2.2.1.2.2.1 hq) (fun _ => rfl) ?_ ?_ ?_ ?_ ?_ hd (fun q cA H1 hK1 hP1 hD1 hS1 => ?_)
  · rw [z_0, z_lt ⟨by omega, by omega⟩ z_in0]; omega
  · rw [z_clamp (by omega) (by omega)]; rfl
  · simp [componentBytes]; omega
  · exact Nat.le_trans hr.1 C0.2.2.2.2.2.2.2.2.1
  · exact Nat.le_trans hr.2 C0.2.2.2.2.2.2.2.2.2.1
  · have e : cA = g_c g 1 := z_cid (hK1.2 5 (cA, .long) rfl).2 (hK1.2 1 (g_c g 1, .long) rfl).2
    subst e
    obtain ⟨h1, h2⟩ := z_R.push (e1 := c_J N (fun _ => 0)) hw hP1 hD1
    exact kk q h2 C0 H1 locs S h1 hS1 hL
theorem z_newA {j : Int} {N ix kq : Nat} {C : String} (hcl : Cond.classLink own ix C ∈ z_W) (hov : ∀ U, z_S g U → va_AO C U) (hk : (z_T g)[kq + 2]? = some (g_c g (kq + 2), .object C)) (hk5 : kq < 3) (hd : decode cc pc = .ok (.anewarray ix, 3)) (hj : j = (N : Int)) (hN : N ≤ 100000) (hr : k + 1 ≤ r.2.1 ∧ n + N ≤ r.2.2) (kk : ∀ q, h q = none → z_w g X cc own r (pc + 3) ls (z_r q :: st) (z_up h q (c_A kq N (fun _ => none))) (k + 1) (n + N)) : z_w g X cc own r pc ls (z_i j :: st) h k n := fun C0 H locs S hR hS hL => by
  obtain ⟨ws, hP, hD, hw⟩ := id hR
  subst hj
  refine va_newq (n := Int32.ofInt (N : Int)) (N' := N) C0.1 C0.2.1 C0.2.2.2.1 (C0.2.2.2.2.1 _ hcl) (hov _ C0.2.2.2.2.2.1) C0.2.2.2.2.2.1.1 hP hD hS (fun q hq => Nat.le_trans C0.2.2.2.2.2.1.2.2.1 hq) ?_ ?_ ?_ ?_ ?_ hd (fun q cA H1 hK1 hP1 hD1 hS1 => ?_)
  · rw [z_0, z_lt ⟨by omega, by omega⟩ z_in0]; omega
  · rw [z_clamp (by omega) (by omega)]; rfl
  · omega
  · exact Nat.le_trans hr.1 C0.2.2.2.2.2.2.2.2.1
  · exact Nat.le_trans hr.2 C0.2.2.2.2.2.2.2.2.2.1
  · have e : cA = g_c g (kq + 2) := by
      obtain ⟨_, _, _, _, _, e1⟩ := (hK1.2 5 (cA, .object C) rfl).2
      obtain ⟨_, _, _, _, _, e2⟩ := (hK1.2 (kq + 2) (g_c g (kq + 2), .object C) (by rw [List.getElem?_append_left (by simp [z_T]; omega)]; exact hk)).2
      exact z_cid e1 e2
    subst e
    obtain ⟨h1, h2⟩ := z_R.push (e1 := c_A kq N (fun _ => none)) hw hP1 hD1
    exact kk q h2 C0 H1 locs S h1 hS1 hL
-- calls
theorem z_tl (rv : Option z_V) (rest : List z_V) : (rv.map z_v).toList ++ rest.map z_v = (rv.toList ++ rest).map z_v := by cases rv <;> rfl
theorem z_cont {H : Heap} {locs : List Loc} {S : Array Slot} {mc ms : Nat} {rest : List z_V} {arr : Array Value} {P : Option z_V → z_H → Prop} (C0 : z_Cx g X cc own r) (hS : va_S (z_A g) (x_s X).heap H locs) (hL : z_L (x_n X) ls S)
    (hr : va_Run (x_p X) (g_l g) (x_e X) (x_R X) (x_s X) (x_m X) (x_a X) (x_b X) (x_t X) (x_c X) H locs k n mc ms (F0 (x_m X) pc S (st.map z_v)) (rest.map z_v) (z_Q g P arr) (z_A g))
    (kk : ∀ rv h', P rv h' → z_w g X cc own r (pc + 3) ls (rv.toList ++ rest) h' (k + mc) (n + ms)) : W (x_p X) (g_l g) (x_e X) (x_R X) (x_s X) (x_m X) (x_a X) (x_b X) (x_t X) (x_c X) H locs k n (x_q X) (F0 (x_m X) pc S (st.map z_v)) := by
  intro T hT X0
  obtain ⟨v, st₀, t, T', L, h0, X', hL', e1, e2, ⟨⟨rv, h', e3, hP, hR'⟩, hz, hk⟩, stp⟩ := hr T hT X0
  have e3' : v = rv.map z_v := by cases e3; rfl
  subst e3'
  rw [h0] at hz hk
  have hS1 : va_S (z_A g) (x_s X).heap T'.heap (locs ++ L) := ⟨Nat.le_trans hS.1 (by rw [e1]; exact hz), fun q h1 h2 => by rw [e1, hk q (Nat.lt_of_lt_of_le h1 hS.1) h2]; exact hS.2.1 q h1 h2, fun q hq => by
    rcases List.mem_append.mp hq with h | h
    · exact hS.2.2 q h
    · exact hL' q h⟩
  have h9 := kk rv h' hP C0 T'.heap (locs ++ L) S (by rw [e1]; exact hR') hS1 hL
  rw [← z_tl] at h9
  obtain ⟨t2, a1, b1⟩ := h9 T' rfl X'
  exact ⟨t2, stp t2 a1, b1⟩
theorem z_pre {M : z_M} {d mc ms : Nat} (hml : M.2.2.1 ≤ 22) (hr : d + 1 ≤ r.1) {R : Room} (h1 : r.1 ≤ R.frames) (h2 : 41 * r.1 ≤ R.locals) : (z_rm d mc ms).frames + 1 ≤ R.frames ∧ 8 + (M.2.2.1 + 11) + (z_rm d mc ms).locals ≤ R.locals := by
  refine ⟨Nat.le_trans hr h1, ?_⟩
  show 8 + (M.2.2.1 + 11) + 41 * d ≤ R.locals
  omega
abbrev z_hs (M : z_M) (nargs : Nat) : Prop := M.1.cls ≠ "java/lang/invoke/MethodHandle" ∧ M.1.cls ≠ "java/lang/invoke/VarHandle" ∧ (parseMethodDescriptor M.1.desc).map (fun d => d.parameters.length) = some nargs
theorem z_callV {M : z_M} {d mc ms ix ci N nargs a : Nat} {C : String} {T : u_T} {fs args rest : List z_V} {P : Option z_V → z_H → Prop} (hG : GoodIn z_W (wsV own ix C M.1 (z_ws M))) (hC : M.1.cls = C) (hs : z_hs M nargs) (hml : M.2.2.1 ≤ 22) (hc : vwCl[ci]? = some (C, T, N))
    (hd : decode cc pc = .ok (.invokevirtual ix, 3)) (D : z_D g M d mc ms (z_r a :: args) h P) (ha : h a = some (c_O ci fs)) (hn : args.length = nargs) (hst : st = args.reverse ++ z_r a :: rest) (hct : ((rest.map z_v).map fun v => v.category).sum ≤ 8) (hr : d + 1 ≤ r.1 ∧ k + mc ≤ r.2.1 ∧ n + ms ≤ r.2.2)
    (kk : ∀ rv h', P rv h' → z_w g X cc own r (pc + 3) ls (rv.toList ++ rest) h' (k + mc) (n + ms)) : z_w g X cc own r pc ls st h k n := fun C0 H locs S hR hS hL => by
  obtain ⟨ws, hP, hD, hw⟩ := id hR
  obtain ⟨q0, hq⟩ := hw a _ ha
  refine z_cont (arr := (Value.ref a :: args.map z_v).toArray) C0 hS hL ?_ kk
  exact va_runV (As := args.map z_v) (rest := rest.map z_v) ⟨C0.1, C0.2.1, C0.2.2.1, C0.2.2.2.1, C0.2.2.2.2.1⟩ D (cwV nargs C0.2.2.2.2.1 hG rfl rfl rfl ⟨hC, hs⟩ (z_pre hml hr.1 C0.2.2.2.2.2.2.2.1 C0.2.2.2.2.2.2.2.2.2.2))
    ⟨z_Pcb g _ h, va_recv C0.2.2.2.2.2.1.1 hP hc hq, fun U hU hW => ⟨rfl, by rw [hU]; exact hR, z_S.moved hW (by rw [hU]; exact hS.1) (fun q h1 h2 => by rw [hU]; exact hS.2.1 q h1 h2) C0.2.2.2.2.2.1⟩⟩
    rfl (by simpa using hn) hL.2.1 (by rw [hst]; simp [z_v, va_rf]) (by simpa using hct) hd ⟨Nat.le_trans hr.2.1 C0.2.2.2.2.2.2.2.2.1, Nat.le_trans hr.2.2 C0.2.2.2.2.2.2.2.2.2.1⟩
theorem z_callS {M : z_M} {d mc ms ix nargs : Nat} {args rest : List z_V} {P : Option z_V → z_H → Prop} (hG : GoodIn z_W (va_wsS own ix M.1 (z_ws M))) (hs : z_hs M nargs) (hml : M.2.2.1 ≤ 22)
    (hd : decode cc pc = .ok (.invokestatic ix, 3)) (D : z_D g M d mc ms args h P) (hn : args.length = nargs) (hst : st = args.reverse ++ rest) (hct : ((rest.map z_v).map fun v => v.category).sum ≤ 8) (hr : d + 1 ≤ r.1 ∧ k + mc ≤ r.2.1 ∧ n + ms ≤ r.2.2)
    (kk : ∀ rv h', P rv h' → z_w g X cc own r (pc + 3) ls (rv.toList ++ rest) h' (k + mc) (n + ms)) : z_w g X cc own r pc ls st h k n := fun C0 H locs S hR hS hL => by
  refine z_cont (arr := (args.map z_v).toArray) C0 hS hL ?_ kk
  exact va_runS (As := args.map z_v) (rest := rest.map z_v) ⟨C0.1, C0.2.1, C0.2.2.1, C0.2.2.2.1, C0.2.2.2.2.1⟩ D (va_cwS nargs C0.2.2.2.2.1 hG rfl rfl rfl hs (z_pre hml hr.1 C0.2.2.2.2.2.2.2.1 C0.2.2.2.2.2.2.2.2.2.2))
    ⟨z_Pcb g _ h, fun U hU hW => ⟨rfl, by rw [hU]; exact hR, z_S.moved hW (by rw [hU]; exact hS.1) (fun q h1 h2 => by rw [hU]; exact hS.2.1 q h1 h2) C0.2.2.2.2.2.1⟩⟩
    rfl (by simpa using hn) hL.2.1 (by rw [hst]; simp) (by simpa using hct) hd ⟨Nat.le_trans hr.2.1 C0.2.2.2.2.2.2.2.2.1, Nat.le_trans hr.2.2 C0.2.2.2.2.2.2.2.2.2.1⟩
theorem z_callI {y : MethodName} {bt : ByteArray} {mx d mc ms ix nargs a : Nat} {args rest : List z_V} {P : Option z_V → z_H → Prop} (hG : GoodIn z_W (z_ws (y, bt, mx, none))) (hini : Cond.initialized y.cls ∈ z_W) (hl : Cond.methodLink own ix y ∈ z_W) (hin : Cond.instanceMethod y ∈ z_W) (hy1 : y.name = "<init>") (hs : z_hs (y, bt, mx, none) nargs) (hml : mx ≤ 22)
    (hd : decode cc pc = .ok (.invokespecial ix, 3)) (D : z_D g (y, bt, mx, none) d mc ms (z_r a :: args) h P) (hn : args.length = nargs) (hst : st = args.reverse ++ z_r a :: rest) (hct : ((rest.map z_v).map fun v => v.category).sum ≤ 8) (hr : d + 1 ≤ r.1 ∧ k + mc ≤ r.2.1 ∧ n + ms ≤ r.2.2)
    (kk : ∀ rv h', P rv h' → z_w g X cc own r (pc + 3) ls (rv.toList ++ rest) h' (k + mc) (n + ms)) : z_w g X cc own r pc ls st h k n := fun C0 H locs S hR hS hL => by
  refine z_cont (arr := (Value.ref a :: args.map z_v).toArray) C0 hS hL ?_ kk
  exact va_runI (As := args.map z_v) (rest := rest.map z_v) ⟨C0.1, C0.2.1, C0.2.2.1, C0.2.2.2.1, C0.2.2.2.2.1⟩ D (cwI nargs C0.2.2.2.2.1 hG rfl rfl rfl (C0.2.2.2.2.1 _ hini) (C0.2.2.2.2.1 _ hl) (C0.2.2.2.2.1 _ hin) hy1 hs (z_pre (M := (y, bt, mx, none)) hml hr.1 C0.2.2.2.2.2.2.2.1 C0.2.2.2.2.2.2.2.2.2.2))
    ⟨z_Pcb g _ h, fun U hU hW => ⟨rfl, by rw [hU]; exact hR, z_S.moved hW (by rw [hU]; exact hS.1) (fun q h1 h2 => by rw [hU]; exact hS.2.1 q h1 h2) C0.2.2.2.2.2.1⟩⟩
    rfl (by simpa using hn) hL.2.1 (by rw [hst]; simp [z_v, va_rf]) (by simpa using hct) hd ⟨Nat.le_trans hr.2.1 C0.2.2.2.2.2.2.2.2.1, Nat.le_trans hr.2.2 C0.2.2.2.2.2.2.2.2.2.1⟩
theorem z_callN {y : MethodName} {bt : ByteArray} {host : String} {mx d mc ms ix nargs a : Nat} {args rest : List z_V} {P : Option z_V → z_H → Prop} (hG : GoodIn z_W (z_ws (y, bt, mx, none))) (hini : Cond.initialized y.cls ∈ z_W) (hl : Cond.methodLinkNest own ix y host ∈ z_N) (hin : Cond.instanceMethod y ∈ z_W) (hy1 : y.name = "<init>") (hs : z_hs (y, bt, mx, none) nargs) (hml : mx ≤ 22)
    (hd : decode cc pc = .ok (.invokespecial ix, 3)) (D : z_D g (y, bt, mx, none) d mc ms (z_r a :: args) h P) (hn : args.length = nargs) (hst : st = args.reverse ++ z_r a :: rest) (hct : ((rest.map z_v).map fun v => v.category).sum ≤ 8) (hr : d + 1 ≤ r.1 ∧ k + mc ≤ r.2.1 ∧ n + ms ≤ r.2.2)
    (kk : ∀ rv h', P rv h' → z_w g X cc own r (pc + 3) ls (rv.toList ++ rest) h' (k + mc) (n + ms)) : z_w g X cc own r pc ls st h k n := fun C0 H locs S hR hS hL => by
  refine z_cont (arr := (Value.ref a :: args.map z_v).toArray) C0 hS hL ?_ kk
  exact va_runIN (host := host) (As := args.map z_v) (rest := rest.map z_v) ⟨C0.1, C0.2.1, C0.2.2.1, C0.2.2.2.1, C0.2.2.2.2.1⟩ D ⟨va_cnB nargs C0.2.2.2.2.1 hG rfl rfl rfl (C0.2.2.2.2.2.1.2.2.2.1 _ hl) (C0.2.2.2.2.1 _ hini) hs (z_pre (M := (y, bt, mx, none)) hml hr.1 C0.2.2.2.2.2.2.2.1 C0.2.2.2.2.2.2.2.2.2.2), hy1, C0.2.2.2.2.1 _ hin⟩
    ⟨z_Pcb g _ h, fun U hU hW => ⟨rfl, by rw [hU]; exact hR, z_S.moved hW (by rw [hU]; exact hS.1) (fun q h1 h2 => by rw [hU]; exact hS.2.1 q h1 h2) C0.2.2.2.2.2.1⟩⟩
    rfl (by simpa using hn) hL.2.1 (by rw [hst]; simp [z_v, va_rf]) (by simpa using hct) hd ⟨Nat.le_trans hr.2.1 C0.2.2.2.2.2.2.2.2.1, Nat.le_trans hr.2.2 C0.2.2.2.2.2.2.2.2.2.1⟩
theorem z_gW {M : z_M} (h5 : Cond.code M.1 M.2.1 M.2.2.1 M.2.2.2 ∈ z_W) : GoodIn z_W (z_ws M) := fun w hw => by
  rcases List.mem_cons.mp hw with rfl | hw
  · exact ⟨h5, z_Wg _ h5⟩
  · exact ⟨hw, z_Wg _ hw⟩
theorem z_gV {M : z_M} {C : String} {ix : Nat} (h1 : Cond.methodLink own ix M.1 ∈ z_W) (h2 : Cond.instanceMethod M.1 ∈ z_W) (h3 : Cond.selects C M.1 M.1 ∈ z_W) (h4 : Cond.initialized C ∈ z_W) (h5 : Cond.code M.1 M.2.1 M.2.2.1 M.2.2.2 ∈ z_W) : GoodIn z_W (wsV own ix C M.1 (z_ws M)) := fun w hw => by
  unfold wsV at hw
  rcases List.mem_append.mp hw with hw | hw
  · have : w ∈ z_W := by
      simp only [List.mem_cons, List.not_mem_nil, or_false] at hw
      rcases hw with rfl | rfl | rfl | rfl <;> assumption
    exact ⟨this, z_Wg _ this⟩
  · exact z_gW h5 w hw
theorem z_gS {M : z_M} {ix : Nat} (h1 : Cond.methodLink own ix M.1 ∈ z_W) (h2 : Cond.static M.1 ∈ z_W) (h4 : Cond.initialized M.1.cls ∈ z_W) (h5 : Cond.code M.1 M.2.1 M.2.2.1 M.2.2.2 ∈ z_W) : GoodIn z_W (va_wsS own ix M.1 (z_ws M)) := fun w hw => by
  unfold va_wsS at hw
  rcases List.mem_append.mp hw with hw | hw
  · have : w ∈ z_W := by
      simp only [List.mem_cons, List.not_mem_nil, or_false] at hw
      rcases hw with rfl | rfl | rfl <;> assumption
    exact ⟨this, z_Wg _ this⟩
  · exact z_gW h5 w hw
-- returns
section ZRT
variable {M : z_M} {P : Option z_V → z_H → Prop}
theorem z_ret0 {rv : Option z_V} {H : Heap} {locs : List Loc} (hR : z_R g h H) (hS : va_S (z_A g) (x_s X).heap H locs) (hP : P rv h) : ∀ t : State, t.heap = H → (x_s X).WarmedH t.vm → z_Q g P (x_a X) (x_s X) (.returned (rv.map z_v)) t := fun t ht hW => ⟨⟨rv, h, rfl, hP, by rw [ht]; exact hR⟩, hS.F ht⟩
theorem z_iret {z : Int} (F : z_F g X M r P) (hd : decode cc pc = .ok (.ireturn, 1)) (ht : M.2.2.2 = some .int) (hk : k ≤ r.2.1 ∧ n ≤ r.2.2) (hP : P (some (z_i z)) h) : z_w g X cc own r pc ls [z_i z] h k n := fun C0 H locs S hR hS hL => by
  refine W.widen hk.1 hk.2 ?_
  rw [F.1]
  exact W.iret (v := Int32.ofInt z) C0.1 C0.2.1 (F.2.1.trans ht) (z_ret0 (rv := some (z_i z)) hR hS hP) hS.2.2 hd (hlocks := C0.2.2.2.2.2.2.1)
theorem z_zret {z : Int} (F : z_F g X M r P) (hd : decode cc pc = .ok (.ireturn, 1)) (ht : M.2.2.2 = some .boolean) (hz : z = 0 ∨ z = 1) (hk : k ≤ r.2.1 ∧ n ≤ r.2.2) (hP : P (some (z_i z)) h) : z_w g X cc own r pc ls [z_i z] h k n := fun C0 H locs S hR hS hL => by
  refine W.widen hk.1 hk.2 ?_
  rw [F.1]
  exact W.zret (v := Int32.ofInt z) C0.1 C0.2.1 (F.2.1.trans ht) (z_fitZ hz).1 (z_ret0 (rv := some (z_i z)) hR hS hP) hS.2.2 hd (hlocks := C0.2.2.2.2.2.2.1)
theorem z_lret {z : Int} (F : z_F g X M r P) (hd : decode cc pc = .ok (.lreturn, 1)) (ht : M.2.2.2 = some .long) (hk : k ≤ r.2.1 ∧ n ≤ r.2.2) (hP : P (some (z_l z)) h) : z_w g X cc own r pc ls [z_l z] h k n := fun C0 H locs S hR hS hL => by
  refine W.widen hk.1 hk.2 ?_
  rw [F.1]
  exact W.lret (v := Int64.ofInt z) C0.1 C0.2.1 (F.2.1.trans ht) (z_ret0 (rv := some (z_l z)) hR hS hP) hS.2.2 hd (hlocks := C0.2.2.2.2.2.2.1)
theorem z_vret (F : z_F g X M r P) (hd : decode cc pc = .ok (.return_, 1)) (ht : M.2.2.2 = none) (hk : k ≤ r.2.1 ∧ n ≤ r.2.2) (hP : P none h) : z_w g X cc own r pc ls [] h k n := fun C0 H locs S hR hS hL => by
  refine W.widen hk.1 hk.2 ?_
  rw [F.1]
  exact W.vret C0.1 C0.2.1 (F.2.1.trans ht) (z_ret0 (rv := none) hR hS hP) hS.2.2 hd (hlocks := C0.2.2.2.2.2.2.1)
theorem z_aret {o : Option Nat} {ty : FieldType} (F : z_F g X M r P) (hd : decode cc pc = .ok (.areturn, 1)) (ht : M.2.2.2 = some ty) (hty : (∃ n, ty = .object n) ∨ ∃ t, ty = .array t) (hk : k ≤ r.2.1 ∧ n ≤ r.2.2) (hP : P (some (z_q o)) h) : z_w g X cc own r pc ls [z_q o] h k n := fun C0 H locs S hR hS hL => by
  refine W.widen hk.1 hk.2 ?_
  rw [F.1]
  exact W.aret (v := va_rf o) C0.1 C0.2.1 (F.2.1.trans ht) hty (va_rf_or o) (z_ret0 (rv := some (z_q o)) hR hS hP) hS.2.2 hd (hlocks := C0.2.2.2.2.2.2.1)
end ZRT
-- forgetting, widening
theorem z_wk {k' n' : Nat} (h1 : k ≤ k') (h2 : n ≤ n') (kk : z_w g X cc own r pc ls st h k' n') : z_w g X cc own r pc ls st h k n := fun C0 H locs S hR hS hL => W.widen h1 h2 (kk C0 H locs S hR hS hL)
theorem z_hp {h' : z_H} (hh : ∀ a e, h' a = some e → h a = some e) (kk : z_w g X cc own r pc ls st h' k n) : z_w g X cc own r pc ls st h k n := fun C0 H locs S hR hS hL => kk C0 H locs S (hR.weak hh) hS hL
theorem z_lw {ls' : List z_V} (hl : ls'.length = ls.length) (hh : ∀ (i : Nat) (v : z_V), ls'[i]? = some v → v ≠ z_u → ls[i]? = some v) (kk : z_w g X cc own r pc ls' st h k n) : z_w g X cc own r pc ls st h k n := fun C0 H locs S hR hS hL => kk C0 H locs S hR hS ⟨hl.trans hL.1, hL.2.1, hL.2.2.1, fun i v h1 h2 => hL.2.2.2 i v (hh i v h1 h2) h2⟩
theorem z_bs {a : Nat} {e : z_C} (ha : h a = some e) (kk : g_0 g ≤ a → z_w g X cc own r pc ls st h k n) : z_w g X cc own r pc ls st h k n := fun C0 H locs S hR hS hL => kk (hR.base ha) C0 H locs S hR hS hL
-- the JDK's
theorem z_oinit {ix a : Nat} (h1 : Cond.methodLink own ix objectInit ∈ z_W) (h2 : Cond.instanceMethod objectInit ∈ z_W) (h3 : Cond.code objectInit ⟨#[0xb1]⟩ 1 none ∈ z_W) (hd : decode cc pc = .ok (.invokespecial ix, 3)) (hr : 1 ≤ r.1) (hct : ((st.map z_v).map fun v => v.category).sum ≤ 8) (kk : z_w g X cc own r (pc + 3) ls st h k n) : z_w g X cc own r pc ls (z_r a :: st) h k n := fun C0 H locs S hR hS hL => by
  refine W.objInit C0.1 C0.2.1 C0.2.2.2.1 (C0.2.2.2.2.1 _ h1) (C0.2.2.2.2.1 _ h2) (C0.2.2.2.2.1 _ h3) rfl (hL.2.1.trans C0.2.2.1.symm) rfl hd (Nat.le_trans hr C0.2.2.2.2.2.2.2.1) ?_ (kk C0 H locs S hR hS hL)
  have h8 := C0.2.2.2.2.2.2.2.2.2.2
  have : 2 * (F0 (x_m X) pc S (List.map z_v (z_r a :: st))).monitorRoom = 0 := rfl
  omega
theorem z_mmax {ix : Nat} {a b : Int} (h1 : Cond.methodLink own ix Lib.Math.max.name ∈ z_W) (h2 : Cond.static Lib.Math.max.name ∈ z_W) (h3 : Cond.initialized "java/lang/Math" ∈ z_W) (h4 : Cond.code Lib.Math.max.name Lib.Math.max.code 2 (some .int) ∈ z_W) (hd : decode cc pc = .ok (.invokestatic ix, 3)) (ha : z_in a) (hb : z_in b) (hr : 1 ≤ r.1 ∧ k ≤ r.2.1 ∧ n ≤ r.2.2) (hct : ((st.map z_v).map fun v => v.category).sum ≤ 8) (kk : z_w g X cc own r (pc + 3) ls (z_i (if a < b then b else a) :: st) h k n) : z_w g X cc own r pc ls (z_i b :: z_i a :: st) h k n := fun C0 H locs S hR hS hL => by
  refine va_mmax (x := Int32.ofInt a) (y := Int32.ofInt b) C0.1 C0.2.1 (C0.2.2.1.trans hL.2.1.symm) C0.2.2.2.1 (C0.2.2.2.2.1 _ h1) (C0.2.2.2.2.1 _ h2) (C0.2.2.2.2.1 _ h3) (C0.2.2.2.2.1 _ h4) (Nat.le_trans hr.1 C0.2.2.2.2.2.2.2.1) (by have h8 := C0.2.2.2.2.2.2.2.2.2.2; omega) (Nat.le_trans hr.2.1 C0.2.2.2.2.2.2.2.2.1) (Nat.le_trans hr.2.2 C0.2.2.2.2.2.2.2.2.2.1) hd ?_
  have e : (if Int32.ofInt a < Int32.ofInt b then Int32.ofInt b else Int32.ofInt a) = Int32.ofInt (if a < b then b else a) := by
    by_cases h9 : a < b
    · rw [if_pos h9, if_pos ((z_lt ha hb).mpr h9)]
    · rw [if_neg h9, if_neg (fun z => h9 ((z_lt ha hb).mp z))]
  rw [e]
  exact kk C0 H locs S hR hS hL
theorem z_mmin {ix : Nat} {a b : Int} (h1 : Cond.methodLink own ix Lib.Math.min.name ∈ z_W) (h2 : Cond.static Lib.Math.min.name ∈ z_W) (h3 : Cond.initialized "java/lang/Math" ∈ z_W) (h4 : Cond.code Lib.Math.min.name Lib.Math.min.code 2 (some .int) ∈ z_W) (hd : decode cc pc = .ok (.invokestatic ix, 3)) (ha : z_in a) (hb : z_in b) (hr : 1 ≤ r.1 ∧ k ≤ r.2.1 ∧ n ≤ r.2.2) (hct : ((st.map z_v).map fun v => v.category).sum ≤ 8) (kk : z_w g X cc own r (pc + 3) ls (z_i (if b < a then b else a) :: st) h k n) : z_w g X cc own r pc ls (z_i b :: z_i a :: st) h k n := fun C0 H locs S hR hS hL => by
  refine va_mmin (x := Int32.ofInt a) (y := Int32.ofInt b) C0.1 C0.2.1 (C0.2.2.1.trans hL.2.1.symm) C0.2.2.2.1 (C0.2.2.2.2.1 _ h1) (C0.2.2.2.2.1 _ h2) (C0.2.2.2.2.1 _ h3) (C0.2.2.2.2.1 _ h4) (Nat.le_trans hr.1 C0.2.2.2.2.2.2.2.1) (by have h8 := C0.2.2.2.2.2.2.2.2.2.2; omega) (Nat.le_trans hr.2.1 C0.2.2.2.2.2.2.2.2.1) (Nat.le_trans hr.2.2 C0.2.2.2.2.2.2.2.2.2.1) hd ?_
  have e : (if Int32.ofInt b < Int32.ofInt a then Int32.ofInt b else Int32.ofInt a) = Int32.ofInt (if b < a then b else a) := by
    by_cases h9 : b < a
    · rw [if_pos h9, if_pos ((z_lt hb ha).mpr h9)]
    · rw [if_neg h9, if_neg (fun z => h9 ((z_lt hb ha).mp z))]
  rw [e]
  exact kk C0 H locs S hR hS hL
theorem z_cpe (f f1 : Nat → Int) (sp dp m : Nat) : (fun q => Int32.ofInt (va_cpy f f1 sp dp m q)) = va_cpy (fun q => Int32.ofInt (f q)) (fun q => Int32.ofInt (f1 q)) sp dp m := by
  funext q
  unfold va_cpy
  split <;> rfl
theorem z_cpL (f f1 : Nat → Int) (sp dp m : Nat) : (fun q => Int64.ofInt (va_cpy f f1 sp dp m q)) = va_cpy (fun q => Int64.ofInt (f q)) (fun q => Int64.ofInt (f1 q)) sp dp m := by
  funext q
  unfold va_cpy
  split <;> rfl
theorem z_copyI {ix a0 a n0 n1 : Nat} {f f1 : Nat → Int} {sp dp m : Int} (h1 : Cond.methodLink own ix arraycopyName ∈ z_W) (h2 : Cond.native arraycopyName ∈ z_W) (h3 : Cond.static arraycopyName ∈ z_W) (h4 : Cond.initialized "java/lang/System" ∈ z_W) (hd : decode cc pc = .ok (.invokestatic ix, 3)) (ha0 : h a0 = some (c_I n0 f)) (ha : h a = some (c_I n1 f1)) (hm : 0 ≤ sp ∧ 0 ≤ dp ∧ 0 ≤ m ∧ sp + m ≤ (n0 : Int) ∧ dp + m ≤ (n1 : Int) ∧ n0 < 1000000 ∧ n1 < 1000000) (hr : 1 ≤ r.1) (hct : ((st.map z_v).map fun v => v.category).sum ≤ 8) (kk : z_w g X cc own r (pc + 3) ls st (z_up h a (c_I n1 (va_cpy f f1 sp.toNat dp.toNat m.toNat))) k n) : z_w g X cc own r pc ls (z_i m :: z_i dp :: z_r a :: z_i sp :: z_r a0 :: st) h k n := fun C0 H locs S hR hS hL => by
  obtain ⟨ws, hP, hD, hw⟩ := id hR
  obtain ⟨q0, hq⟩ := hw a0 _ ha0
  obtain ⟨q1, hq1⟩ := hw a _ ha
  have i1 : z_in sp := ⟨by omega, by omega⟩
  have i2 : z_in dp := ⟨by omega, by omega⟩
  have i3 : z_in m := ⟨by omega, by omega⟩
  refine va_copyi (sp := Int32.ofInt sp) (dp := Int32.ofInt dp) (n := Int32.ofInt m) C0.1 C0.2.1 (C0.2.2.1.trans hL.2.1.symm) C0.2.2.2.1 (C0.2.2.2.2.1 _ h1) (C0.2.2.2.2.1 _ h2) (C0.2.2.2.2.1 _ h3) (C0.2.2.2.2.1 _ h4) C0.2.2.2.2.2.1.1 hP hD hS q0 q1 0 0 hq hq1 (ty := .int) rfl rfl rfl ?_ ?_ ?_ ?_ ?_ (fun i _ => rfl) (Nat.le_trans hr C0.2.2.2.2.2.2.2.1) ?_ hd (fun H1 locs1 hP1 hD1 hS1 => kk C0 H1 locs1 S (z_R.set hw hq1 ?_ ?_) hS1 hL)
  · rw [z_0, z_lt i1 z_in0]; omega
  · rw [z_0, z_lt i2 z_in0]; omega
  · rw [z_0, z_lt i3 z_in0]; omega
  · rw [z_clamp (by omega) i1.2, z_clamp (by omega) i3.2]; omega
  · rw [z_clamp (by omega) i2.2, z_clamp (by omega) i3.2]; omega
  · have h8 := C0.2.2.2.2.2.2.2.2.2.2
    have : nativeFrameWords "java/lang/System" "arraycopy" 5 + 11 ≤ 33 := by decide
    omega
  all_goals
    rw [z_clamp (by omega) i1.2, z_clamp (by omega) i2.2, z_clamp (by omega) i3.2] at hP1 hD1
    simp only [z_e, z_cpe]
    assumption
theorem z_copyJ {ix a0 a n0 n1 : Nat} {f f1 : Nat → Int} {sp dp m : Int} (h1 : Cond.methodLink own ix arraycopyName ∈ z_W) (h2 : Cond.native arraycopyName ∈ z_W) (h3 : Cond.static arraycopyName ∈ z_W) (h4 : Cond.initialized "java/lang/System" ∈ z_W) (hd : decode cc pc = .ok (.invokestatic ix, 3)) (ha0 : h a0 = some (c_J n0 f)) (ha : h a = some (c_J n1 f1)) (hm : 0 ≤ sp ∧ 0 ≤ dp ∧ 0 ≤ m ∧ sp + m ≤ (n0 : Int) ∧ dp + m ≤ (n1 : Int) ∧ n0 < 1000000 ∧ n1 < 1000000) (hr : 1 ≤ r.1) (hct : ((st.map z_v).map fun v => v.category).sum ≤ 8) (kk : z_w g X cc own r (pc + 3) ls st (z_up h a (c_J n1 (va_cpy f f1 sp.toNat dp.toNat m.toNat))) k n) : z_w g X cc own r pc ls (z_i m :: z_i dp :: z_r a :: z_i sp :: z_r a0 :: st) h k n := fun C0 H locs S hR hS hL => by
  obtain ⟨ws, hP, hD, hw⟩ := id hR
  obtain ⟨q0, hq⟩ := hw a0 _ ha0
  obtain ⟨q1, hq1⟩ := hw a _ ha
  have i1 : z_in sp := ⟨by omega, by omega⟩
  have i2 : z_in dp := ⟨by omega, by omega⟩
  have i3 : z_in m := ⟨by omega, by omega⟩
  refine va_copyl (sp := Int32.ofInt sp) (dp := Int32.ofInt dp) (n := Int32.ofInt m) C0.1 C0.2.1 (C0.2.2.1.trans hL.2.1.symm) C0.2.2.2.1 (C0.2.2.2.2.1 _ h1) (C0.2.2.2.2.1 _ h2) (C0.2.2.2.2.1 _ h3) (C0.2.2.2.2.1 _ h4) C0.2.2.2.2.2.1.1 hP hD hS q0 q1 1 1 hq hq1 (ty := .long) rfl rfl rfl ?_ ?_ ?_ ?_ ?_ (fun i _ => rfl) (Nat.le_trans hr C0.2.2.2.2.2.2.2.1) ?_ hd (fun H1 locs1 hP1 hD1 hS1 => kk C0 H1 locs1 S (z_R.set hw hq1 ?_ ?_) hS1 hL)
  · rw [z_0, z_lt i1 z_in0]; omega
  · rw [z_0, z_lt i2 z_in0]; omega
  · rw [z_0, z_lt i3 z_in0]; omega
  · rw [z_clamp (by omega) i1.2, z_clamp (by omega) i3.2]; omega
  · rw [z_clamp (by omega) i2.2, z_clamp (by omega) i3.2]; omega
  · have h8 := C0.2.2.2.2.2.2.2.2.2.2
    have : nativeFrameWords "java/lang/System" "arraycopy" 5 + 11 ≤ 33 := by decide
    omega
  all_goals
    rw [z_clamp (by omega) i1.2, z_clamp (by omega) i2.2, z_clamp (by omega) i3.2] at hP1 hD1
    simp only [z_e, z_cpL]
    assumption
-- statics
theorem z_gets {ix i : Nat} {nm : String} (hi : i < 4) (hn : z_tn i = nm) (hlink : Cond.fieldLink own ix "KnitReader$Kinds" nm "[I" ∈ z_W) (hd : decode cc pc = .ok (.getstatic ix, 3)) (kk : z_w g X cc own r (pc + 3) ls (z_r (g_s g i) :: st) h k n) : z_w g X cc own r pc ls st h k n := fun C0 H locs S hR hS hL => by
  subst hn
  exact va_gets C0.1 C0.2.1 (C0.2.2.2.2.2.1.2.1.1 i hi).1 hS C0.2.2.2.1 (C0.2.2.2.2.1 _ hlink) (fun x hx => hx) hd (kk C0 H locs S hR hS hL)
theorem z_slen {i : Nat} (hi : i < 4) (hd : decode cc pc = .ok (.arraylength, 1)) (kk : z_w g X cc own r (pc + 1) ls (z_i 13 :: st) h k n) : z_w g X cc own r pc ls (z_r (g_s g i) :: st) h k n := fun C0 H locs S hR hS hL =>
  va_tlen C0.1 C0.2.1 (C0.2.2.2.2.2.1.2.1.1 i hi).2 hS (v := Int32.ofInt 13) (by decide) hd (kk C0 H locs S hR hS hL)
theorem z_sald {i : Nat} {j : Int} (hi : i < 4) (hd : decode cc pc = .ok (.iaload, 1)) (hj : 0 ≤ j ∧ j < 13) (kk : z_w g X cc own r (pc + 1) ls (z_i (z_tv i j.toNat) :: st) h k n) : z_w g X cc own r pc ls (z_i j :: z_r (g_s g i) :: st) h k n := fun C0 H locs S hR hS hL =>
  va_ti (i := Int32.ofInt j) (v := .int (Int32.ofInt (z_tv i j.toNat))) C0.1 C0.2.1 (C0.2.2.2.2.2.1.2.1.1 i hi).2 hS (z_vin hj.1 hj.2 (by omega)) (by rw [z_clamp hj.1 (by omega)]) hd (kk C0 H locs S hR hS hL)
end ZH
end
