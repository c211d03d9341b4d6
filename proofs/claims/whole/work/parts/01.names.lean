-- ===== PART A: goes FIRST, ahead of the names: the tables' words, and 'selects' of the private methods out of them =====
/-- a private method of a class that the tables say can be made, by its rows of tables_1 -/
def lw_okq (q : MethodName × Nat) : Prop := (q.1.cls ≠ "java/lang/invoke/MethodHandle" ∧ q.1.cls ≠ "java/lang/invoke/VarHandle") ∧ Cond.instantiable q.1.cls q.2 ∈ tables_1 ∧ Cond.privateMethod q.1 ∈ tables_1 ∧ Cond.instanceMethod q.1 ∈ tables_1
theorem lw_p0 : lw_okq (⟨"RoadHolidays", "openText", "(II)V"⟩, 16) := ⟨⟨by decide +kernel, by decide +kernel⟩, List.mem_of_getElem? (i := 26) (by decide +kernel), List.mem_of_getElem? (i := 439) (by decide +kernel), List.mem_of_getElem? (i := 440) (by decide +kernel)⟩
theorem lw_p1 : lw_okq (⟨"RoadHolidays", "require", "(Z)V"⟩, 16) := ⟨⟨by decide +kernel, by decide +kernel⟩, List.mem_of_getElem? (i := 26) (by decide +kernel), List.mem_of_getElem? (i := 449) (by decide +kernel), List.mem_of_getElem? (i := 450) (by decide +kernel)⟩
theorem lw_p2 : lw_okq (⟨"java/lang/Throwable", "fillInStackTrace", "(I)Ljava/lang/Throwable;"⟩, 6) := ⟨⟨by decide +kernel, by decide +kernel⟩, List.mem_of_getElem? (i := 490) (by decide +kernel), List.mem_of_getElem? (i := 488) (by decide +kernel), List.mem_of_getElem? (i := 489) (by decide +kernel)⟩
theorem lw_p3 : lw_okq (⟨"RoadHolidays$Tape", "moveTo", "(I)V"⟩, 8) := ⟨⟨by decide +kernel, by decide +kernel⟩, List.mem_of_getElem? (i := 34) (by decide +kernel), List.mem_of_getElem? (i := 524) (by decide +kernel), List.mem_of_getElem? (i := 525) (by decide +kernel)⟩
theorem lw_p4 : lw_okq (⟨"RoadHolidays$Land", "readClause", "(LRoadHolidays$Tape;)Z"⟩, 9) := ⟨⟨by decide +kernel, by decide +kernel⟩, List.mem_of_getElem? (i := 211) (by decide +kernel), List.mem_of_getElem? (i := 536) (by decide +kernel), List.mem_of_getElem? (i := 537) (by decide +kernel)⟩
theorem lw_p5 : lw_okq (⟨"RoadHolidays$Land", "addTown", "(LRoadHolidays$Tape;)Z"⟩, 9) := ⟨⟨by decide +kernel, by decide +kernel⟩, List.mem_of_getElem? (i := 211) (by decide +kernel), List.mem_of_getElem? (i := 596) (by decide +kernel), List.mem_of_getElem? (i := 597) (by decide +kernel)⟩
theorem lw_p6 : lw_okq (⟨"RoadHolidays$Land", "addRoad", "(LRoadHolidays$Tape;)Z"⟩, 9) := ⟨⟨by decide +kernel, by decide +kernel⟩, List.mem_of_getElem? (i := 211) (by decide +kernel), List.mem_of_getElem? (i := 605) (by decide +kernel), List.mem_of_getElem? (i := 606) (by decide +kernel)⟩
theorem lw_p7 : lw_okq (⟨"RoadHolidays$Land", "addCarter", "(LRoadHolidays$Tape;)Z"⟩, 9) := ⟨⟨by decide +kernel, by decide +kernel⟩, List.mem_of_getElem? (i := 211) (by decide +kernel), List.mem_of_getElem? (i := 628) (by decide +kernel), List.mem_of_getElem? (i := 629) (by decide +kernel)⟩
theorem lw_p8 : lw_okq (⟨"RoadHolidays", "faulty", "()I"⟩, 16) := ⟨⟨by decide +kernel, by decide +kernel⟩, List.mem_of_getElem? (i := 26) (by decide +kernel), List.mem_of_getElem? (i := 645) (by decide +kernel), List.mem_of_getElem? (i := 646) (by decide +kernel)⟩
theorem lw_p9 : lw_okq (⟨"RoadHolidays$Law", "put", "(II)Z"⟩, 5) := ⟨⟨by decide +kernel, by decide +kernel⟩, List.mem_of_getElem? (i := 267) (by decide +kernel), List.mem_of_getElem? (i := 653) (by decide +kernel), List.mem_of_getElem? (i := 654) (by decide +kernel)⟩
theorem lw_p10 : lw_okq (⟨"RoadHolidays$Law", "readSum", "(LRoadHolidays$Tape;I)Z"⟩, 5) := ⟨⟨by decide +kernel, by decide +kernel⟩, List.mem_of_getElem? (i := 267) (by decide +kernel), List.mem_of_getElem? (i := 676) (by decide +kernel), List.mem_of_getElem? (i := 677) (by decide +kernel)⟩
theorem lw_p11 : lw_okq (⟨"RoadHolidays$Law", "readProduct", "(LRoadHolidays$Tape;I)Z"⟩, 5) := ⟨⟨by decide +kernel, by decide +kernel⟩, List.mem_of_getElem? (i := 267) (by decide +kernel), List.mem_of_getElem? (i := 680) (by decide +kernel), List.mem_of_getElem? (i := 681) (by decide +kernel)⟩
theorem lw_p12 : lw_okq (⟨"RoadHolidays$Law", "readUnit", "(LRoadHolidays$Tape;I)Z"⟩, 5) := ⟨⟨by decide +kernel, by decide +kernel⟩, List.mem_of_getElem? (i := 267) (by decide +kernel), List.mem_of_getElem? (i := 684) (by decide +kernel), List.mem_of_getElem? (i := 685) (by decide +kernel)⟩
theorem lw_p13 : lw_okq (⟨"RoadHolidays$Law", "opens", "(LRoadHolidays$Tape;I)Z"⟩, 5) := ⟨⟨by decide +kernel, by decide +kernel⟩, List.mem_of_getElem? (i := 267) (by decide +kernel), List.mem_of_getElem? (i := 691) (by decide +kernel), List.mem_of_getElem? (i := 692) (by decide +kernel)⟩
theorem lw_p14 : lw_okq (⟨"RoadHolidays$Law", "readTwo", "(LRoadHolidays$Tape;I)Z"⟩, 5) := ⟨⟨by decide +kernel, by decide +kernel⟩, List.mem_of_getElem? (i := 267) (by decide +kernel), List.mem_of_getElem? (i := 699) (by decide +kernel), List.mem_of_getElem? (i := 700) (by decide +kernel)⟩
theorem lw_p15 : lw_okq (⟨"RoadHolidays$Steps", "readSteps", "(LRoadHolidays$Tape;LRoadHolidays$Land;I)Z"⟩, 8) := ⟨⟨by decide +kernel, by decide +kernel⟩, List.mem_of_getElem? (i := 73) (by decide +kernel), List.mem_of_getElem? (i := 728) (by decide +kernel), List.mem_of_getElem? (i := 729) (by decide +kernel)⟩
def lw_privs_1 : List (MethodName × Nat) := [(⟨"RoadHolidays", "openText", "(II)V"⟩, 16), (⟨"RoadHolidays", "require", "(Z)V"⟩, 16), (⟨"java/lang/Throwable", "fillInStackTrace", "(I)Ljava/lang/Throwable;"⟩, 6), (⟨"RoadHolidays$Tape", "moveTo", "(I)V"⟩, 8), (⟨"RoadHolidays$Land", "readClause", "(LRoadHolidays$Tape;)Z"⟩, 9), (⟨"RoadHolidays$Land", "addTown", "(LRoadHolidays$Tape;)Z"⟩, 9), (⟨"RoadHolidays$Land", "addRoad", "(LRoadHolidays$Tape;)Z"⟩, 9), (⟨"RoadHolidays$Land", "addCarter", "(LRoadHolidays$Tape;)Z"⟩, 9), (⟨"RoadHolidays", "faulty", "()I"⟩, 16), (⟨"RoadHolidays$Law", "put", "(II)Z"⟩, 5), (⟨"RoadHolidays$Law", "readSum", "(LRoadHolidays$Tape;I)Z"⟩, 5), (⟨"RoadHolidays$Law", "readProduct", "(LRoadHolidays$Tape;I)Z"⟩, 5), (⟨"RoadHolidays$Law", "readUnit", "(LRoadHolidays$Tape;I)Z"⟩, 5), (⟨"RoadHolidays$Law", "opens", "(LRoadHolidays$Tape;I)Z"⟩, 5), (⟨"RoadHolidays$Law", "readTwo", "(LRoadHolidays$Tape;I)Z"⟩, 5), (⟨"RoadHolidays$Steps", "readSteps", "(LRoadHolidays$Tape;LRoadHolidays$Land;I)Z"⟩, 8)]
theorem lw_r1 : ∀ q ∈ lw_privs_1, lw_okq q := List.forall_mem_cons.mpr ⟨lw_p0, List.forall_mem_cons.mpr ⟨lw_p1, List.forall_mem_cons.mpr ⟨lw_p2, List.forall_mem_cons.mpr ⟨lw_p3, List.forall_mem_cons.mpr ⟨lw_p4, List.forall_mem_cons.mpr ⟨lw_p5, List.forall_mem_cons.mpr ⟨lw_p6, List.forall_mem_cons.mpr ⟨lw_p7, List.forall_mem_cons.mpr ⟨lw_p8, List.forall_mem_cons.mpr ⟨lw_p9, List.forall_mem_cons.mpr ⟨lw_p10, List.forall_mem_cons.mpr ⟨lw_p11, List.forall_mem_cons.mpr ⟨lw_p12, List.forall_mem_cons.mpr ⟨lw_p13, List.forall_mem_cons.mpr ⟨lw_p14, List.forall_mem_cons.mpr ⟨lw_p15, fun _ h => absurd h List.not_mem_nil⟩⟩⟩⟩⟩⟩⟩⟩⟩⟩⟩⟩⟩⟩⟩⟩
theorem lw_p16 : lw_okq (⟨"RoadHolidays$Steps", "readStep", "(LRoadHolidays$Tape;LRoadHolidays$Land;I)Z"⟩, 8) := ⟨⟨by decide +kernel, by decide +kernel⟩, List.mem_of_getElem? (i := 73) (by decide +kernel), List.mem_of_getElem? (i := 734) (by decide +kernel), List.mem_of_getElem? (i := 735) (by decide +kernel)⟩
theorem lw_p17 : lw_okq (⟨"RoadHolidays$Steps", "readTwo", "(LRoadHolidays$Tape;III)Z"⟩, 8) := ⟨⟨by decide +kernel, by decide +kernel⟩, List.mem_of_getElem? (i := 73) (by decide +kernel), List.mem_of_getElem? (i := 740) (by decide +kernel), List.mem_of_getElem? (i := 741) (by decide +kernel)⟩
theorem lw_p18 : lw_okq (⟨"RoadHolidays$Steps", "put", "(III)Z"⟩, 8) := ⟨⟨by decide +kernel, by decide +kernel⟩, List.mem_of_getElem? (i := 73) (by decide +kernel), List.mem_of_getElem? (i := 745) (by decide +kernel), List.mem_of_getElem? (i := 746) (by decide +kernel)⟩
theorem lw_p19 : lw_okq (⟨"RoadHolidays$Steps", "readAgain", "(LRoadHolidays$Tape;LRoadHolidays$Land;I)Z"⟩, 8) := ⟨⟨by decide +kernel, by decide +kernel⟩, List.mem_of_getElem? (i := 73) (by decide +kernel), List.mem_of_getElem? (i := 754) (by decide +kernel), List.mem_of_getElem? (i := 755) (by decide +kernel)⟩
theorem lw_p20 : lw_okq (⟨"RoadHolidays$Steps", "behindTurn", "(I)I"⟩, 8) := ⟨⟨by decide +kernel, by decide +kernel⟩, List.mem_of_getElem? (i := 73) (by decide +kernel), List.mem_of_getElem? (i := 770) (by decide +kernel), List.mem_of_getElem? (i := 771) (by decide +kernel)⟩
theorem lw_p21 : lw_okq (⟨"RoadHolidays$Steps", "behindAgain", "(I)I"⟩, 8) := ⟨⟨by decide +kernel, by decide +kernel⟩, List.mem_of_getElem? (i := 73) (by decide +kernel), List.mem_of_getElem? (i := 774) (by decide +kernel), List.mem_of_getElem? (i := 775) (by decide +kernel)⟩
theorem lw_p22 : lw_okq (⟨"RoadHolidays$Steps", "doStep", "(LRoadHolidays$Land;LRoadHolidays$Law;LRoadHolidays$Scene;I)Z"⟩, 8) := ⟨⟨by decide +kernel, by decide +kernel⟩, List.mem_of_getElem? (i := 73) (by decide +kernel), List.mem_of_getElem? (i := 778) (by decide +kernel), List.mem_of_getElem? (i := 779) (by decide +kernel)⟩
theorem lw_p23 : lw_okq (⟨"RoadHolidays$Scene", "goOn", "(III)V"⟩, 11) := ⟨⟨by decide +kernel, by decide +kernel⟩, List.mem_of_getElem? (i := 106) (by decide +kernel), List.mem_of_getElem? (i := 841) (by decide +kernel), List.mem_of_getElem? (i := 842) (by decide +kernel)⟩
theorem lw_p24 : lw_okq (⟨"RoadHolidays$Book", "readLine", "(LRoadHolidays$Tape;)Z"⟩, 6) := ⟨⟨by decide +kernel, by decide +kernel⟩, List.mem_of_getElem? (i := 291) (by decide +kernel), List.mem_of_getElem? (i := 857) (by decide +kernel), List.mem_of_getElem? (i := 858) (by decide +kernel)⟩
theorem lw_p25 : lw_okq (⟨"RoadHolidays$Book", "isTold", "(I)Z"⟩, 6) := ⟨⟨by decide +kernel, by decide +kernel⟩, List.mem_of_getElem? (i := 291) (by decide +kernel), List.mem_of_getElem? (i := 862) (by decide +kernel), List.mem_of_getElem? (i := 863) (by decide +kernel)⟩
theorem lw_p26 : lw_okq (⟨"RoadHolidays", "requireTown", "(I)V"⟩, 16) := ⟨⟨by decide +kernel, by decide +kernel⟩, List.mem_of_getElem? (i := 26) (by decide +kernel), List.mem_of_getElem? (i := 891) (by decide +kernel), List.mem_of_getElem? (i := 892) (by decide +kernel)⟩
theorem lw_p27 : lw_okq (⟨"RoadHolidays", "requireThere", "(II)V"⟩, 16) := ⟨⟨by decide +kernel, by decide +kernel⟩, List.mem_of_getElem? (i := 26) (by decide +kernel), List.mem_of_getElem? (i := 895) (by decide +kernel), List.mem_of_getElem? (i := 896) (by decide +kernel)⟩
theorem lw_p28 : lw_okq (⟨"RoadHolidays", "requireRoad", "(I)V"⟩, 16) := ⟨⟨by decide +kernel, by decide +kernel⟩, List.mem_of_getElem? (i := 26) (by decide +kernel), List.mem_of_getElem? (i := 931) (by decide +kernel), List.mem_of_getElem? (i := 932) (by decide +kernel)⟩
theorem lw_p29 : lw_okq (⟨"RoadHolidays", "requireCarter", "(I)V"⟩, 16) := ⟨⟨by decide +kernel, by decide +kernel⟩, List.mem_of_getElem? (i := 26) (by decide +kernel), List.mem_of_getElem? (i := 951) (by decide +kernel), List.mem_of_getElem? (i := 952) (by decide +kernel)⟩
theorem lw_p30 : lw_okq (⟨"RoadHolidays$Ways", "nearest", "(LRoadHolidays$Land;I)I"⟩, 5) := ⟨⟨by decide +kernel, by decide +kernel⟩, List.mem_of_getElem? (i := 185) (by decide +kernel), List.mem_of_getElem? (i := 990) (by decide +kernel), List.mem_of_getElem? (i := 991) (by decide +kernel)⟩
theorem lw_p31 : lw_okq (⟨"RoadHolidays$Ways", "leave", "(LRoadHolidays$Land;LRoadHolidays$Scene;II)V"⟩, 5) := ⟨⟨by decide +kernel, by decide +kernel⟩, List.mem_of_getElem? (i := 185) (by decide +kernel), List.mem_of_getElem? (i := 994) (by decide +kernel), List.mem_of_getElem? (i := 995) (by decide +kernel)⟩
def lw_privs_2 : List (MethodName × Nat) := [(⟨"RoadHolidays$Steps", "readStep", "(LRoadHolidays$Tape;LRoadHolidays$Land;I)Z"⟩, 8), (⟨"RoadHolidays$Steps", "readTwo", "(LRoadHolidays$Tape;III)Z"⟩, 8), (⟨"RoadHolidays$Steps", "put", "(III)Z"⟩, 8), (⟨"RoadHolidays$Steps", "readAgain", "(LRoadHolidays$Tape;LRoadHolidays$Land;I)Z"⟩, 8), (⟨"RoadHolidays$Steps", "behindTurn", "(I)I"⟩, 8), (⟨"RoadHolidays$Steps", "behindAgain", "(I)I"⟩, 8), (⟨"RoadHolidays$Steps", "doStep", "(LRoadHolidays$Land;LRoadHolidays$Law;LRoadHolidays$Scene;I)Z"⟩, 8), (⟨"RoadHolidays$Scene", "goOn", "(III)V"⟩, 11), (⟨"RoadHolidays$Book", "readLine", "(LRoadHolidays$Tape;)Z"⟩, 6), (⟨"RoadHolidays$Book", "isTold", "(I)Z"⟩, 6), (⟨"RoadHolidays", "requireTown", "(I)V"⟩, 16), (⟨"RoadHolidays", "requireThere", "(II)V"⟩, 16), (⟨"RoadHolidays", "requireRoad", "(I)V"⟩, 16), (⟨"RoadHolidays", "requireCarter", "(I)V"⟩, 16), (⟨"RoadHolidays$Ways", "nearest", "(LRoadHolidays$Land;I)I"⟩, 5), (⟨"RoadHolidays$Ways", "leave", "(LRoadHolidays$Land;LRoadHolidays$Scene;II)V"⟩, 5)]
theorem lw_r2 : ∀ q ∈ lw_privs_2, lw_okq q := List.forall_mem_cons.mpr ⟨lw_p16, List.forall_mem_cons.mpr ⟨lw_p17, List.forall_mem_cons.mpr ⟨lw_p18, List.forall_mem_cons.mpr ⟨lw_p19, List.forall_mem_cons.mpr ⟨lw_p20, List.forall_mem_cons.mpr ⟨lw_p21, List.forall_mem_cons.mpr ⟨lw_p22, List.forall_mem_cons.mpr ⟨lw_p23, List.forall_mem_cons.mpr ⟨lw_p24, List.forall_mem_cons.mpr ⟨lw_p25, List.forall_mem_cons.mpr ⟨lw_p26, List.forall_mem_cons.mpr ⟨lw_p27, List.forall_mem_cons.mpr ⟨lw_p28, List.forall_mem_cons.mpr ⟨lw_p29, List.forall_mem_cons.mpr ⟨lw_p30, List.forall_mem_cons.mpr ⟨lw_p31, fun _ h => absurd h List.not_mem_nil⟩⟩⟩⟩⟩⟩⟩⟩⟩⟩⟩⟩⟩⟩⟩⟩
theorem lw_p32 : lw_okq (⟨"RoadHolidays$Ways", "by", "(LRoadHolidays$Land;LRoadHolidays$Scene;III)I"⟩, 5) := ⟨⟨by decide +kernel, by decide +kernel⟩, List.mem_of_getElem? (i := 185) (by decide +kernel), List.mem_of_getElem? (i := 1000) (by decide +kernel), List.mem_of_getElem? (i := 1001) (by decide +kernel)⟩
theorem lw_p33 : lw_okq (⟨"RoadHolidays$Ways", "lastRoad", "(LRoadHolidays$Land;LRoadHolidays$Scene;II)I"⟩, 5) := ⟨⟨by decide +kernel, by decide +kernel⟩, List.mem_of_getElem? (i := 185) (by decide +kernel), List.mem_of_getElem? (i := 1016) (by decide +kernel), List.mem_of_getElem? (i := 1017) (by decide +kernel)⟩
theorem lw_p34 : lw_okq (⟨"RoadHolidays", "requireWeekDay", "(I)V"⟩, 16) := ⟨⟨by decide +kernel, by decide +kernel⟩, List.mem_of_getElem? (i := 26) (by decide +kernel), List.mem_of_getElem? (i := 1048) (by decide +kernel), List.mem_of_getElem? (i := 1049) (by decide +kernel)⟩
theorem lw_p35 : lw_okq (⟨"RoadHolidays$Book", "mostAlike", "(I)I"⟩, 6) := ⟨⟨by decide +kernel, by decide +kernel⟩, List.mem_of_getElem? (i := 291) (by decide +kernel), List.mem_of_getElem? (i := 1136) (by decide +kernel), List.mem_of_getElem? (i := 1137) (by decide +kernel)⟩
theorem lw_p36 : lw_okq (⟨"RoadHolidays", "given", "(II)I"⟩, 16) := ⟨⟨by decide +kernel, by decide +kernel⟩, List.mem_of_getElem? (i := 26) (by decide +kernel), List.mem_of_getElem? (i := 1169) (by decide +kernel), List.mem_of_getElem? (i := 1170) (by decide +kernel)⟩
theorem lw_p37 : lw_okq (⟨"RoadHolidays", "liveYear", "(III)V"⟩, 16) := ⟨⟨by decide +kernel, by decide +kernel⟩, List.mem_of_getElem? (i := 26) (by decide +kernel), List.mem_of_getElem? (i := 1208) (by decide +kernel), List.mem_of_getElem? (i := 1209) (by decide +kernel)⟩
theorem lw_p38 : lw_okq (⟨"RoadHolidays$Scene", "draw", "(I)I"⟩, 11) := ⟨⟨by decide +kernel, by decide +kernel⟩, List.mem_of_getElem? (i := 106) (by decide +kernel), List.mem_of_getElem? (i := 1216) (by decide +kernel), List.mem_of_getElem? (i := 1217) (by decide +kernel)⟩
theorem lw_p39 : lw_okq (⟨"RoadHolidaysModel", "clears", "()V"⟩, 50) := ⟨⟨by decide +kernel, by decide +kernel⟩, List.mem_of_getElem? (i := 1240) (by decide +kernel), List.mem_of_getElem? (i := 1246) (by decide +kernel), List.mem_of_getElem? (i := 1247) (by decide +kernel)⟩
theorem lw_p40 : lw_okq (⟨"RoadHolidaysModel", "sets", "()V"⟩, 50) := ⟨⟨by decide +kernel, by decide +kernel⟩, List.mem_of_getElem? (i := 1240) (by decide +kernel), List.mem_of_getElem? (i := 1250) (by decide +kernel), List.mem_of_getElem? (i := 1251) (by decide +kernel)⟩
theorem lw_p41 : lw_okq (⟨"RoadHolidaysModel", "copies", "([I[II)V"⟩, 50) := ⟨⟨by decide +kernel, by decide +kernel⟩, List.mem_of_getElem? (i := 1240) (by decide +kernel), List.mem_of_getElem? (i := 1254) (by decide +kernel), List.mem_of_getElem? (i := 1255) (by decide +kernel)⟩
theorem lw_p42 : lw_okq (⟨"RoadHolidaysModel", "may", "(ZII)Z"⟩, 50) := ⟨⟨by decide +kernel, by decide +kernel⟩, List.mem_of_getElem? (i := 1240) (by decide +kernel), List.mem_of_getElem? (i := 1422) (by decide +kernel), List.mem_of_getElem? (i := 1423) (by decide +kernel)⟩
theorem lw_p43 : lw_okq (⟨"RoadHolidaysModel", "begins", "(I)V"⟩, 50) := ⟨⟨by decide +kernel, by decide +kernel⟩, List.mem_of_getElem? (i := 1240) (by decide +kernel), List.mem_of_getElem? (i := 1426) (by decide +kernel), List.mem_of_getElem? (i := 1427) (by decide +kernel)⟩
theorem lw_p44 : lw_okq (⟨"RoadHolidaysModel", "fine", "()Z"⟩, 50) := ⟨⟨by decide +kernel, by decide +kernel⟩, List.mem_of_getElem? (i := 1240) (by decide +kernel), List.mem_of_getElem? (i := 1430) (by decide +kernel), List.mem_of_getElem? (i := 1431) (by decide +kernel)⟩
theorem lw_p45 : lw_okq (⟨"RoadHolidaysModel", "isMore", "()Z"⟩, 50) := ⟨⟨by decide +kernel, by decide +kernel⟩, List.mem_of_getElem? (i := 1240) (by decide +kernel), List.mem_of_getElem? (i := 1434) (by decide +kernel), List.mem_of_getElem? (i := 1435) (by decide +kernel)⟩
theorem lw_p46 : lw_okq (⟨"RoadHolidaysModel", "here", "()I"⟩, 50) := ⟨⟨by decide +kernel, by decide +kernel⟩, List.mem_of_getElem? (i := 1240) (by decide +kernel), List.mem_of_getElem? (i := 1438) (by decide +kernel), List.mem_of_getElem? (i := 1439) (by decide +kernel)⟩
theorem lw_p47 : lw_okq (⟨"RoadHolidaysModel", "word", "()I"⟩, 50) := ⟨⟨by decide +kernel, by decide +kernel⟩, List.mem_of_getElem? (i := 1240) (by decide +kernel), List.mem_of_getElem? (i := 1442) (by decide +kernel), List.mem_of_getElem? (i := 1443) (by decide +kernel)⟩
def lw_privs_3 : List (MethodName × Nat) := [(⟨"RoadHolidays$Ways", "by", "(LRoadHolidays$Land;LRoadHolidays$Scene;III)I"⟩, 5), (⟨"RoadHolidays$Ways", "lastRoad", "(LRoadHolidays$Land;LRoadHolidays$Scene;II)I"⟩, 5), (⟨"RoadHolidays", "requireWeekDay", "(I)V"⟩, 16), (⟨"RoadHolidays$Book", "mostAlike", "(I)I"⟩, 6), (⟨"RoadHolidays", "given", "(II)I"⟩, 16), (⟨"RoadHolidays", "liveYear", "(III)V"⟩, 16), (⟨"RoadHolidays$Scene", "draw", "(I)I"⟩, 11), (⟨"RoadHolidaysModel", "clears", "()V"⟩, 50), (⟨"RoadHolidaysModel", "sets", "()V"⟩, 50), (⟨"RoadHolidaysModel", "copies", "([I[II)V"⟩, 50), (⟨"RoadHolidaysModel", "may", "(ZII)Z"⟩, 50), (⟨"RoadHolidaysModel", "begins", "(I)V"⟩, 50), (⟨"RoadHolidaysModel", "fine", "()Z"⟩, 50), (⟨"RoadHolidaysModel", "isMore", "()Z"⟩, 50), (⟨"RoadHolidaysModel", "here", "()I"⟩, 50), (⟨"RoadHolidaysModel", "word", "()I"⟩, 50)]
theorem lw_r3 : ∀ q ∈ lw_privs_3, lw_okq q := List.forall_mem_cons.mpr ⟨lw_p32, List.forall_mem_cons.mpr ⟨lw_p33, List.forall_mem_cons.mpr ⟨lw_p34, List.forall_mem_cons.mpr ⟨lw_p35, List.forall_mem_cons.mpr ⟨lw_p36, List.forall_mem_cons.mpr ⟨lw_p37, List.forall_mem_cons.mpr ⟨lw_p38, List.forall_mem_cons.mpr ⟨lw_p39, List.forall_mem_cons.mpr ⟨lw_p40, List.forall_mem_cons.mpr ⟨lw_p41, List.forall_mem_cons.mpr ⟨lw_p42, List.forall_mem_cons.mpr ⟨lw_p43, List.forall_mem_cons.mpr ⟨lw_p44, List.forall_mem_cons.mpr ⟨lw_p45, List.forall_mem_cons.mpr ⟨lw_p46, List.forall_mem_cons.mpr ⟨lw_p47, fun _ h => absurd h List.not_mem_nil⟩⟩⟩⟩⟩⟩⟩⟩⟩⟩⟩⟩⟩⟩⟩⟩
theorem lw_p48 : lw_okq (⟨"RoadHolidaysModel", "wrong", "(II)V"⟩, 50) := ⟨⟨by decide +kernel, by decide +kernel⟩, List.mem_of_getElem? (i := 1240) (by decide +kernel), List.mem_of_getElem? (i := 1460) (by decide +kernel), List.mem_of_getElem? (i := 1461) (by decide +kernel)⟩
theorem lw_p49 : lw_okq (⟨"RoadHolidaysModel", "isFull", "(I)Z"⟩, 50) := ⟨⟨by decide +kernel, by decide +kernel⟩, List.mem_of_getElem? (i := 1240) (by decide +kernel), List.mem_of_getElem? (i := 1464) (by decide +kernel), List.mem_of_getElem? (i := 1465) (by decide +kernel)⟩
theorem lw_p50 : lw_okq (⟨"RoadHolidaysModel", "pass", "()V"⟩, 50) := ⟨⟨by decide +kernel, by decide +kernel⟩, List.mem_of_getElem? (i := 1240) (by decide +kernel), List.mem_of_getElem? (i := 1468) (by decide +kernel), List.mem_of_getElem? (i := 1469) (by decide +kernel)⟩
theorem lw_p51 : lw_okq (⟨"RoadHolidaysModel", "readRow", "(I)V"⟩, 50) := ⟨⟨by decide +kernel, by decide +kernel⟩, List.mem_of_getElem? (i := 1240) (by decide +kernel), List.mem_of_getElem? (i := 1472) (by decide +kernel), List.mem_of_getElem? (i := 1473) (by decide +kernel)⟩
theorem lw_p52 : lw_okq (⟨"RoadHolidaysModel", "readRoad", "()V"⟩, 50) := ⟨⟨by decide +kernel, by decide +kernel⟩, List.mem_of_getElem? (i := 1240) (by decide +kernel), List.mem_of_getElem? (i := 1476) (by decide +kernel), List.mem_of_getElem? (i := 1477) (by decide +kernel)⟩
theorem lw_p53 : lw_okq (⟨"RoadHolidaysModel", "readTown", "()I"⟩, 50) := ⟨⟨by decide +kernel, by decide +kernel⟩, List.mem_of_getElem? (i := 1240) (by decide +kernel), List.mem_of_getElem? (i := 1480) (by decide +kernel), List.mem_of_getElem? (i := 1481) (by decide +kernel)⟩
theorem lw_p54 : lw_okq (⟨"RoadHolidaysModel", "readNumber", "(II)I"⟩, 50) := ⟨⟨by decide +kernel, by decide +kernel⟩, List.mem_of_getElem? (i := 1240) (by decide +kernel), List.mem_of_getElem? (i := 1484) (by decide +kernel), List.mem_of_getElem? (i := 1485) (by decide +kernel)⟩
theorem lw_p55 : lw_okq (⟨"RoadHolidaysModel", "sign", "(I)V"⟩, 50) := ⟨⟨by decide +kernel, by decide +kernel⟩, List.mem_of_getElem? (i := 1240) (by decide +kernel), List.mem_of_getElem? (i := 1491) (by decide +kernel), List.mem_of_getElem? (i := 1492) (by decide +kernel)⟩
theorem lw_p56 : lw_okq (⟨"RoadHolidaysModel", "result", "(I)I"⟩, 50) := ⟨⟨by decide +kernel, by decide +kernel⟩, List.mem_of_getElem? (i := 1240) (by decide +kernel), List.mem_of_getElem? (i := 1495) (by decide +kernel), List.mem_of_getElem? (i := 1496) (by decide +kernel)⟩
theorem lw_p57 : lw_okq (⟨"RoadHolidaysModel", "readSum", "()V"⟩, 50) := ⟨⟨by decide +kernel, by decide +kernel⟩, List.mem_of_getElem? (i := 1240) (by decide +kernel), List.mem_of_getElem? (i := 1503) (by decide +kernel), List.mem_of_getElem? (i := 1504) (by decide +kernel)⟩
theorem lw_p58 : lw_okq (⟨"RoadHolidaysModel", "readProduct", "()V"⟩, 50) := ⟨⟨by decide +kernel, by decide +kernel⟩, List.mem_of_getElem? (i := 1240) (by decide +kernel), List.mem_of_getElem? (i := 1507) (by decide +kernel), List.mem_of_getElem? (i := 1508) (by decide +kernel)⟩
theorem lw_p59 : lw_okq (⟨"RoadHolidaysModel", "readUnit", "()V"⟩, 50) := ⟨⟨by decide +kernel, by decide +kernel⟩, List.mem_of_getElem? (i := 1240) (by decide +kernel), List.mem_of_getElem? (i := 1511) (by decide +kernel), List.mem_of_getElem? (i := 1512) (by decide +kernel)⟩
theorem lw_p60 : lw_okq (⟨"RoadHolidaysModel", "opensOne", "(I)V"⟩, 50) := ⟨⟨by decide +kernel, by decide +kernel⟩, List.mem_of_getElem? (i := 1240) (by decide +kernel), List.mem_of_getElem? (i := 1515) (by decide +kernel), List.mem_of_getElem? (i := 1516) (by decide +kernel)⟩
theorem lw_p61 : lw_okq (⟨"RoadHolidaysModel", "emit", "(II)V"⟩, 50) := ⟨⟨by decide +kernel, by decide +kernel⟩, List.mem_of_getElem? (i := 1240) (by decide +kernel), List.mem_of_getElem? (i := 1519) (by decide +kernel), List.mem_of_getElem? (i := 1520) (by decide +kernel)⟩
theorem lw_p62 : lw_okq (⟨"RoadHolidaysModel", "readTwo", "(II)V"⟩, 50) := ⟨⟨by decide +kernel, by decide +kernel⟩, List.mem_of_getElem? (i := 1240) (by decide +kernel), List.mem_of_getElem? (i := 1524) (by decide +kernel), List.mem_of_getElem? (i := 1525) (by decide +kernel)⟩
theorem lw_p63 : lw_okq (⟨"RoadHolidaysModel", "factHere", "()I"⟩, 50) := ⟨⟨by decide +kernel, by decide +kernel⟩, List.mem_of_getElem? (i := 1240) (by decide +kernel), List.mem_of_getElem? (i := 1529) (by decide +kernel), List.mem_of_getElem? (i := 1530) (by decide +kernel)⟩
def lw_privs_4 : List (MethodName × Nat) := [(⟨"RoadHolidaysModel", "wrong", "(II)V"⟩, 50), (⟨"RoadHolidaysModel", "isFull", "(I)Z"⟩, 50), (⟨"RoadHolidaysModel", "pass", "()V"⟩, 50), (⟨"RoadHolidaysModel", "readRow", "(I)V"⟩, 50), (⟨"RoadHolidaysModel", "readRoad", "()V"⟩, 50), (⟨"RoadHolidaysModel", "readTown", "()I"⟩, 50), (⟨"RoadHolidaysModel", "readNumber", "(II)I"⟩, 50), (⟨"RoadHolidaysModel", "sign", "(I)V"⟩, 50), (⟨"RoadHolidaysModel", "result", "(I)I"⟩, 50), (⟨"RoadHolidaysModel", "readSum", "()V"⟩, 50), (⟨"RoadHolidaysModel", "readProduct", "()V"⟩, 50), (⟨"RoadHolidaysModel", "readUnit", "()V"⟩, 50), (⟨"RoadHolidaysModel", "opensOne", "(I)V"⟩, 50), (⟨"RoadHolidaysModel", "emit", "(II)V"⟩, 50), (⟨"RoadHolidaysModel", "readTwo", "(II)V"⟩, 50), (⟨"RoadHolidaysModel", "factHere", "()I"⟩, 50)]
theorem lw_r4 : ∀ q ∈ lw_privs_4, lw_okq q := List.forall_mem_cons.mpr ⟨lw_p48, List.forall_mem_cons.mpr ⟨lw_p49, List.forall_mem_cons.mpr ⟨lw_p50, List.forall_mem_cons.mpr ⟨lw_p51, List.forall_mem_cons.mpr ⟨lw_p52, List.forall_mem_cons.mpr ⟨lw_p53, List.forall_mem_cons.mpr ⟨lw_p54, List.forall_mem_cons.mpr ⟨lw_p55, List.forall_mem_cons.mpr ⟨lw_p56, List.forall_mem_cons.mpr ⟨lw_p57, List.forall_mem_cons.mpr ⟨lw_p58, List.forall_mem_cons.mpr ⟨lw_p59, List.forall_mem_cons.mpr ⟨lw_p60, List.forall_mem_cons.mpr ⟨lw_p61, List.forall_mem_cons.mpr ⟨lw_p62, List.forall_mem_cons.mpr ⟨lw_p63, fun _ h => absurd h List.not_mem_nil⟩⟩⟩⟩⟩⟩⟩⟩⟩⟩⟩⟩⟩⟩⟩⟩
theorem lw_p64 : lw_okq (⟨"RoadHolidaysModel", "readStep", "()V"⟩, 50) := ⟨⟨by decide +kernel, by decide +kernel⟩, List.mem_of_getElem? (i := 1240) (by decide +kernel), List.mem_of_getElem? (i := 1544) (by decide +kernel), List.mem_of_getElem? (i := 1545) (by decide +kernel)⟩
theorem lw_p65 : lw_okq (⟨"RoadHolidaysModel", "readAgain", "()V"⟩, 50) := ⟨⟨by decide +kernel, by decide +kernel⟩, List.mem_of_getElem? (i := 1240) (by decide +kernel), List.mem_of_getElem? (i := 1555) (by decide +kernel), List.mem_of_getElem? (i := 1556) (by decide +kernel)⟩
theorem lw_p66 : lw_okq (⟨"RoadHolidaysModel", "tellsStep", "(III)V"⟩, 50) := ⟨⟨by decide +kernel, by decide +kernel⟩, List.mem_of_getElem? (i := 1240) (by decide +kernel), List.mem_of_getElem? (i := 1559) (by decide +kernel), List.mem_of_getElem? (i := 1560) (by decide +kernel)⟩
theorem lw_p67 : lw_okq (⟨"RoadHolidaysModel", "take", "()V"⟩, 50) := ⟨⟨by decide +kernel, by decide +kernel⟩, List.mem_of_getElem? (i := 1240) (by decide +kernel), List.mem_of_getElem? (i := 1563) (by decide +kernel), List.mem_of_getElem? (i := 1564) (by decide +kernel)⟩
theorem lw_p68 : lw_okq (⟨"RoadHolidaysModel", "goesSteps", "(II)V"⟩, 50) := ⟨⟨by decide +kernel, by decide +kernel⟩, List.mem_of_getElem? (i := 1240) (by decide +kernel), List.mem_of_getElem? (i := 1567) (by decide +kernel), List.mem_of_getElem? (i := 1568) (by decide +kernel)⟩
theorem lw_p69 : lw_okq (⟨"RoadHolidaysModel", "isDone", "(III)Z"⟩, 50) := ⟨⟨by decide +kernel, by decide +kernel⟩, List.mem_of_getElem? (i := 1240) (by decide +kernel), List.mem_of_getElem? (i := 1571) (by decide +kernel), List.mem_of_getElem? (i := 1572) (by decide +kernel)⟩
theorem lw_p70 : lw_okq (⟨"RoadHolidaysModel", "isSet", "(II)Z"⟩, 50) := ⟨⟨by decide +kernel, by decide +kernel⟩, List.mem_of_getElem? (i := 1240) (by decide +kernel), List.mem_of_getElem? (i := 1575) (by decide +kernel), List.mem_of_getElem? (i := 1576) (by decide +kernel)⟩
theorem lw_p71 : lw_okq (⟨"RoadHolidaysModel", "goesFrom", "(II)Z"⟩, 50) := ⟨⟨by decide +kernel, by decide +kernel⟩, List.mem_of_getElem? (i := 1240) (by decide +kernel), List.mem_of_getElem? (i := 1579) (by decide +kernel), List.mem_of_getElem? (i := 1580) (by decide +kernel)⟩
theorem lw_p72 : lw_okq (⟨"RoadHolidaysModel", "otherOf", "(II)I"⟩, 50) := ⟨⟨by decide +kernel, by decide +kernel⟩, List.mem_of_getElem? (i := 1240) (by decide +kernel), List.mem_of_getElem? (i := 1583) (by decide +kernel), List.mem_of_getElem? (i := 1584) (by decide +kernel)⟩
theorem lw_p73 : lw_okq (⟨"RoadHolidaysModel", "isTurned", "(I)Z"⟩, 50) := ⟨⟨by decide +kernel, by decide +kernel⟩, List.mem_of_getElem? (i := 1240) (by decide +kernel), List.mem_of_getElem? (i := 1587) (by decide +kernel), List.mem_of_getElem? (i := 1588) (by decide +kernel)⟩
theorem lw_p74 : lw_okq (⟨"RoadHolidaysModel", "dayGoes", "()V"⟩, 50) := ⟨⟨by decide +kernel, by decide +kernel⟩, List.mem_of_getElem? (i := 1240) (by decide +kernel), List.mem_of_getElem? (i := 1591) (by decide +kernel), List.mem_of_getElem? (i := 1592) (by decide +kernel)⟩
theorem lw_p75 : lw_okq (⟨"RoadHolidaysModel", "paceBy", "(I)I"⟩, 50) := ⟨⟨by decide +kernel, by decide +kernel⟩, List.mem_of_getElem? (i := 1240) (by decide +kernel), List.mem_of_getElem? (i := 1595) (by decide +kernel), List.mem_of_getElem? (i := 1596) (by decide +kernel)⟩
theorem lw_p76 : lw_okq (⟨"RoadHolidaysModel", "rests", "(II)Z"⟩, 50) := ⟨⟨by decide +kernel, by decide +kernel⟩, List.mem_of_getElem? (i := 1240) (by decide +kernel), List.mem_of_getElem? (i := 1599) (by decide +kernel), List.mem_of_getElem? (i := 1600) (by decide +kernel)⟩
theorem lw_p77 : lw_okq (⟨"RoadHolidaysModel", "cartersOn", "(I)I"⟩, 50) := ⟨⟨by decide +kernel, by decide +kernel⟩, List.mem_of_getElem? (i := 1240) (by decide +kernel), List.mem_of_getElem? (i := 1606) (by decide +kernel), List.mem_of_getElem? (i := 1607) (by decide +kernel)⟩
theorem lw_p78 : lw_okq (⟨"RoadHolidaysModel", "paceOf", "(IIIIIIII)I"⟩, 50) := ⟨⟨by decide +kernel, by decide +kernel⟩, List.mem_of_getElem? (i := 1240) (by decide +kernel), List.mem_of_getElem? (i := 1613) (by decide +kernel), List.mem_of_getElem? (i := 1614) (by decide +kernel)⟩
theorem lw_p79 : lw_okq (⟨"RoadHolidaysModel", "paceNow", "()I"⟩, 50) := ⟨⟨by decide +kernel, by decide +kernel⟩, List.mem_of_getElem? (i := 1240) (by decide +kernel), List.mem_of_getElem? (i := 1617) (by decide +kernel), List.mem_of_getElem? (i := 1618) (by decide +kernel)⟩
def lw_privs_5 : List (MethodName × Nat) := [(⟨"RoadHolidaysModel", "readStep", "()V"⟩, 50), (⟨"RoadHolidaysModel", "readAgain", "()V"⟩, 50), (⟨"RoadHolidaysModel", "tellsStep", "(III)V"⟩, 50), (⟨"RoadHolidaysModel", "take", "()V"⟩, 50), (⟨"RoadHolidaysModel", "goesSteps", "(II)V"⟩, 50), (⟨"RoadHolidaysModel", "isDone", "(III)Z"⟩, 50), (⟨"RoadHolidaysModel", "isSet", "(II)Z"⟩, 50), (⟨"RoadHolidaysModel", "goesFrom", "(II)Z"⟩, 50), (⟨"RoadHolidaysModel", "otherOf", "(II)I"⟩, 50), (⟨"RoadHolidaysModel", "isTurned", "(I)Z"⟩, 50), (⟨"RoadHolidaysModel", "dayGoes", "()V"⟩, 50), (⟨"RoadHolidaysModel", "paceBy", "(I)I"⟩, 50), (⟨"RoadHolidaysModel", "rests", "(II)Z"⟩, 50), (⟨"RoadHolidaysModel", "cartersOn", "(I)I"⟩, 50), (⟨"RoadHolidaysModel", "paceOf", "(IIIIIIII)I"⟩, 50), (⟨"RoadHolidaysModel", "paceNow", "()I"⟩, 50)]
theorem lw_r5 : ∀ q ∈ lw_privs_5, lw_okq q := List.forall_mem_cons.mpr ⟨lw_p64, List.forall_mem_cons.mpr ⟨lw_p65, List.forall_mem_cons.mpr ⟨lw_p66, List.forall_mem_cons.mpr ⟨lw_p67, List.forall_mem_cons.mpr ⟨lw_p68, List.forall_mem_cons.mpr ⟨lw_p69, List.forall_mem_cons.mpr ⟨lw_p70, List.forall_mem_cons.mpr ⟨lw_p71, List.forall_mem_cons.mpr ⟨lw_p72, List.forall_mem_cons.mpr ⟨lw_p73, List.forall_mem_cons.mpr ⟨lw_p74, List.forall_mem_cons.mpr ⟨lw_p75, List.forall_mem_cons.mpr ⟨lw_p76, List.forall_mem_cons.mpr ⟨lw_p77, List.forall_mem_cons.mpr ⟨lw_p78, List.forall_mem_cons.mpr ⟨lw_p79, fun _ h => absurd h List.not_mem_nil⟩⟩⟩⟩⟩⟩⟩⟩⟩⟩⟩⟩⟩⟩⟩⟩
theorem lw_p80 : lw_okq (⟨"RoadHolidaysModel", "valueNow", "()I"⟩, 50) := ⟨⟨by decide +kernel, by decide +kernel⟩, List.mem_of_getElem? (i := 1240) (by decide +kernel), List.mem_of_getElem? (i := 1621) (by decide +kernel), List.mem_of_getElem? (i := 1622) (by decide +kernel)⟩
theorem lw_p81 : lw_okq (⟨"RoadHolidaysModel", "onRoads", "()I"⟩, 50) := ⟨⟨by decide +kernel, by decide +kernel⟩, List.mem_of_getElem? (i := 1240) (by decide +kernel), List.mem_of_getElem? (i := 1643) (by decide +kernel), List.mem_of_getElem? (i := 1644) (by decide +kernel)⟩
theorem lw_p82 : lw_okq (⟨"RoadHolidaysModel", "resting", "()I"⟩, 50) := ⟨⟨by decide +kernel, by decide +kernel⟩, List.mem_of_getElem? (i := 1240) (by decide +kernel), List.mem_of_getElem? (i := 1647) (by decide +kernel), List.mem_of_getElem? (i := 1648) (by decide +kernel)⟩
theorem lw_p83 : lw_okq (⟨"RoadHolidaysModel", "isTown", "(I)Z"⟩, 50) := ⟨⟨by decide +kernel, by decide +kernel⟩, List.mem_of_getElem? (i := 1240) (by decide +kernel), List.mem_of_getElem? (i := 1655) (by decide +kernel), List.mem_of_getElem? (i := 1656) (by decide +kernel)⟩
theorem lw_p84 : lw_okq (⟨"RoadHolidaysModel", "isRoad", "(I)Z"⟩, 50) := ⟨⟨by decide +kernel, by decide +kernel⟩, List.mem_of_getElem? (i := 1240) (by decide +kernel), List.mem_of_getElem? (i := 1663) (by decide +kernel), List.mem_of_getElem? (i := 1664) (by decide +kernel)⟩
theorem lw_p85 : lw_okq (⟨"RoadHolidaysModel", "plainOf", "(I)I"⟩, 50) := ⟨⟨by decide +kernel, by decide +kernel⟩, List.mem_of_getElem? (i := 1240) (by decide +kernel), List.mem_of_getElem? (i := 1667) (by decide +kernel), List.mem_of_getElem? (i := 1668) (by decide +kernel)⟩
theorem lw_p86 : lw_okq (⟨"RoadHolidaysModel", "isCarter", "(I)Z"⟩, 50) := ⟨⟨by decide +kernel, by decide +kernel⟩, List.mem_of_getElem? (i := 1240) (by decide +kernel), List.mem_of_getElem? (i := 1675) (by decide +kernel), List.mem_of_getElem? (i := 1676) (by decide +kernel)⟩
theorem lw_p87 : lw_okq (⟨"RoadHolidaysModel", "laysPlain", "()V"⟩, 50) := ⟨⟨by decide +kernel, by decide +kernel⟩, List.mem_of_getElem? (i := 1240) (by decide +kernel), List.mem_of_getElem? (i := 1687) (by decide +kernel), List.mem_of_getElem? (i := 1688) (by decide +kernel)⟩
theorem lw_p88 : lw_okq (⟨"RoadHolidaysModel", "takenOf", "(III)I"⟩, 50) := ⟨⟨by decide +kernel, by decide +kernel⟩, List.mem_of_getElem? (i := 1240) (by decide +kernel), List.mem_of_getElem? (i := 1691) (by decide +kernel), List.mem_of_getElem? (i := 1692) (by decide +kernel)⟩
theorem lw_p89 : lw_okq (⟨"RoadHolidaysModel", "soonOf", "(III)I"⟩, 50) := ⟨⟨by decide +kernel, by decide +kernel⟩, List.mem_of_getElem? (i := 1240) (by decide +kernel), List.mem_of_getElem? (i := 1699) (by decide +kernel), List.mem_of_getElem? (i := 1700) (by decide +kernel)⟩
theorem lw_p90 : lw_okq (⟨"RoadHolidaysModel", "laysSoon", "(II)V"⟩, 50) := ⟨⟨by decide +kernel, by decide +kernel⟩, List.mem_of_getElem? (i := 1240) (by decide +kernel), List.mem_of_getElem? (i := 1703) (by decide +kernel), List.mem_of_getElem? (i := 1704) (by decide +kernel)⟩
theorem lw_p91 : lw_okq (⟨"RoadHolidaysModel", "lastRoad", "(II)I"⟩, 50) := ⟨⟨by decide +kernel, by decide +kernel⟩, List.mem_of_getElem? (i := 1240) (by decide +kernel), List.mem_of_getElem? (i := 1711) (by decide +kernel), List.mem_of_getElem? (i := 1712) (by decide +kernel)⟩
theorem lw_p92 : lw_okq (⟨"RoadHolidaysModel", "areJoined", "(I)Z"⟩, 50) := ⟨⟨by decide +kernel, by decide +kernel⟩, List.mem_of_getElem? (i := 1240) (by decide +kernel), List.mem_of_getElem? (i := 1735) (by decide +kernel), List.mem_of_getElem? (i := 1736) (by decide +kernel)⟩
theorem lw_p93 : lw_okq (⟨"RoadHolidaysModel", "goingOn", "(I)I"⟩, 50) := ⟨⟨by decide +kernel, by decide +kernel⟩, List.mem_of_getElem? (i := 1240) (by decide +kernel), List.mem_of_getElem? (i := 1739) (by decide +kernel), List.mem_of_getElem? (i := 1740) (by decide +kernel)⟩
theorem lw_p94 : lw_okq (⟨"RoadHolidaysModel", "cameTo", "(II)I"⟩, 50) := ⟨⟨by decide +kernel, by decide +kernel⟩, List.mem_of_getElem? (i := 1240) (by decide +kernel), List.mem_of_getElem? (i := 1743) (by decide +kernel), List.mem_of_getElem? (i := 1744) (by decide +kernel)⟩
theorem lw_p95 : lw_okq (⟨"RoadHolidaysModel", "joinedDays", "()I"⟩, 50) := ⟨⟨by decide +kernel, by decide +kernel⟩, List.mem_of_getElem? (i := 1240) (by decide +kernel), List.mem_of_getElem? (i := 1755) (by decide +kernel), List.mem_of_getElem? (i := 1756) (by decide +kernel)⟩
def lw_privs_6 : List (MethodName × Nat) := [(⟨"RoadHolidaysModel", "valueNow", "()I"⟩, 50), (⟨"RoadHolidaysModel", "onRoads", "()I"⟩, 50), (⟨"RoadHolidaysModel", "resting", "()I"⟩, 50), (⟨"RoadHolidaysModel", "isTown", "(I)Z"⟩, 50), (⟨"RoadHolidaysModel", "isRoad", "(I)Z"⟩, 50), (⟨"RoadHolidaysModel", "plainOf", "(I)I"⟩, 50), (⟨"RoadHolidaysModel", "isCarter", "(I)Z"⟩, 50), (⟨"RoadHolidaysModel", "laysPlain", "()V"⟩, 50), (⟨"RoadHolidaysModel", "takenOf", "(III)I"⟩, 50), (⟨"RoadHolidaysModel", "soonOf", "(III)I"⟩, 50), (⟨"RoadHolidaysModel", "laysSoon", "(II)V"⟩, 50), (⟨"RoadHolidaysModel", "lastRoad", "(II)I"⟩, 50), (⟨"RoadHolidaysModel", "areJoined", "(I)Z"⟩, 50), (⟨"RoadHolidaysModel", "goingOn", "(I)I"⟩, 50), (⟨"RoadHolidaysModel", "cameTo", "(II)I"⟩, 50), (⟨"RoadHolidaysModel", "joinedDays", "()I"⟩, 50)]
theorem lw_r6 : ∀ q ∈ lw_privs_6, lw_okq q := List.forall_mem_cons.mpr ⟨lw_p80, List.forall_mem_cons.mpr ⟨lw_p81, List.forall_mem_cons.mpr ⟨lw_p82, List.forall_mem_cons.mpr ⟨lw_p83, List.forall_mem_cons.mpr ⟨lw_p84, List.forall_mem_cons.mpr ⟨lw_p85, List.forall_mem_cons.mpr ⟨lw_p86, List.forall_mem_cons.mpr ⟨lw_p87, List.forall_mem_cons.mpr ⟨lw_p88, List.forall_mem_cons.mpr ⟨lw_p89, List.forall_mem_cons.mpr ⟨lw_p90, List.forall_mem_cons.mpr ⟨lw_p91, List.forall_mem_cons.mpr ⟨lw_p92, List.forall_mem_cons.mpr ⟨lw_p93, List.forall_mem_cons.mpr ⟨lw_p94, List.forall_mem_cons.mpr ⟨lw_p95, fun _ h => absurd h List.not_mem_nil⟩⟩⟩⟩⟩⟩⟩⟩⟩⟩⟩⟩⟩⟩⟩⟩
theorem lw_p96 : lw_okq (⟨"RoadHolidaysModel", "fitBits", "(I)I"⟩, 50) := ⟨⟨by decide +kernel, by decide +kernel⟩, List.mem_of_getElem? (i := 1240) (by decide +kernel), List.mem_of_getElem? (i := 1767) (by decide +kernel), List.mem_of_getElem? (i := 1768) (by decide +kernel)⟩
theorem lw_p97 : lw_okq (⟨"RoadHolidaysModel", "milesBy", "(III)I"⟩, 50) := ⟨⟨by decide +kernel, by decide +kernel⟩, List.mem_of_getElem? (i := 1240) (by decide +kernel), List.mem_of_getElem? (i := 1771) (by decide +kernel), List.mem_of_getElem? (i := 1772) (by decide +kernel)⟩
theorem lw_p98 : lw_okq (⟨"RoadHolidaysModel", "isWritten", "(I)Z"⟩, 50) := ⟨⟨by decide +kernel, by decide +kernel⟩, List.mem_of_getElem? (i := 1240) (by decide +kernel), List.mem_of_getElem? (i := 1779) (by decide +kernel), List.mem_of_getElem? (i := 1780) (by decide +kernel)⟩
theorem lw_p99 : lw_okq (⟨"RoadHolidaysModel", "worstOf", "(III)I"⟩, 50) := ⟨⟨by decide +kernel, by decide +kernel⟩, List.mem_of_getElem? (i := 1240) (by decide +kernel), List.mem_of_getElem? (i := 1783) (by decide +kernel), List.mem_of_getElem? (i := 1784) (by decide +kernel)⟩
theorem lw_p100 : lw_okq (⟨"RoadHolidaysModel", "oatsBy", "(II)I"⟩, 50) := ⟨⟨by decide +kernel, by decide +kernel⟩, List.mem_of_getElem? (i := 1240) (by decide +kernel), List.mem_of_getElem? (i := 1806) (by decide +kernel), List.mem_of_getElem? (i := 1807) (by decide +kernel)⟩
theorem lw_p101 : lw_okq (⟨"RoadHolidaysModel", "bounded", "(II)I"⟩, 50) := ⟨⟨by decide +kernel, by decide +kernel⟩, List.mem_of_getElem? (i := 1240) (by decide +kernel), List.mem_of_getElem? (i := 1810) (by decide +kernel), List.mem_of_getElem? (i := 1811) (by decide +kernel)⟩
theorem lw_p102 : lw_okq (⟨"RoadHolidaysModel", "yearGoes", "(III)V"⟩, 50) := ⟨⟨by decide +kernel, by decide +kernel⟩, List.mem_of_getElem? (i := 1240) (by decide +kernel), List.mem_of_getElem? (i := 1829) (by decide +kernel), List.mem_of_getElem? (i := 1830) (by decide +kernel)⟩
theorem lw_p103 : lw_okq (⟨"RoadHolidaysModel", "draws", "(I)I"⟩, 50) := ⟨⟨by decide +kernel, by decide +kernel⟩, List.mem_of_getElem? (i := 1240) (by decide +kernel), List.mem_of_getElem? (i := 1833) (by decide +kernel), List.mem_of_getElem? (i := 1834) (by decide +kernel)⟩
theorem lw_p104 : lw_okq (⟨"RoadHolidaysModel", "keepsAll", "(IZ)V"⟩, 50) := ⟨⟨by decide +kernel, by decide +kernel⟩, List.mem_of_getElem? (i := 1240) (by decide +kernel), List.mem_of_getElem? (i := 1846) (by decide +kernel), List.mem_of_getElem? (i := 1847) (by decide +kernel)⟩
theorem lw_p105 : lw_okq (⟨"RoadHolidaysModel", "keepsRow", "(I[IIZ)I"⟩, 50) := ⟨⟨by decide +kernel, by decide +kernel⟩, List.mem_of_getElem? (i := 1240) (by decide +kernel), List.mem_of_getElem? (i := 1850) (by decide +kernel), List.mem_of_getElem? (i := 1851) (by decide +kernel)⟩
def lw_privs_7 : List (MethodName × Nat) := [(⟨"RoadHolidaysModel", "fitBits", "(I)I"⟩, 50), (⟨"RoadHolidaysModel", "milesBy", "(III)I"⟩, 50), (⟨"RoadHolidaysModel", "isWritten", "(I)Z"⟩, 50), (⟨"RoadHolidaysModel", "worstOf", "(III)I"⟩, 50), (⟨"RoadHolidaysModel", "oatsBy", "(II)I"⟩, 50), (⟨"RoadHolidaysModel", "bounded", "(II)I"⟩, 50), (⟨"RoadHolidaysModel", "yearGoes", "(III)V"⟩, 50), (⟨"RoadHolidaysModel", "draws", "(I)I"⟩, 50), (⟨"RoadHolidaysModel", "keepsAll", "(IZ)V"⟩, 50), (⟨"RoadHolidaysModel", "keepsRow", "(I[IIZ)I"⟩, 50)]
theorem lw_r7 : ∀ q ∈ lw_privs_7, lw_okq q := List.forall_mem_cons.mpr ⟨lw_p96, List.forall_mem_cons.mpr ⟨lw_p97, List.forall_mem_cons.mpr ⟨lw_p98, List.forall_mem_cons.mpr ⟨lw_p99, List.forall_mem_cons.mpr ⟨lw_p100, List.forall_mem_cons.mpr ⟨lw_p101, List.forall_mem_cons.mpr ⟨lw_p102, List.forall_mem_cons.mpr ⟨lw_p103, List.forall_mem_cons.mpr ⟨lw_p104, List.forall_mem_cons.mpr ⟨lw_p105, fun _ h => absurd h List.not_mem_nil⟩⟩⟩⟩⟩⟩⟩⟩⟩⟩
def lw_privs : List (MethodName × Nat) := lw_privs_1 ++ (lw_privs_2 ++ (lw_privs_3 ++ (lw_privs_4 ++ (lw_privs_5 ++ (lw_privs_6 ++ (lw_privs_7))))))
def lw_tbl : List Cond := k2_sels lw_privs ++ tables_1
theorem lw_privs_ok : ∀ q ∈ lw_privs, lw_okq q := by
  show ∀ q ∈ lw_privs_1 ++ (lw_privs_2 ++ (lw_privs_3 ++ (lw_privs_4 ++ (lw_privs_5 ++ (lw_privs_6 ++ (lw_privs_7)))))), lw_okq q
  exact List.forall_mem_append.mpr ⟨lw_r1, List.forall_mem_append.mpr ⟨lw_r2, List.forall_mem_append.mpr ⟨lw_r3, List.forall_mem_append.mpr ⟨lw_r4, List.forall_mem_append.mpr ⟨lw_r5, List.forall_mem_append.mpr ⟨lw_r6, lw_r7⟩⟩⟩⟩⟩⟩
def RX0 : String := "RoadHolidays$Book"
def TX0 : u_T := fun k => match k with
  | 0 => ("RoadHolidays$Book", "hours", "[I", true)
  | 1 => ("RoadHolidays$Book", "gone", "[I", true)
  | 2 => ("RoadHolidays$Book", "goneByOff", "[I", true)
  | 3 => ("RoadHolidays$Book", "lines", "I", false)
  | 4 => ("RoadHolidays$Book", "bestHour", "I", false)
  | _ => ("RoadHolidays$Book", "bestLeft", "I", false)
def tyX0 : Nat → FieldType := fun k => match k with
  | 0 => .array .int
  | 1 => .array .int
  | 2 => .array .int
  | 3 => .int
  | 4 => .int
  | _ => .int
theorem nmX0 : ∀ a, a < 6 → ∀ b, b < 6 → a ≠ b → (TX0 a).2.1 ≠ (TX0 b).2.1 := by decide +kernel
theorem tyX0_ok : ∀ k, k < 6 → parseFieldDescriptor (TX0 k).2.2.1 = some (tyX0 k) := by decide +kernel
abbrev cX0_init : ByteArray := prog_2_method_1_code
def yX0_init : MethodName := ⟨RX0, "<init>", "()V"⟩
abbrev cX0_begin : ByteArray := prog_2_method_2_code
def yX0_begin : MethodName := ⟨RX0, "begin", "()V"⟩
abbrev cX0_readFrom : ByteArray := prog_2_method_3_code
def yX0_readFrom : MethodName := ⟨RX0, "readFrom", "(LRoadHolidays$Tape;)Z"⟩
abbrev cX0_readLine : ByteArray := prog_2_method_4_code
def yX0_readLine : MethodName := ⟨RX0, "readLine", "(LRoadHolidays$Tape;)Z"⟩
abbrev cX0_isTold : ByteArray := prog_2_method_5_code
def yX0_isTold : MethodName := ⟨RX0, "isTold", "(I)Z"⟩
abbrev cX0_dayLater : ByteArray := prog_2_method_6_code
def yX0_dayLater : MethodName := ⟨RX0, "dayLater", "(IIII)I"⟩
abbrev cX0_fitting : ByteArray := prog_2_method_7_code
def yX0_fitting : MethodName := ⟨RX0, "fitting", "(II)I"⟩
abbrev cX0_lookFor : ByteArray := prog_2_method_8_code
def yX0_lookFor : MethodName := ⟨RX0, "lookFor", "(II)V"⟩
abbrev cX0_mostAlike : ByteArray := prog_2_method_9_code
def yX0_mostAlike : MethodName := ⟨RX0, "mostAlike", "(I)I"⟩
def RX1 : String := "RoadHolidays$Joins"
def TX1 : u_T := fun k => match k with
  | _ => ("", "", "", false)
def tyX1 : Nat → FieldType := fun k => match k with
  | _ => .int
theorem nmX1 : ∀ a, a < 0 → ∀ b, b < 0 → a ≠ b → (TX1 a).2.1 ≠ (TX1 b).2.1 := by decide +kernel
theorem tyX1_ok : ∀ k, k < 0 → parseFieldDescriptor (TX1 k).2.2.1 = some (tyX1 k) := by decide +kernel
abbrev cX1_resting : ByteArray := prog_3_method_2_code
def yX1_resting : MethodName := ⟨RX1, "resting", "(LRoadHolidays$Land;LRoadHolidays$Scene;I)I"⟩
abbrev cX1_going : ByteArray := prog_3_method_3_code
def yX1_going : MethodName := ⟨RX1, "going", "(LRoadHolidays$Land;LRoadHolidays$Scene;I)I"⟩
abbrev cX1_joins : ByteArray := prog_3_method_4_code
def yX1_joins : MethodName := ⟨RX1, "joins", "(LRoadHolidays$Land;I)Z"⟩
abbrev cX1_joinedDays : ByteArray := prog_3_method_5_code
def yX1_joinedDays : MethodName := ⟨RX1, "joinedDays", "(LRoadHolidays$Land;LRoadHolidays$Scene;)I"⟩
abbrev cX1_daysIfChanged : ByteArray := prog_3_method_6_code
def yX1_daysIfChanged : MethodName := ⟨RX1, "daysIfChanged", "(LRoadHolidays$Land;LRoadHolidays$Scene;III)I"⟩
abbrev cX1_fewestCut : ByteArray := prog_3_method_7_code
def yX1_fewestCut : MethodName := ⟨RX1, "fewestCut", "(LRoadHolidays$Land;III)I"⟩
abbrev cX1_mostApart : ByteArray := prog_3_method_8_code
def yX1_mostApart : MethodName := ⟨RX1, "mostApart", "(LRoadHolidays$Land;I)I"⟩
abbrev cX1_mostApartFrom : ByteArray := prog_3_method_9_code
def yX1_mostApartFrom : MethodName := ⟨RX1, "mostApartFrom", "(LRoadHolidays$Land;III)I"⟩
def RX2 : String := "RoadHolidays$Land"
def TX2 : u_T := fun k => match k with
  | 0 => ("RoadHolidays$Land", "oneEnd", "[I", true)
  | 1 => ("RoadHolidays$Land", "otherEnd", "[I", true)
  | 2 => ("RoadHolidays$Land", "miles", "[I", true)
  | 3 => ("RoadHolidays$Land", "toldOff", "[I", true)
  | 4 => ("RoadHolidays$Land", "toldTown", "[I", true)
  | 5 => ("RoadHolidays$Land", "toldLoad", "[I", true)
  | 6 => ("RoadHolidays$Land", "towns", "I", false)
  | 7 => ("RoadHolidays$Land", "roads", "I", false)
  | _ => ("RoadHolidays$Land", "carters", "I", false)
def tyX2 : Nat → FieldType := fun k => match k with
  | 0 => .array .int
  | 1 => .array .int
  | 2 => .array .int
  | 3 => .array .int
  | 4 => .array .int
  | 5 => .array .int
  | 6 => .int
  | 7 => .int
  | _ => .int
theorem nmX2 : ∀ a, a < 9 → ∀ b, b < 9 → a ≠ b → (TX2 a).2.1 ≠ (TX2 b).2.1 := by decide +kernel
theorem tyX2_ok : ∀ k, k < 9 → parseFieldDescriptor (TX2 k).2.2.1 = some (tyX2 k) := by decide +kernel
abbrev cX2_init : ByteArray := prog_4_method_1_code
def yX2_init : MethodName := ⟨RX2, "<init>", "()V"⟩
abbrev cX2_readFrom : ByteArray := prog_4_method_2_code
def yX2_readFrom : MethodName := ⟨RX2, "readFrom", "(LRoadHolidays$Tape;)Z"⟩
abbrev cX2_readClause : ByteArray := prog_4_method_3_code
def yX2_readClause : MethodName := ⟨RX2, "readClause", "(LRoadHolidays$Tape;)Z"⟩
abbrev cX2_addTown : ByteArray := prog_4_method_4_code
def yX2_addTown : MethodName := ⟨RX2, "addTown", "(LRoadHolidays$Tape;)Z"⟩
abbrev cX2_addRoad : ByteArray := prog_4_method_5_code
def yX2_addRoad : MethodName := ⟨RX2, "addRoad", "(LRoadHolidays$Tape;)Z"⟩
abbrev cX2_addCarter : ByteArray := prog_4_method_6_code
def yX2_addCarter : MethodName := ⟨RX2, "addCarter", "(LRoadHolidays$Tape;)Z"⟩
abbrev cX2_touches : ByteArray := prog_4_method_7_code
def yX2_touches : MethodName := ⟨RX2, "touches", "(II)Z"⟩
abbrev cX2_acrossFrom : ByteArray := prog_4_method_8_code
def yX2_acrossFrom : MethodName := ⟨RX2, "acrossFrom", "(II)I"⟩
abbrev cX2_endsAsBits : ByteArray := prog_4_method_9_code
def yX2_endsAsBits : MethodName := ⟨RX2, "endsAsBits", "(I)I"⟩
abbrev cX2_roadsFrom : ByteArray := prog_4_method_10_code
def yX2_roadsFrom : MethodName := ⟨RX2, "roadsFrom", "(I)I"⟩
def RX3 : String := "RoadHolidays$Law"
def TX3 : u_T := fun k => match k with
  | 0 => ("RoadHolidays$Law", "kinds", "[I", true)
  | 1 => ("RoadHolidays$Law", "values", "[I", true)
  | 2 => ("RoadHolidays$Law", "stack", "[I", true)
  | 3 => ("RoadHolidays$Law", "given", "[I", true)
  | _ => ("RoadHolidays$Law", "size", "I", false)
def tyX3 : Nat → FieldType := fun k => match k with
  | 0 => .array .int
  | 1 => .array .int
  | 2 => .array .int
  | 3 => .array .int
  | _ => .int
theorem nmX3 : ∀ a, a < 5 → ∀ b, b < 5 → a ≠ b → (TX3 a).2.1 ≠ (TX3 b).2.1 := by decide +kernel
theorem tyX3_ok : ∀ k, k < 5 → parseFieldDescriptor (TX3 k).2.2.1 = some (tyX3 k) := by decide +kernel
abbrev cX3_init : ByteArray := prog_5_method_1_code
def yX3_init : MethodName := ⟨RX3, "<init>", "()V"⟩
abbrev cX3_begin : ByteArray := prog_5_method_2_code
def yX3_begin : MethodName := ⟨RX3, "begin", "()V"⟩
abbrev cX3_readFrom : ByteArray := prog_5_method_3_code
def yX3_readFrom : MethodName := ⟨RX3, "readFrom", "(LRoadHolidays$Tape;)Z"⟩
abbrev cX3_put : ByteArray := prog_5_method_4_code
def yX3_put : MethodName := ⟨RX3, "put", "(II)Z"⟩
abbrev cX3_readSum : ByteArray := prog_5_method_5_code
def yX3_readSum : MethodName := ⟨RX3, "readSum", "(LRoadHolidays$Tape;I)Z"⟩
abbrev cX3_readProduct : ByteArray := prog_5_method_6_code
def yX3_readProduct : MethodName := ⟨RX3, "readProduct", "(LRoadHolidays$Tape;I)Z"⟩
abbrev cX3_readUnit : ByteArray := prog_5_method_7_code
def yX3_readUnit : MethodName := ⟨RX3, "readUnit", "(LRoadHolidays$Tape;I)Z"⟩
abbrev cX3_opens : ByteArray := prog_5_method_8_code
def yX3_opens : MethodName := ⟨RX3, "opens", "(LRoadHolidays$Tape;I)Z"⟩
abbrev cX3_readTwo : ByteArray := prog_5_method_9_code
def yX3_readTwo : MethodName := ⟨RX3, "readTwo", "(LRoadHolidays$Tape;I)Z"⟩
abbrev cX3_readGiven : ByteArray := prog_5_method_10_code
def yX3_readGiven : MethodName := ⟨RX3, "readGiven", "(LRoadHolidays$Tape;)I"⟩
abbrev cX3_pace : ByteArray := prog_5_method_11_code
def yX3_pace : MethodName := ⟨RX3, "pace", "()I"⟩
abbrev cX3_outOf : ByteArray := prog_5_method_12_code
def yX3_outOf : MethodName := ⟨RX3, "outOf", "(III)I"⟩
abbrev cX3_plainPace : ByteArray := prog_5_method_13_code
def yX3_plainPace : MethodName := ⟨RX3, "plainPace", "(LRoadHolidays$Land;I)I"⟩
def RX4 : String := "RoadHolidays$Past"
def TX4 : u_T := fun k => match k with
  | 0 => ("RoadHolidays$Past", "workRows", "[[I", true)
  | 1 => ("RoadHolidays$Past", "imageRows", "[[I", true)
  | 2 => ("RoadHolidays$Past", "imageWorks", "[I", true)
  | 3 => ("RoadHolidays$Past", "works", "I", false)
  | _ => ("RoadHolidays$Past", "images", "I", false)
def tyX4 : Nat → FieldType := fun k => match k with
  | 0 => .array (.array .int)
  | 1 => .array (.array .int)
  | 2 => .array .int
  | 3 => .int
  | _ => .int
theorem nmX4 : ∀ a, a < 5 → ∀ b, b < 5 → a ≠ b → (TX4 a).2.1 ≠ (TX4 b).2.1 := by decide +kernel
theorem tyX4_ok : ∀ k, k < 5 → parseFieldDescriptor (TX4 k).2.2.1 = some (tyX4 k) := by decide +kernel
abbrev cX4_init : ByteArray := prog_6_method_1_code
def yX4_init : MethodName := ⟨RX4, "<init>", "()V"⟩
abbrev cX4_begin : ByteArray := prog_6_method_2_code
def yX4_begin : MethodName := ⟨RX4, "begin", "()V"⟩
abbrev cX4_keepWork : ByteArray := prog_6_method_3_code
def yX4_keepWork : MethodName := ⟨RX4, "keepWork", "(LRoadHolidays$Scene;)V"⟩
abbrev cX4_takeWorkBack : ByteArray := prog_6_method_4_code
def yX4_takeWorkBack : MethodName := ⟨RX4, "takeWorkBack", "(LRoadHolidays$Scene;)V"⟩
abbrev cX4_keepImage : ByteArray := prog_6_method_5_code
def yX4_keepImage : MethodName := ⟨RX4, "keepImage", "(LRoadHolidays$Scene;)V"⟩
abbrev cX4_takeImageBack : ByteArray := prog_6_method_6_code
def yX4_takeImageBack : MethodName := ⟨RX4, "takeImageBack", "(LRoadHolidays$Scene;)V"⟩
def RX5 : String := "RoadHolidays$Scene"
def TX5 : u_T := fun k => match k with
  | 0 => ("RoadHolidays$Scene", "off", "[I", true)
  | 1 => ("RoadHolidays$Scene", "tired", "[I", true)
  | 2 => ("RoadHolidays$Scene", "to", "[I", true)
  | 3 => ("RoadHolidays$Scene", "from", "[I", true)
  | 4 => ("RoadHolidays$Scene", "on", "[I", true)
  | 5 => ("RoadHolidays$Scene", "gone", "[I", true)
  | 6 => ("RoadHolidays$Scene", "load", "[I", true)
  | 7 => ("RoadHolidays$Scene", "copy", "[I", true)
  | 8 => ("RoadHolidays$Scene", "hour", "I", false)
  | 9 => ("RoadHolidays$Scene", "came", "I", false)
  | _ => ("RoadHolidays$Scene", "seed", "I", false)
def tyX5 : Nat → FieldType := fun k => match k with
  | 0 => .array .int
  | 1 => .array .int
  | 2 => .array .int
  | 3 => .array .int
  | 4 => .array .int
  | 5 => .array .int
  | 6 => .array .int
  | 7 => .array .int
  | 8 => .int
  | 9 => .int
  | _ => .int
theorem nmX5 : ∀ a, a < 11 → ∀ b, b < 11 → a ≠ b → (TX5 a).2.1 ≠ (TX5 b).2.1 := by decide +kernel
theorem tyX5_ok : ∀ k, k < 11 → parseFieldDescriptor (TX5 k).2.2.1 = some (tyX5 k) := by decide +kernel
abbrev cX5_init : ByteArray := prog_7_method_1_code
def yX5_init : MethodName := ⟨RX5, "<init>", "()V"⟩
abbrev cX5_begin : ByteArray := prog_7_method_2_code
def yX5_begin : MethodName := ⟨RX5, "begin", "(LRoadHolidays$Land;)V"⟩
abbrev cX5_saveIn : ByteArray := prog_7_method_3_code
def yX5_saveIn : MethodName := ⟨RX5, "saveIn", "([I)V"⟩
abbrev cX5_takeFrom : ByteArray := prog_7_method_4_code
def yX5_takeFrom : MethodName := ⟨RX5, "takeFrom", "([I)V"⟩
abbrev cX5_become : ByteArray := prog_7_method_5_code
def yX5_become : MethodName := ⟨RX5, "become", "(LRoadHolidays$Scene;)V"⟩
abbrev cX5_weekDay : ByteArray := prog_7_method_6_code
def yX5_weekDay : MethodName := ⟨RX5, "weekDay", "()I"⟩
abbrev cX5_rests : ByteArray := prog_7_method_7_code
def yX5_rests : MethodName := ⟨RX5, "rests", "(I)Z"⟩
abbrev cX5_travellers : ByteArray := prog_7_method_8_code
def yX5_travellers : MethodName := ⟨RX5, "travellers", "(LRoadHolidays$Land;)I"⟩
abbrev cX5_cartersIn : ByteArray := prog_7_method_9_code
def yX5_cartersIn : MethodName := ⟨RX5, "cartersIn", "(LRoadHolidays$Land;I)I"⟩
abbrev cX5_cartersOn : ByteArray := prog_7_method_10_code
def yX5_cartersOn : MethodName := ⟨RX5, "cartersOn", "(LRoadHolidays$Land;I)I"⟩
abbrev cX5_tiredTogether : ByteArray := prog_7_method_11_code
def yX5_tiredTogether : MethodName := ⟨RX5, "tiredTogether", "(LRoadHolidays$Land;)I"⟩
abbrev cX5_paceNow : ByteArray := prog_7_method_12_code
def yX5_paceNow : MethodName := ⟨RX5, "paceNow", "(LRoadHolidays$Land;LRoadHolidays$Law;I)I"⟩
abbrev cX5_setOut : ByteArray := prog_7_method_13_code
def yX5_setOut : MethodName := ⟨RX5, "setOut", "(LRoadHolidays$Land;II)Z"⟩
abbrev cX5_turnRound : ByteArray := prog_7_method_14_code
def yX5_turnRound : MethodName := ⟨RX5, "turnRound", "(LRoadHolidays$Land;I)Z"⟩
abbrev cX5_loadAnew : ByteArray := prog_7_method_15_code
def yX5_loadAnew : MethodName := ⟨RX5, "loadAnew", "(II)Z"⟩
abbrev cX5_offAnew : ByteArray := prog_7_method_16_code
def yX5_offAnew : MethodName := ⟨RX5, "offAnew", "(II)Z"⟩
abbrev cX5_passHour : ByteArray := prog_7_method_17_code
def yX5_passHour : MethodName := ⟨RX5, "passHour", "(LRoadHolidays$Land;LRoadHolidays$Law;)V"⟩
abbrev cX5_passOn : ByteArray := prog_7_method_18_code
def yX5_passOn : MethodName := ⟨RX5, "passOn", "(LRoadHolidays$Land;LRoadHolidays$Law;I)V"⟩
abbrev cX5_goOn : ByteArray := prog_7_method_19_code
def yX5_goOn : MethodName := ⟨RX5, "goOn", "(III)V"⟩
abbrev cX5_drawHour : ByteArray := prog_7_method_20_code
def yX5_drawHour : MethodName := ⟨RX5, "drawHour", "(LRoadHolidays$Land;I)V"⟩
abbrev cX5_draw : ByteArray := prog_7_method_21_code
def yX5_draw : MethodName := ⟨RX5, "draw", "(I)I"⟩
def RX6 : String := "RoadHolidays$Steps"
def TX6 : u_T := fun k => match k with
  | 0 => ("RoadHolidays$Steps", "kinds", "[I", true)
  | 1 => ("RoadHolidays$Steps", "firsts", "[I", true)
  | 2 => ("RoadHolidays$Steps", "seconds", "[I", true)
  | 3 => ("RoadHolidays$Steps", "turnsLeft", "[I", true)
  | 4 => ("RoadHolidays$Steps", "size", "I", false)
  | 5 => ("RoadHolidays$Steps", "level", "I", false)
  | 6 => ("RoadHolidays$Steps", "done", "I", false)
  | _ => ("RoadHolidays$Steps", "refused", "I", false)
def tyX6 : Nat → FieldType := fun k => match k with
  | 0 => .array .int
  | 1 => .array .int
  | 2 => .array .int
  | 3 => .array .int
  | 4 => .int
  | 5 => .int
  | 6 => .int
  | _ => .int
theorem nmX6 : ∀ a, a < 8 → ∀ b, b < 8 → a ≠ b → (TX6 a).2.1 ≠ (TX6 b).2.1 := by decide +kernel
theorem tyX6_ok : ∀ k, k < 8 → parseFieldDescriptor (TX6 k).2.2.1 = some (tyX6 k) := by decide +kernel
abbrev cX6_init : ByteArray := prog_8_method_1_code
def yX6_init : MethodName := ⟨RX6, "<init>", "()V"⟩
abbrev cX6_readFrom : ByteArray := prog_8_method_2_code
def yX6_readFrom : MethodName := ⟨RX6, "readFrom", "(LRoadHolidays$Tape;LRoadHolidays$Land;)Z"⟩
abbrev cX6_readSteps : ByteArray := prog_8_method_3_code
def yX6_readSteps : MethodName := ⟨RX6, "readSteps", "(LRoadHolidays$Tape;LRoadHolidays$Land;I)Z"⟩
abbrev cX6_readStep : ByteArray := prog_8_method_4_code
def yX6_readStep : MethodName := ⟨RX6, "readStep", "(LRoadHolidays$Tape;LRoadHolidays$Land;I)Z"⟩
abbrev cX6_readTwo : ByteArray := prog_8_method_5_code
def yX6_readTwo : MethodName := ⟨RX6, "readTwo", "(LRoadHolidays$Tape;III)Z"⟩
abbrev cX6_readAgain : ByteArray := prog_8_method_6_code
def yX6_readAgain : MethodName := ⟨RX6, "readAgain", "(LRoadHolidays$Tape;LRoadHolidays$Land;I)Z"⟩
abbrev cX6_put : ByteArray := prog_8_method_7_code
def yX6_put : MethodName := ⟨RX6, "put", "(III)Z"⟩
abbrev cX6_run : ByteArray := prog_8_method_8_code
def yX6_run : MethodName := ⟨RX6, "run", "(LRoadHolidays$Land;LRoadHolidays$Law;LRoadHolidays$Scene;)V"⟩
abbrev cX6_behindAgain : ByteArray := prog_8_method_9_code
def yX6_behindAgain : MethodName := ⟨RX6, "behindAgain", "(I)I"⟩
abbrev cX6_behindTurn : ByteArray := prog_8_method_10_code
def yX6_behindTurn : MethodName := ⟨RX6, "behindTurn", "(I)I"⟩
abbrev cX6_doStep : ByteArray := prog_8_method_11_code
def yX6_doStep : MethodName := ⟨RX6, "doStep", "(LRoadHolidays$Land;LRoadHolidays$Law;LRoadHolidays$Scene;I)Z"⟩
def RX7 : String := "RoadHolidays$Tape"
def TX7 : u_T := fun k => match k with
  | 0 => ("RoadHolidays$Tape", "bytes", "[I", true)
  | 1 => ("RoadHolidays$Tape", "size", "I", false)
  | 2 => ("RoadHolidays$Tape", "end", "I", false)
  | 3 => ("RoadHolidays$Tape", "place", "I", false)
  | 4 => ("RoadHolidays$Tape", "tokenAt", "I", false)
  | 5 => ("RoadHolidays$Tape", "value", "I", false)
  | 6 => ("RoadHolidays$Tape", "faultKind", "I", false)
  | _ => ("RoadHolidays$Tape", "faultAt", "I", false)
def tyX7 : Nat → FieldType := fun k => match k with
  | 0 => .array .int
  | 1 => .int
  | 2 => .int
  | 3 => .int
  | 4 => .int
  | 5 => .int
  | 6 => .int
  | _ => .int
theorem nmX7 : ∀ a, a < 8 → ∀ b, b < 8 → a ≠ b → (TX7 a).2.1 ≠ (TX7 b).2.1 := by decide +kernel
theorem tyX7_ok : ∀ k, k < 8 → parseFieldDescriptor (TX7 k).2.2.1 = some (tyX7 k) := by decide +kernel
abbrev cX7_init : ByteArray := prog_9_method_1_code
def yX7_init : MethodName := ⟨RX7, "<init>", "()V"⟩
abbrev cX7_put : ByteArray := prog_9_method_2_code
def yX7_put : MethodName := ⟨RX7, "put", "(I)V"⟩
abbrev cX7_open : ByteArray := prog_9_method_3_code
def yX7_open : MethodName := ⟨RX7, "open", "(I)V"⟩
abbrev cX7_moveTo : ByteArray := prog_9_method_4_code
def yX7_moveTo : MethodName := ⟨RX7, "moveTo", "(I)V"⟩
abbrev cX7_ends : ByteArray := prog_9_method_5_code
def yX7_ends : MethodName := ⟨RX7, "ends", "()Z"⟩
abbrev cX7_stands : ByteArray := prog_9_method_6_code
def yX7_stands : MethodName := ⟨RX7, "stands", "(C)Z"⟩
abbrev cX7_digitStands : ByteArray := prog_9_method_7_code
def yX7_digitStands : MethodName := ⟨RX7, "digitStands", "()Z"⟩
abbrev cX7_isDigit : ByteArray := prog_9_method_8_code
def yX7_isDigit : MethodName := ⟨RX7, "isDigit", "(I)Z"⟩
abbrev cX7_isLetter : ByteArray := prog_9_method_9_code
def yX7_isLetter : MethodName := ⟨RX7, "isLetter", "(I)Z"⟩
abbrev cX7_takes : ByteArray := prog_9_method_10_code
def yX7_takes : MethodName := ⟨RX7, "takes", "(C)Z"⟩
abbrev cX7_needs : ByteArray := prog_9_method_11_code
def yX7_needs : MethodName := ⟨RX7, "needs", "(C)Z"⟩
abbrev cX7_takesWord : ByteArray := prog_9_method_12_code
def yX7_takesWord : MethodName := ⟨RX7, "takesWord", "(Ljava/lang/String;)Z"⟩
abbrev cX7_needsNumber : ByteArray := prog_9_method_13_code
def yX7_needsNumber : MethodName := ⟨RX7, "needsNumber", "(II)Z"⟩
abbrev cX7_failHere : ByteArray := prog_9_method_14_code
def yX7_failHere : MethodName := ⟨RX7, "failHere", "(I)Z"⟩
abbrev cX7_failAtToken : ByteArray := prog_9_method_15_code
def yX7_failAtToken : MethodName := ⟨RX7, "failAtToken", "(I)Z"⟩
def RX8 : String := "RoadHolidays$Ways"
def TX8 : u_T := fun k => match k with
  | 0 => ("RoadHolidays$Ways", "paces", "[I", true)
  | 1 => ("RoadHolidays$Ways", "soonest", "[I", true)
  | 2 => ("RoadHolidays$Ways", "many", "I", false)
  | 3 => ("RoadHolidays$Ways", "first", "I", false)
  | _ => ("RoadHolidays$Ways", "last", "I", false)
def tyX8 : Nat → FieldType := fun k => match k with
  | 0 => .array .int
  | 1 => .array .int
  | 2 => .int
  | 3 => .int
  | _ => .int
theorem nmX8 : ∀ a, a < 5 → ∀ b, b < 5 → a ≠ b → (TX8 a).2.1 ≠ (TX8 b).2.1 := by decide +kernel
theorem tyX8_ok : ∀ k, k < 5 → parseFieldDescriptor (TX8 k).2.2.1 = some (tyX8 k) := by decide +kernel
abbrev cX8_init : ByteArray := prog_10_method_1_code
def yX8_init : MethodName := ⟨RX8, "<init>", "()V"⟩
abbrev cX8_taken : ByteArray := prog_10_method_2_code
def yX8_taken : MethodName := ⟨RX8, "taken", "(IIII)I"⟩
abbrev cX8_measure : ByteArray := prog_10_method_3_code
def yX8_measure : MethodName := ⟨RX8, "measure", "(LRoadHolidays$Land;LRoadHolidays$Law;)V"⟩
abbrev cX8_search : ByteArray := prog_10_method_4_code
def yX8_search : MethodName := ⟨RX8, "search", "(LRoadHolidays$Land;LRoadHolidays$Scene;II)V"⟩
abbrev cX8_nearest : ByteArray := prog_10_method_5_code
def yX8_nearest : MethodName := ⟨RX8, "nearest", "(LRoadHolidays$Land;I)I"⟩
abbrev cX8_leave : ByteArray := prog_10_method_6_code
def yX8_leave : MethodName := ⟨RX8, "leave", "(LRoadHolidays$Land;LRoadHolidays$Scene;II)V"⟩
abbrev cX8_by : ByteArray := prog_10_method_7_code
def yX8_by : MethodName := ⟨RX8, "by", "(LRoadHolidays$Land;LRoadHolidays$Scene;III)I"⟩
abbrev cX8_trace : ByteArray := prog_10_method_8_code
def yX8_trace : MethodName := ⟨RX8, "trace", "(LRoadHolidays$Land;LRoadHolidays$Scene;II)V"⟩
abbrev cX8_lastRoad : ByteArray := prog_10_method_9_code
def yX8_lastRoad : MethodName := ⟨RX8, "lastRoad", "(LRoadHolidays$Land;LRoadHolidays$Scene;II)I"⟩
def RX9 : String := "RoadHolidays"
def TX9 : u_T := fun k => match k with
  | 0 => ("RoadHolidays", "tape", "LRoadHolidays$Tape;", true)
  | 1 => ("RoadHolidays", "steps", "LRoadHolidays$Steps;", true)
  | 2 => ("RoadHolidays", "now", "LRoadHolidays$Scene;", true)
  | 3 => ("RoadHolidays", "trial", "LRoadHolidays$Scene;", true)
  | 4 => ("RoadHolidays", "past", "LRoadHolidays$Past;", true)
  | 5 => ("RoadHolidays", "ways", "LRoadHolidays$Ways;", true)
  | 6 => ("RoadHolidays", "land", "LRoadHolidays$Land;", false)
  | 7 => ("RoadHolidays", "spareLand", "LRoadHolidays$Land;", false)
  | 8 => ("RoadHolidays", "law", "LRoadHolidays$Law;", false)
  | 9 => ("RoadHolidays", "spareLaw", "LRoadHolidays$Law;", false)
  | 10 => ("RoadHolidays", "book", "LRoadHolidays$Book;", false)
  | 11 => ("RoadHolidays", "spareBook", "LRoadHolidays$Book;", false)
  | 12 => ("RoadHolidays", "faultAt", "I", false)
  | 13 => ("RoadHolidays", "refusedSteps", "I", false)
  | 14 => ("RoadHolidays", "noSuchCalls", "I", false)
  | _ => ("RoadHolidays", "wrongCalls", "I", false)
def tyX9 : Nat → FieldType := fun k => match k with
  | 0 => .object "RoadHolidays$Tape"
  | 1 => .object "RoadHolidays$Steps"
  | 2 => .object "RoadHolidays$Scene"
  | 3 => .object "RoadHolidays$Scene"
  | 4 => .object "RoadHolidays$Past"
  | 5 => .object "RoadHolidays$Ways"
  | 6 => .object "RoadHolidays$Land"
  | 7 => .object "RoadHolidays$Land"
  | 8 => .object "RoadHolidays$Law"
  | 9 => .object "RoadHolidays$Law"
  | 10 => .object "RoadHolidays$Book"
  | 11 => .object "RoadHolidays$Book"
  | 12 => .int
  | 13 => .int
  | 14 => .int
  | _ => .int
theorem nmX9 : ∀ a, a < 16 → ∀ b, b < 16 → a ≠ b → (TX9 a).2.1 ≠ (TX9 b).2.1 := by decide +kernel
theorem tyX9_ok : ∀ k, k < 16 → parseFieldDescriptor (TX9 k).2.2.1 = some (tyX9 k) := by decide +kernel
abbrev cX9_init : ByteArray := prog_1_method_1_code
def yX9_init : MethodName := ⟨RX9, "<init>", "()V"⟩
abbrev cX9_feed : ByteArray := prog_1_method_2_code
def yX9_feed : MethodName := ⟨RX9, "feed", "(IIIII)I"⟩
abbrev cX9_land : ByteArray := prog_1_method_3_code
def yX9_land : MethodName := ⟨RX9, "land", "(I)I"⟩
abbrev cX9_law : ByteArray := prog_1_method_4_code
def yX9_law : MethodName := ⟨RX9, "law", "(I)I"⟩
abbrev cX9_work : ByteArray := prog_1_method_5_code
def yX9_work : MethodName := ⟨RX9, "work", "(I)I"⟩
abbrev cX9_book : ByteArray := prog_1_method_6_code
def yX9_book : MethodName := ⟨RX9, "book", "(I)I"⟩
abbrev cX9_fault : ByteArray := prog_1_method_7_code
def yX9_fault : MethodName := ⟨RX9, "fault", "()I"⟩
abbrev cX9_undo : ByteArray := prog_1_method_8_code
def yX9_undo : MethodName := ⟨RX9, "undo", "()I"⟩
abbrev cX9_told : ByteArray := prog_1_method_9_code
def yX9_told : MethodName := ⟨RX9, "told", "(I)I"⟩
abbrev cX9_town : ByteArray := prog_1_method_10_code
def yX9_town : MethodName := ⟨RX9, "town", "(II)I"⟩
abbrev cX9_road : ByteArray := prog_1_method_11_code
def yX9_road : MethodName := ⟨RX9, "road", "(II)I"⟩
abbrev cX9_carter : ByteArray := prog_1_method_12_code
def yX9_carter : MethodName := ⟨RX9, "carter", "(II)I"⟩
abbrev cX9_would : ByteArray := prog_1_method_13_code
def yX9_would : MethodName := ⟨RX9, "would", "(IIIIIIII)I"⟩
abbrev cX9_lasts : ByteArray := prog_1_method_14_code
def yX9_lasts : MethodName := ⟨RX9, "lasts", "(II)I"⟩
abbrev cX9_soon : ByteArray := prog_1_method_15_code
def yX9_soon : MethodName := ⟨RX9, "soon", "(III)I"⟩
abbrev cX9_way : ByteArray := prog_1_method_16_code
def yX9_way : MethodName := ⟨RX9, "way", "(IIII)I"⟩
abbrev cX9_latest : ByteArray := prog_1_method_17_code
def yX9_latest : MethodName := ⟨RX9, "latest", "(IIII)I"⟩
abbrev cX9_day : ByteArray := prog_1_method_18_code
def yX9_day : MethodName := ⟨RX9, "day", "(III)I"⟩
abbrev cX9_farthest : ByteArray := prog_1_method_19_code
def yX9_farthest : MethodName := ⟨RX9, "farthest", "(I)I"⟩
abbrev cX9_joined : ByteArray := prog_1_method_20_code
def yX9_joined : MethodName := ⟨RX9, "joined", "(I)Z"⟩
abbrev cX9_part : ByteArray := prog_1_method_21_code
def yX9_part : MethodName := ⟨RX9, "part", "(III)I"⟩
abbrev cX9_mend : ByteArray := prog_1_method_22_code
def yX9_mend : MethodName := ⟨RX9, "mend", "(I)I"⟩
abbrev cX9_picnic : ByteArray := prog_1_method_23_code
def yX9_picnic : MethodName := ⟨RX9, "picnic", "(I)I"⟩
abbrev cX9_fits : ByteArray := prog_1_method_24_code
def yX9_fits : MethodName := ⟨RX9, "fits", "(I)I"⟩
abbrev cX9_look : ByteArray := prog_1_method_25_code
def yX9_look : MethodName := ⟨RX9, "look", "(II)I"⟩
abbrev cX9_inn : ByteArray := prog_1_method_26_code
def yX9_inn : MethodName := ⟨RX9, "inn", "(III)I"⟩
abbrev cX9_innShare : ByteArray := prog_1_method_27_code
def yX9_innShare : MethodName := ⟨RX9, "innShare", "(IIII)I"⟩
abbrev cX9_luck : ByteArray := prog_1_method_28_code
def yX9_luck : MethodName := ⟨RX9, "luck", "(IIII)J"⟩
abbrev cX9_power : ByteArray := prog_1_method_29_code
def yX9_power : MethodName := ⟨RX9, "power", "(II)J"⟩
abbrev cX9_oats : ByteArray := prog_1_method_30_code
def yX9_oats : MethodName := ⟨RX9, "oats", "(III)I"⟩
abbrev cX9_given : ByteArray := prog_1_method_31_code
def yX9_given : MethodName := ⟨RX9, "given", "(II)I"⟩
abbrev cX9_weariest : ByteArray := prog_1_method_32_code
def yX9_weariest : MethodName := ⟨RX9, "weariest", "(I)I"⟩
abbrev cX9_arrives : ByteArray := prog_1_method_33_code
def yX9_arrives : MethodName := ⟨RX9, "arrives", "(I)I"⟩
abbrev cX9_reach : ByteArray := prog_1_method_34_code
def yX9_reach : MethodName := ⟨RX9, "reach", "(II)I"⟩
abbrev cX9_year : ByteArray := prog_1_method_35_code
def yX9_year : MethodName := ⟨RX9, "year", "(IIII)I"⟩
abbrev cX9_span : ByteArray := prog_1_method_36_code
def yX9_span : MethodName := ⟨RX9, "span", "(IIIIII)I"⟩
abbrev cX9_liveYear : ByteArray := prog_1_method_37_code
def yX9_liveYear : MethodName := ⟨RX9, "liveYear", "(III)V"⟩
abbrev cX9_image : ByteArray := prog_1_method_38_code
def yX9_image : MethodName := ⟨RX9, "image", "()I"⟩
abbrev cX9_restore : ByteArray := prog_1_method_39_code
def yX9_restore : MethodName := ⟨RX9, "restore", "()I"⟩
abbrev cX9_status : ByteArray := prog_1_method_40_code
def yX9_status : MethodName := ⟨RX9, "status", "(I)I"⟩
abbrev cX9_count : ByteArray := prog_1_method_41_code
def yX9_count : MethodName := ⟨RX9, "count", "(I)I"⟩
abbrev cX9_within : ByteArray := prog_1_method_42_code
def yX9_within : MethodName := ⟨RX9, "within", "(III)Z"⟩
abbrev cX9_require : ByteArray := prog_1_method_43_code
def yX9_require : MethodName := ⟨RX9, "require", "(Z)V"⟩
abbrev cX9_requireWeekDay : ByteArray := prog_1_method_44_code
def yX9_requireWeekDay : MethodName := ⟨RX9, "requireWeekDay", "(I)V"⟩
abbrev cX9_requireThere : ByteArray := prog_1_method_45_code
def yX9_requireThere : MethodName := ⟨RX9, "requireThere", "(II)V"⟩
abbrev cX9_requireTown : ByteArray := prog_1_method_46_code
def yX9_requireTown : MethodName := ⟨RX9, "requireTown", "(I)V"⟩
abbrev cX9_requireRoad : ByteArray := prog_1_method_47_code
def yX9_requireRoad : MethodName := ⟨RX9, "requireRoad", "(I)V"⟩
abbrev cX9_requireCarter : ByteArray := prog_1_method_48_code
def yX9_requireCarter : MethodName := ⟨RX9, "requireCarter", "(I)V"⟩
abbrev cX9_openText : ByteArray := prog_1_method_49_code
def yX9_openText : MethodName := ⟨RX9, "openText", "(II)V"⟩
abbrev cX9_faulty : ByteArray := prog_1_method_50_code
def yX9_faulty : MethodName := ⟨RX9, "faulty", "()I"⟩
def RX10 : String := "RoadHolidaysModel"
def TX10 : u_T := fun k => match k with
  | 0 => ("RoadHolidaysModel", "thrown", "I", false)
  | 1 => ("RoadHolidaysModel", "refused", "[I", true)
  | 2 => ("RoadHolidaysModel", "taped", "I", false)
  | 3 => ("RoadHolidaysModel", "size", "I", false)
  | 4 => ("RoadHolidaysModel", "at", "I", false)
  | 5 => ("RoadHolidaysModel", "bad", "I", false)
  | 6 => ("RoadHolidaysModel", "badKind", "I", false)
  | 7 => ("RoadHolidaysModel", "opens", "I", false)
  | 8 => ("RoadHolidaysModel", "faultAt", "I", false)
  | 9 => ("RoadHolidaysModel", "tape", "[I", true)
  | 10 => ("RoadHolidaysModel", "newRoad", "[I", true)
  | 11 => ("RoadHolidaysModel", "newCarter", "[I", true)
  | 12 => ("RoadHolidaysModel", "road", "[I", true)
  | 13 => ("RoadHolidaysModel", "carter", "[I", true)
  | 14 => ("RoadHolidaysModel", "newTowns", "I", false)
  | 15 => ("RoadHolidaysModel", "newRoads", "I", false)
  | 16 => ("RoadHolidaysModel", "newCarters", "I", false)
  | 17 => ("RoadHolidaysModel", "towns", "I", false)
  | 18 => ("RoadHolidaysModel", "roads", "I", false)
  | 19 => ("RoadHolidaysModel", "carters", "I", false)
  | 20 => ("RoadHolidaysModel", "newCode", "[I", true)
  | 21 => ("RoadHolidaysModel", "newOf", "[I", true)
  | 22 => ("RoadHolidaysModel", "code", "[I", true)
  | 23 => ("RoadHolidaysModel", "ofCode", "[I", true)
  | 24 => ("RoadHolidaysModel", "stack", "[I", true)
  | 25 => ("RoadHolidaysModel", "newCodes", "I", false)
  | 26 => ("RoadHolidaysModel", "codes", "I", false)
  | 27 => ("RoadHolidaysModel", "facts", "[I", true)
  | 28 => ("RoadHolidaysModel", "newStep", "[I", true)
  | 29 => ("RoadHolidaysModel", "step", "[I", true)
  | 30 => ("RoadHolidaysModel", "newSteps", "I", false)
  | 31 => ("RoadHolidaysModel", "works", "I", false)
  | 32 => ("RoadHolidaysModel", "refusedSteps", "I", false)
  | 33 => ("RoadHolidaysModel", "begun", "I", false)
  | 34 => ("RoadHolidaysModel", "done", "I", false)
  | 35 => ("RoadHolidaysModel", "refusedNow", "I", false)
  | 36 => ("RoadHolidaysModel", "now", "[I", true)
  | 37 => ("RoadHolidaysModel", "s", "[I", true)
  | 38 => ("RoadHolidaysModel", "past", "[I", true)
  | 39 => ("RoadHolidaysModel", "paceNowBy", "[I", true)
  | 40 => ("RoadHolidaysModel", "newBook", "[I", true)
  | 41 => ("RoadHolidaysModel", "book", "[I", true)
  | 42 => ("RoadHolidaysModel", "written", "I", false)
  | 43 => ("RoadHolidaysModel", "plainBy", "[I", true)
  | 44 => ("RoadHolidaysModel", "soonBy", "[I", true)
  | 45 => ("RoadHolidaysModel", "settled", "[I", true)
  | 46 => ("RoadHolidaysModel", "luckBy", "[J", true)
  | 47 => ("RoadHolidaysModel", "seedNow", "I", false)
  | 48 => ("RoadHolidaysModel", "image", "[I", true)
  | _ => ("RoadHolidaysModel", "images", "I", false)
def tyX10 : Nat → FieldType := fun k => match k with
  | 0 => .int
  | 1 => .array .int
  | 2 => .int
  | 3 => .int
  | 4 => .int
  | 5 => .int
  | 6 => .int
  | 7 => .int
  | 8 => .int
  | 9 => .array .int
  | 10 => .array .int
  | 11 => .array .int
  | 12 => .array .int
  | 13 => .array .int
  | 14 => .int
  | 15 => .int
  | 16 => .int
  | 17 => .int
  | 18 => .int
  | 19 => .int
  | 20 => .array .int
  | 21 => .array .int
  | 22 => .array .int
  | 23 => .array .int
  | 24 => .array .int
  | 25 => .int
  | 26 => .int
  | 27 => .array .int
  | 28 => .array .int
  | 29 => .array .int
  | 30 => .int
  | 31 => .int
  | 32 => .int
  | 33 => .int
  | 34 => .int
  | 35 => .int
  | 36 => .array .int
  | 37 => .array .int
  | 38 => .array .int
  | 39 => .array .int
  | 40 => .array .int
  | 41 => .array .int
  | 42 => .int
  | 43 => .array .int
  | 44 => .array .int
  | 45 => .array .int
  | 46 => .array .long
  | 47 => .int
  | 48 => .array .int
  | _ => .int
theorem nmX10 : ∀ a, a < 50 → ∀ b, b < 50 → a ≠ b → (TX10 a).2.1 ≠ (TX10 b).2.1 := by decide +kernel
theorem tyX10_ok : ∀ k, k < 50 → parseFieldDescriptor (TX10 k).2.2.1 = some (tyX10 k) := by decide +kernel
abbrev cX10_thrown : ByteArray := prog_12_method_1_code
def yX10_thrown : MethodName := ⟨RX10, "thrown", "()I"⟩
abbrev cX10_may : ByteArray := prog_12_method_2_code
def yX10_may : MethodName := ⟨RX10, "may", "(ZII)Z"⟩
abbrev cX10_within : ByteArray := prog_12_method_3_code
def yX10_within : MethodName := ⟨RX10, "within", "(III)Z"⟩
abbrev cX10_init : ByteArray := prog_12_method_4_code
def yX10_init : MethodName := ⟨RX10, "<init>", "()V"⟩
abbrev cX10_feed : ByteArray := prog_12_method_5_code
def yX10_feed : MethodName := ⟨RX10, "feed", "(IIIII)I"⟩
abbrev cX10_fine : ByteArray := prog_12_method_6_code
def yX10_fine : MethodName := ⟨RX10, "fine", "()Z"⟩
abbrev cX10_wrong : ByteArray := prog_12_method_7_code
def yX10_wrong : MethodName := ⟨RX10, "wrong", "(II)V"⟩
abbrev cX10_here : ByteArray := prog_12_method_8_code
def yX10_here : MethodName := ⟨RX10, "here", "()I"⟩
abbrev cX10_isSmall : ByteArray := prog_12_method_9_code
def yX10_isSmall : MethodName := ⟨RX10, "isSmall", "(I)Z"⟩
abbrev cX10_isDigit : ByteArray := prog_12_method_10_code
def yX10_isDigit : MethodName := ⟨RX10, "isDigit", "(I)Z"⟩
abbrev cX10_word : ByteArray := prog_12_method_11_code
def yX10_word : MethodName := ⟨RX10, "word", "()I"⟩
abbrev cX10_of : ByteArray := prog_12_method_12_code
def yX10_of : MethodName := ⟨RX10, "of", "(Ljava/lang/String;)I"⟩
abbrev cX10_pass : ByteArray := prog_12_method_13_code
def yX10_pass : MethodName := ⟨RX10, "pass", "()V"⟩
abbrev cX10_readNumber : ByteArray := prog_12_method_14_code
def yX10_readNumber : MethodName := ⟨RX10, "readNumber", "(II)I"⟩
abbrev cX10_sign : ByteArray := prog_12_method_15_code
def yX10_sign : MethodName := ⟨RX10, "sign", "(I)V"⟩
abbrev cX10_isMore : ByteArray := prog_12_method_16_code
def yX10_isMore : MethodName := ⟨RX10, "isMore", "()Z"⟩
abbrev cX10_begins : ByteArray := prog_12_method_17_code
def yX10_begins : MethodName := ⟨RX10, "begins", "(I)V"⟩
abbrev cX10_result : ByteArray := prog_12_method_18_code
def yX10_result : MethodName := ⟨RX10, "result", "(I)I"⟩
abbrev cX10_fault : ByteArray := prog_12_method_19_code
def yX10_fault : MethodName := ⟨RX10, "fault", "()I"⟩
abbrev cX10_copies : ByteArray := prog_12_method_20_code
def yX10_copies : MethodName := ⟨RX10, "copies", "([I[II)V"⟩
abbrev cX10_clears : ByteArray := prog_12_method_21_code
def yX10_clears : MethodName := ⟨RX10, "clears", "()V"⟩
abbrev cX10_sets : ByteArray := prog_12_method_22_code
def yX10_sets : MethodName := ⟨RX10, "sets", "()V"⟩
abbrev cX10_isRow : ByteArray := prog_12_method_23_code
def yX10_isRow : MethodName := ⟨RX10, "isRow", "(I)Z"⟩
abbrev cX10_isFull : ByteArray := prog_12_method_24_code
def yX10_isFull : MethodName := ⟨RX10, "isFull", "(I)Z"⟩
abbrev cX10_readTown : ByteArray := prog_12_method_25_code
def yX10_readTown : MethodName := ⟨RX10, "readTown", "()I"⟩
abbrev cX10_readRoad : ByteArray := prog_12_method_26_code
def yX10_readRoad : MethodName := ⟨RX10, "readRoad", "()V"⟩
abbrev cX10_readRow : ByteArray := prog_12_method_27_code
def yX10_readRow : MethodName := ⟨RX10, "readRow", "(I)V"⟩
abbrev cX10_land : ByteArray := prog_12_method_28_code
def yX10_land : MethodName := ⟨RX10, "land", "(I)I"⟩
abbrev cX10_emit : ByteArray := prog_12_method_29_code
def yX10_emit : MethodName := ⟨RX10, "emit", "(II)V"⟩
abbrev cX10_opensOne : ByteArray := prog_12_method_30_code
def yX10_opensOne : MethodName := ⟨RX10, "opensOne", "(I)V"⟩
abbrev cX10_readSum : ByteArray := prog_12_method_31_code
def yX10_readSum : MethodName := ⟨RX10, "readSum", "()V"⟩
abbrev cX10_readProduct : ByteArray := prog_12_method_32_code
def yX10_readProduct : MethodName := ⟨RX10, "readProduct", "()V"⟩
abbrev cX10_readTwo : ByteArray := prog_12_method_33_code
def yX10_readTwo : MethodName := ⟨RX10, "readTwo", "(II)V"⟩
abbrev cX10_factHere : ByteArray := prog_12_method_34_code
def yX10_factHere : MethodName := ⟨RX10, "factHere", "()I"⟩
abbrev cX10_readUnit : ByteArray := prog_12_method_35_code
def yX10_readUnit : MethodName := ⟨RX10, "readUnit", "()V"⟩
abbrev cX10_law : ByteArray := prog_12_method_36_code
def yX10_law : MethodName := ⟨RX10, "law", "(I)I"⟩
abbrev cX10_valueNow : ByteArray := prog_12_method_37_code
def yX10_valueNow : MethodName := ⟨RX10, "valueNow", "()I"⟩
abbrev cX10_both : ByteArray := prog_12_method_38_code
def yX10_both : MethodName := ⟨RX10, "both", "(III)I"⟩
abbrev cX10_paceNow : ByteArray := prog_12_method_39_code
def yX10_paceNow : MethodName := ⟨RX10, "paceNow", "()I"⟩
abbrev cX10_tellsStep : ByteArray := prog_12_method_40_code
def yX10_tellsStep : MethodName := ⟨RX10, "tellsStep", "(III)V"⟩
abbrev cX10_stepOf : ByteArray := prog_12_method_41_code
def yX10_stepOf : MethodName := ⟨RX10, "stepOf", "(I)I"⟩
abbrev cX10_readAgain : ByteArray := prog_12_method_42_code
def yX10_readAgain : MethodName := ⟨RX10, "readAgain", "()V"⟩
abbrev cX10_readStep : ByteArray := prog_12_method_43_code
def yX10_readStep : MethodName := ⟨RX10, "readStep", "()V"⟩
abbrev cX10_work : ByteArray := prog_12_method_44_code
def yX10_work : MethodName := ⟨RX10, "work", "(I)I"⟩
abbrev cX10_goesSteps : ByteArray := prog_12_method_45_code
def yX10_goesSteps : MethodName := ⟨RX10, "goesSteps", "(II)V"⟩
abbrev cX10_take : ByteArray := prog_12_method_46_code
def yX10_take : MethodName := ⟨RX10, "take", "()V"⟩
abbrev cX10_dayOf : ByteArray := prog_12_method_47_code
def yX10_dayOf : MethodName := ⟨RX10, "dayOf", "(I)I"⟩
abbrev cX10_rests : ByteArray := prog_12_method_48_code
def yX10_rests : MethodName := ⟨RX10, "rests", "(II)Z"⟩
abbrev cX10_cartersOn : ByteArray := prog_12_method_49_code
def yX10_cartersOn : MethodName := ⟨RX10, "cartersOn", "(I)I"⟩
abbrev cX10_ones : ByteArray := prog_12_method_50_code
def yX10_ones : MethodName := ⟨RX10, "ones", "(I)I"⟩
abbrev cX10_paceOf : ByteArray := prog_12_method_51_code
def yX10_paceOf : MethodName := ⟨RX10, "paceOf", "(IIIIIIII)I"⟩
abbrev cX10_paceBy : ByteArray := prog_12_method_52_code
def yX10_paceBy : MethodName := ⟨RX10, "paceBy", "(I)I"⟩
abbrev cX10_plainOf : ByteArray := prog_12_method_53_code
def yX10_plainOf : MethodName := ⟨RX10, "plainOf", "(I)I"⟩
abbrev cX10_otherOf : ByteArray := prog_12_method_54_code
def yX10_otherOf : MethodName := ⟨RX10, "otherOf", "(II)I"⟩
abbrev cX10_goesFrom : ByteArray := prog_12_method_55_code
def yX10_goesFrom : MethodName := ⟨RX10, "goesFrom", "(II)Z"⟩
abbrev cX10_isSet : ByteArray := prog_12_method_56_code
def yX10_isSet : MethodName := ⟨RX10, "isSet", "(II)Z"⟩
abbrev cX10_isTurned : ByteArray := prog_12_method_57_code
def yX10_isTurned : MethodName := ⟨RX10, "isTurned", "(I)Z"⟩
abbrev cX10_dayGoes : ByteArray := prog_12_method_58_code
def yX10_dayGoes : MethodName := ⟨RX10, "dayGoes", "()V"⟩
abbrev cX10_isDone : ByteArray := prog_12_method_59_code
def yX10_isDone : MethodName := ⟨RX10, "isDone", "(III)Z"⟩
abbrev cX10_book : ByteArray := prog_12_method_60_code
def yX10_book : MethodName := ⟨RX10, "book", "(I)I"⟩
abbrev cX10_undo : ByteArray := prog_12_method_61_code
def yX10_undo : MethodName := ⟨RX10, "undo", "()I"⟩
abbrev cX10_onRoads : ByteArray := prog_12_method_62_code
def yX10_onRoads : MethodName := ⟨RX10, "onRoads", "()I"⟩
abbrev cX10_resting : ByteArray := prog_12_method_63_code
def yX10_resting : MethodName := ⟨RX10, "resting", "()I"⟩
abbrev cX10_told : ByteArray := prog_12_method_64_code
def yX10_told : MethodName := ⟨RX10, "told", "(I)I"⟩
abbrev cX10_isTown : ByteArray := prog_12_method_65_code
def yX10_isTown : MethodName := ⟨RX10, "isTown", "(I)Z"⟩
abbrev cX10_isRoad : ByteArray := prog_12_method_66_code
def yX10_isRoad : MethodName := ⟨RX10, "isRoad", "(I)Z"⟩
abbrev cX10_isCarter : ByteArray := prog_12_method_67_code
def yX10_isCarter : MethodName := ⟨RX10, "isCarter", "(I)Z"⟩
abbrev cX10_town : ByteArray := prog_12_method_68_code
def yX10_town : MethodName := ⟨RX10, "town", "(II)I"⟩
abbrev cX10_road : ByteArray := prog_12_method_69_code
def yX10_road : MethodName := ⟨RX10, "road", "(II)I"⟩
abbrev cX10_carter : ByteArray := prog_12_method_70_code
def yX10_carter : MethodName := ⟨RX10, "carter", "(II)I"⟩
abbrev cX10_would : ByteArray := prog_12_method_71_code
def yX10_would : MethodName := ⟨RX10, "would", "(IIIIIIII)I"⟩
abbrev cX10_laysPlain : ByteArray := prog_12_method_72_code
def yX10_laysPlain : MethodName := ⟨RX10, "laysPlain", "()V"⟩
abbrev cX10_takenOf : ByteArray := prog_12_method_73_code
def yX10_takenOf : MethodName := ⟨RX10, "takenOf", "(III)I"⟩
abbrev cX10_lasts : ByteArray := prog_12_method_74_code
def yX10_lasts : MethodName := ⟨RX10, "lasts", "(II)I"⟩
abbrev cX10_laysSoon : ByteArray := prog_12_method_75_code
def yX10_laysSoon : MethodName := ⟨RX10, "laysSoon", "(II)V"⟩
abbrev cX10_soonOf : ByteArray := prog_12_method_76_code
def yX10_soonOf : MethodName := ⟨RX10, "soonOf", "(III)I"⟩
abbrev cX10_soon : ByteArray := prog_12_method_77_code
def yX10_soon : MethodName := ⟨RX10, "soon", "(III)I"⟩
abbrev cX10_lastRoad : ByteArray := prog_12_method_78_code
def yX10_lastRoad : MethodName := ⟨RX10, "lastRoad", "(II)I"⟩
abbrev cX10_way : ByteArray := prog_12_method_79_code
def yX10_way : MethodName := ⟨RX10, "way", "(IIII)I"⟩
abbrev cX10_latest : ByteArray := prog_12_method_80_code
def yX10_latest : MethodName := ⟨RX10, "latest", "(IIII)I"⟩
abbrev cX10_day : ByteArray := prog_12_method_81_code
def yX10_day : MethodName := ⟨RX10, "day", "(III)I"⟩
abbrev cX10_farthest : ByteArray := prog_12_method_82_code
def yX10_farthest : MethodName := ⟨RX10, "farthest", "(I)I"⟩
abbrev cX10_reach : ByteArray := prog_12_method_83_code
def yX10_reach : MethodName := ⟨RX10, "reach", "(II)I"⟩
abbrev cX10_goingOn : ByteArray := prog_12_method_84_code
def yX10_goingOn : MethodName := ⟨RX10, "goingOn", "(I)I"⟩
abbrev cX10_cameTo : ByteArray := prog_12_method_85_code
def yX10_cameTo : MethodName := ⟨RX10, "cameTo", "(II)I"⟩
abbrev cX10_areJoined : ByteArray := prog_12_method_86_code
def yX10_areJoined : MethodName := ⟨RX10, "areJoined", "(I)Z"⟩
abbrev cX10_joinedDays : ByteArray := prog_12_method_87_code
def yX10_joinedDays : MethodName := ⟨RX10, "joinedDays", "()I"⟩
abbrev cX10_joined : ByteArray := prog_12_method_88_code
def yX10_joined : MethodName := ⟨RX10, "joined", "(I)Z"⟩
abbrev cX10_part : ByteArray := prog_12_method_89_code
def yX10_part : MethodName := ⟨RX10, "part", "(III)I"⟩
abbrev cX10_mend : ByteArray := prog_12_method_90_code
def yX10_mend : MethodName := ⟨RX10, "mend", "(I)I"⟩
abbrev cX10_picnic : ByteArray := prog_12_method_91_code
def yX10_picnic : MethodName := ⟨RX10, "picnic", "(I)I"⟩
abbrev cX10_milesBy : ByteArray := prog_12_method_92_code
def yX10_milesBy : MethodName := ⟨RX10, "milesBy", "(III)I"⟩
abbrev cX10_fitBits : ByteArray := prog_12_method_93_code
def yX10_fitBits : MethodName := ⟨RX10, "fitBits", "(I)I"⟩
abbrev cX10_fits : ByteArray := prog_12_method_94_code
def yX10_fits : MethodName := ⟨RX10, "fits", "(I)I"⟩
abbrev cX10_worstOf : ByteArray := prog_12_method_95_code
def yX10_worstOf : MethodName := ⟨RX10, "worstOf", "(III)I"⟩
abbrev cX10_isWritten : ByteArray := prog_12_method_96_code
def yX10_isWritten : MethodName := ⟨RX10, "isWritten", "(I)Z"⟩
abbrev cX10_look : ByteArray := prog_12_method_97_code
def yX10_look : MethodName := ⟨RX10, "look", "(II)I"⟩
abbrev cX10_hasBy : ByteArray := prog_12_method_98_code
def yX10_hasBy : MethodName := ⟨RX10, "hasBy", "(IIII)I"⟩
abbrev cX10_inn : ByteArray := prog_12_method_99_code
def yX10_inn : MethodName := ⟨RX10, "inn", "(III)I"⟩
abbrev cX10_least : ByteArray := prog_12_method_100_code
def yX10_least : MethodName := ⟨RX10, "least", "(JJI)J"⟩
abbrev cX10_luck : ByteArray := prog_12_method_101_code
def yX10_luck : MethodName := ⟨RX10, "luck", "(IIII)J"⟩
abbrev cX10_bounded : ByteArray := prog_12_method_102_code
def yX10_bounded : MethodName := ⟨RX10, "bounded", "(II)I"⟩
abbrev cX10_oatsBy : ByteArray := prog_12_method_103_code
def yX10_oatsBy : MethodName := ⟨RX10, "oatsBy", "(II)I"⟩
abbrev cX10_oats : ByteArray := prog_12_method_104_code
def yX10_oats : MethodName := ⟨RX10, "oats", "(III)I"⟩
abbrev cX10_weariest : ByteArray := prog_12_method_105_code
def yX10_weariest : MethodName := ⟨RX10, "weariest", "(I)I"⟩
abbrev cX10_arrives : ByteArray := prog_12_method_106_code
def yX10_arrives : MethodName := ⟨RX10, "arrives", "(I)I"⟩
abbrev cX10_draws : ByteArray := prog_12_method_107_code
def yX10_draws : MethodName := ⟨RX10, "draws", "(I)I"⟩
abbrev cX10_yearGoes : ByteArray := prog_12_method_108_code
def yX10_yearGoes : MethodName := ⟨RX10, "yearGoes", "(III)V"⟩
abbrev cX10_isYear : ByteArray := prog_12_method_109_code
def yX10_isYear : MethodName := ⟨RX10, "isYear", "(II)Z"⟩
abbrev cX10_year : ByteArray := prog_12_method_110_code
def yX10_year : MethodName := ⟨RX10, "year", "(IIII)I"⟩
abbrev cX10_span : ByteArray := prog_12_method_111_code
def yX10_span : MethodName := ⟨RX10, "span", "(IIIIII)I"⟩
abbrev cX10_keepsRow : ByteArray := prog_12_method_112_code
def yX10_keepsRow : MethodName := ⟨RX10, "keepsRow", "(I[IIZ)I"⟩
abbrev cX10_keepsAll : ByteArray := prog_12_method_113_code
def yX10_keepsAll : MethodName := ⟨RX10, "keepsAll", "(IZ)V"⟩
abbrev cX10_image : ByteArray := prog_12_method_114_code
def yX10_image : MethodName := ⟨RX10, "image", "()I"⟩
abbrev cX10_restore : ByteArray := prog_12_method_115_code
def yX10_restore : MethodName := ⟨RX10, "restore", "()I"⟩
abbrev cX10_status : ByteArray := prog_12_method_116_code
def yX10_status : MethodName := ⟨RX10, "status", "(I)I"⟩
abbrev cX10_count : ByteArray := prog_12_method_117_code
def yX10_count : MethodName := ⟨RX10, "count", "(I)I"⟩
def RJ6 : String := "java/lang/Integer"
abbrev cJ6_bitCount_0f7a4 : ByteArray := prog_18_method_49_code
def yJ6_bitCount_0f7a4 : MethodName := ⟨RJ6, "bitCount", "(I)I"⟩
def RJ9 : String := "java/lang/Math"
abbrev cJ9_max_7cf53 : ByteArray := prog_19_method_65_code
def yJ9_max_7cf53 : MethodName := ⟨RJ9, "max", "(II)I"⟩
abbrev cJ9_min_7cf53 : ByteArray := prog_19_method_69_code
def yJ9_min_7cf53 : MethodName := ⟨RJ9, "min", "(II)I"⟩
def RJ0 : String := "java/lang/String"
abbrev cJ0_length_8abf5 : ByteArray := prog_21_method_54_code
def yJ0_length_8abf5 : MethodName := ⟨RJ0, "length", "()I"⟩
abbrev cJ0_charAt_5068e : ByteArray := prog_21_method_56_code
def yJ0_charAt_5068e : MethodName := ⟨RJ0, "charAt", "(I)C"⟩
abbrev cJ0_coder_7d493 : ByteArray := prog_21_method_152_code
def yJ0_coder_7d493 : MethodName := ⟨RJ0, "coder", "()B"⟩
abbrev cJ0_isLatin1_aae02 : ByteArray := prog_21_method_154_code
def yJ0_isLatin1_aae02 : MethodName := ⟨RJ0, "isLatin1", "()Z"⟩
abbrev cJ0_checkIndex_df160 : ByteArray := prog_21_method_155_code
def yJ0_checkIndex_df160 : MethodName := ⟨RJ0, "checkIndex", "(II)V"⟩
def RJ1 : String := "java/lang/StringLatin1"
abbrev cJ1_charAt_3b067 : ByteArray := prog_22_method_2_code
def yJ1_charAt_3b067 : MethodName := ⟨RJ1, "charAt", "([BI)C"⟩
def RJ2 : String := "java/lang/StringUTF16"
abbrev cJ2_getChar_3b067 : ByteArray := prog_23_method_5_code
def yJ2_getChar_3b067 : MethodName := ⟨RJ2, "getChar", "([BI)C"⟩
abbrev cJ2_length_9d52b : ByteArray := prog_23_method_6_code
def yJ2_length_9d52b : MethodName := ⟨RJ2, "length", "([B)I"⟩
abbrev cJ2_charAt_3b067 : ByteArray := prog_23_method_83_code
def yJ2_charAt_3b067 : MethodName := ⟨RJ2, "charAt", "([BI)C"⟩
abbrev cJ2_checkIndex_2214a : ByteArray := prog_23_method_91_code
def yJ2_checkIndex_2214a : MethodName := ⟨RJ2, "checkIndex", "(I[B)V"⟩
def RJ10 : String := "java/lang/System"
def RJ7 : String := "java/util/Arrays"
abbrev cJ7_fill_53178 : ByteArray := prog_28_method_103_code
def yJ7_fill_53178 : MethodName := ⟨RJ7, "fill", "([II)V"⟩
def RJ3 : String := "jdk/internal/util/Preconditions"
abbrev cJ3_checkIndex_8e157 : ByteArray := prog_30_method_11_code
def yJ3_checkIndex_8e157 : MethodName := ⟨RJ3, "checkIndex", "(IILjava/util/function/BiFunction;)I"⟩
def RL : String := "RoadHolidaysLaw"
abbrev cL_land : ByteArray := method_3_code
def yL_land : MethodName := ⟨RL, "land", "(LRoadHolidays;I[J)I"⟩
abbrev cL_law : ByteArray := method_4_code
def yL_law : MethodName := ⟨RL, "law", "(LRoadHolidays;I[J)I"⟩
abbrev cL_work : ByteArray := method_5_code
def yL_work : MethodName := ⟨RL, "work", "(LRoadHolidays;I[J)I"⟩
abbrev cL_book : ByteArray := method_6_code
def yL_book : MethodName := ⟨RL, "book", "(LRoadHolidays;I[J)I"⟩
abbrev cL_told : ByteArray := method_7_code
def yL_told : MethodName := ⟨RL, "told", "(LRoadHolidays;I[J)I"⟩
abbrev cL_town : ByteArray := method_8_code
def yL_town : MethodName := ⟨RL, "town", "(LRoadHolidays;II[J)I"⟩
abbrev cL_road : ByteArray := method_9_code
def yL_road : MethodName := ⟨RL, "road", "(LRoadHolidays;II[J)I"⟩
abbrev cL_carter : ByteArray := method_10_code
def yL_carter : MethodName := ⟨RL, "carter", "(LRoadHolidays;II[J)I"⟩
abbrev cL_would : ByteArray := method_11_code
def yL_would : MethodName := ⟨RL, "would", "(LRoadHolidays;IIIIIIII[J)I"⟩
abbrev cL_lasts : ByteArray := method_12_code
def yL_lasts : MethodName := ⟨RL, "lasts", "(LRoadHolidays;II[J)I"⟩
abbrev cL_soon : ByteArray := method_13_code
def yL_soon : MethodName := ⟨RL, "soon", "(LRoadHolidays;III[J)I"⟩
abbrev cL_way : ByteArray := method_14_code
def yL_way : MethodName := ⟨RL, "way", "(LRoadHolidays;IIII[J)I"⟩
abbrev cL_latest : ByteArray := method_15_code
def yL_latest : MethodName := ⟨RL, "latest", "(LRoadHolidays;IIII[J)I"⟩
abbrev cL_day : ByteArray := method_16_code
def yL_day : MethodName := ⟨RL, "day", "(LRoadHolidays;III[J)I"⟩
abbrev cL_farthest : ByteArray := method_17_code
def yL_farthest : MethodName := ⟨RL, "farthest", "(LRoadHolidays;I[J)I"⟩
abbrev cL_joined : ByteArray := method_18_code
def yL_joined : MethodName := ⟨RL, "joined", "(LRoadHolidays;I[J)I"⟩
abbrev cL_part : ByteArray := method_19_code
def yL_part : MethodName := ⟨RL, "part", "(LRoadHolidays;III[J)I"⟩
abbrev cL_mend : ByteArray := method_20_code
def yL_mend : MethodName := ⟨RL, "mend", "(LRoadHolidays;I[J)I"⟩
abbrev cL_picnic : ByteArray := method_21_code
def yL_picnic : MethodName := ⟨RL, "picnic", "(LRoadHolidays;I[J)I"⟩
abbrev cL_fits : ByteArray := method_22_code
def yL_fits : MethodName := ⟨RL, "fits", "(LRoadHolidays;I[J)I"⟩
abbrev cL_look : ByteArray := method_23_code
def yL_look : MethodName := ⟨RL, "look", "(LRoadHolidays;II[J)I"⟩
abbrev cL_inn : ByteArray := method_24_code
def yL_inn : MethodName := ⟨RL, "inn", "(LRoadHolidays;III[J)I"⟩
abbrev cL_luck : ByteArray := method_25_code
def yL_luck : MethodName := ⟨RL, "luck", "(LRoadHolidays;IIII[J)I"⟩
abbrev cL_oats : ByteArray := method_26_code
def yL_oats : MethodName := ⟨RL, "oats", "(LRoadHolidays;III[J)I"⟩
abbrev cL_weariest : ByteArray := method_27_code
def yL_weariest : MethodName := ⟨RL, "weariest", "(LRoadHolidays;I[J)I"⟩
abbrev cL_arrives : ByteArray := method_28_code
def yL_arrives : MethodName := ⟨RL, "arrives", "(LRoadHolidays;I[J)I"⟩
abbrev cL_reach : ByteArray := method_29_code
def yL_reach : MethodName := ⟨RL, "reach", "(LRoadHolidays;II[J)I"⟩
abbrev cL_year : ByteArray := method_30_code
def yL_year : MethodName := ⟨RL, "year", "(LRoadHolidays;IIII[J)I"⟩
abbrev cL_span : ByteArray := method_31_code
def yL_span : MethodName := ⟨RL, "span", "(LRoadHolidays;IIIIII[J)I"⟩
abbrev cL_law_ : ByteArray := code
def yL_law_ : MethodName := ⟨RL, "law", "([I)Z"⟩
/-- the classes of the world, by their kinds -/
abbrev clL : List vw_C := [(RX0, TX0, 6), (RX2, TX2, 9), (RX3, TX3, 5), (RX4, TX4, 5), (RX5, TX5, 11), (RX6, TX6, 8), (RX7, TX7, 8), (RX8, TX8, 5), (RX9, TX9, 16), (RX10, TX10, 50)]
def cC (c : Nat) : String := match c with
  | 0 => RX0
  | 1 => RX2
  | 2 => RX3
  | 3 => RX4
  | 4 => RX5
  | 5 => RX6
  | 6 => RX7
  | 7 => RX8
  | 8 => RX9
  | _ => RX10
def cT (c : Nat) : u_T := match c with
  | 0 => TX0
  | 1 => TX2
  | 2 => TX3
  | 3 => TX4
  | 4 => TX5
  | 5 => TX6
  | 6 => TX7
  | 7 => TX8
  | 8 => TX9
  | _ => TX10
def cTy (c : Nat) : (Nat → FieldType) := match c with
  | 0 => tyX0
  | 1 => tyX2
  | 2 => tyX3
  | 3 => tyX4
  | 4 => tyX5
  | 5 => tyX6
  | 6 => tyX7
  | 7 => tyX8
  | 8 => tyX9
  | _ => tyX10
def cN (c : Nat) : Nat := match c with
  | 0 => 6
  | 1 => 9
  | 2 => 5
  | 3 => 5
  | 4 => 11
  | 5 => 8
  | 6 => 8
  | 7 => 5
  | 8 => 16
  | _ => 50
theorem clL_at : ∀ c, c < 10 → clL[c]? = some (cC c, cT c, cN c) := by
  intro c hc
  match c, hc with
  | 0, _ => exact rfl
  | 1, _ => exact rfl
  | 2, _ => exact rfl
  | 3, _ => exact rfl
  | 4, _ => exact rfl
  | 5, _ => exact rfl
  | 6, _ => exact rfl
  | 7, _ => exact rfl
  | 8, _ => exact rfl
  | 9, _ => exact rfl
  | c + 10, hc => omega
theorem cty_ok : ∀ c, c < 10 → ∀ k, k < cN c → parseFieldDescriptor (cT c k).2.2.1 = some (cTy c k) := by
  intro c hc
  match c, hc with
  | 0, _ => exact tyX0_ok
  | 1, _ => exact tyX2_ok
  | 2, _ => exact tyX3_ok
  | 3, _ => exact tyX4_ok
  | 4, _ => exact tyX5_ok
  | 5, _ => exact tyX6_ok
  | 6, _ => exact tyX7_ok
  | 7, _ => exact tyX8_ok
  | 8, _ => exact tyX9_ok
  | 9, _ => exact tyX10_ok
  | c + 10, hc => omega
theorem cnm_ok : ∀ c, c < 10 → ∀ a, a < cN c → ∀ b, b < cN c → a ≠ b → (cT c a).2.1 ≠ (cT c b).2.1 := by
  intro c hc
  match c, hc with
  | 0, _ => exact nmX0
  | 1, _ => exact nmX2
  | 2, _ => exact nmX3
  | 3, _ => exact nmX4
  | 4, _ => exact nmX5
  | 5, _ => exact nmX6
  | 6, _ => exact nmX7
  | 7, _ => exact nmX8
  | 8, _ => exact nmX9
  | 9, _ => exact nmX10
  | c + 10, hc => omega
