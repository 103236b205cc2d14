section
-- ===== PART A: goes FIRST, ahead of the names: the tables' words, and 'selects' of the private methods out of them =====
/-- a private method of a class that the tables say can be made, by its rows of tables_1 -/
def lw_okq (q : MethodName × Nat) : Prop := (q.1.cls ≠ "java/lang/invoke/MethodHandle" ∧ q.1.cls ≠ "java/lang/invoke/VarHandle") ∧ Cond.instantiable q.1.cls q.2 ∈ tables_1 ∧ Cond.privateMethod q.1 ∈ tables_1 ∧ Cond.instanceMethod q.1 ∈ tables_1
theorem lw_p0 : lw_okq (⟨"DrownedRooms$Valley", "clear", "()V"⟩, 20) := ⟨⟨by decide +kernel, by decide +kernel⟩, List.mem_of_getElem? (i := 80) (by decide +kernel), List.mem_of_getElem? (i := 86) (by decide +kernel), List.mem_of_getElem? (i := 87) (by decide +kernel)⟩
theorem lw_p1 : lw_okq (⟨"DrownedRooms$Tape", "readRun", "()V"⟩, 11) := ⟨⟨by decide +kernel, by decide +kernel⟩, List.mem_of_getElem? (i := 39) (by decide +kernel), List.mem_of_getElem? (i := 581) (by decide +kernel), List.mem_of_getElem? (i := 582) (by decide +kernel)⟩
theorem lw_p2 : lw_okq (⟨"DrownedRooms$Tape", "keywordRead", "()I"⟩, 11) := ⟨⟨by decide +kernel, by decide +kernel⟩, List.mem_of_getElem? (i := 39) (by decide +kernel), List.mem_of_getElem? (i := 585) (by decide +kernel), List.mem_of_getElem? (i := 586) (by decide +kernel)⟩
theorem lw_p3 : lw_okq (⟨"DrownedRooms$Valley", "readLine", "(LDrownedRooms$Tape;)Z"⟩, 20) := ⟨⟨by decide +kernel, by decide +kernel⟩, List.mem_of_getElem? (i := 80) (by decide +kernel), List.mem_of_getElem? (i := 644) (by decide +kernel), List.mem_of_getElem? (i := 645) (by decide +kernel)⟩
theorem lw_p4 : lw_okq (⟨"DrownedRooms$Valley", "isFirst", "(LDrownedRooms$Tape;)Z"⟩, 20) := ⟨⟨by decide +kernel, by decide +kernel⟩, List.mem_of_getElem? (i := 80) (by decide +kernel), List.mem_of_getElem? (i := 652) (by decide +kernel), List.mem_of_getElem? (i := 653) (by decide +kernel)⟩
theorem lw_p5 : lw_okq (⟨"DrownedRooms$Valley", "readLake", "(LDrownedRooms$Tape;)Z"⟩, 20) := ⟨⟨by decide +kernel, by decide +kernel⟩, List.mem_of_getElem? (i := 80) (by decide +kernel), List.mem_of_getElem? (i := 660) (by decide +kernel), List.mem_of_getElem? (i := 661) (by decide +kernel)⟩
theorem lw_p6 : lw_okq (⟨"DrownedRooms$Valley", "readRain", "(LDrownedRooms$Tape;)Z"⟩, 20) := ⟨⟨by decide +kernel, by decide +kernel⟩, List.mem_of_getElem? (i := 80) (by decide +kernel), List.mem_of_getElem? (i := 677) (by decide +kernel), List.mem_of_getElem? (i := 678) (by decide +kernel)⟩
theorem lw_p7 : lw_okq (⟨"DrownedRooms$Valley", "readMill", "(LDrownedRooms$Tape;)Z"⟩, 20) := ⟨⟨by decide +kernel, by decide +kernel⟩, List.mem_of_getElem? (i := 80) (by decide +kernel), List.mem_of_getElem? (i := 681) (by decide +kernel), List.mem_of_getElem? (i := 682) (by decide +kernel)⟩
theorem lw_p8 : lw_okq (⟨"DrownedRooms$Valley", "readStorm", "(LDrownedRooms$Tape;)Z"⟩, 20) := ⟨⟨by decide +kernel, by decide +kernel⟩, List.mem_of_getElem? (i := 80) (by decide +kernel), List.mem_of_getElem? (i := 685) (by decide +kernel), List.mem_of_getElem? (i := 686) (by decide +kernel)⟩
theorem lw_p9 : lw_okq (⟨"DrownedRooms$Valley", "readHouse", "(LDrownedRooms$Tape;)Z"⟩, 20) := ⟨⟨by decide +kernel, by decide +kernel⟩, List.mem_of_getElem? (i := 80) (by decide +kernel), List.mem_of_getElem? (i := 689) (by decide +kernel), List.mem_of_getElem? (i := 690) (by decide +kernel)⟩
theorem lw_p10 : lw_okq (⟨"DrownedRooms$Valley", "readNewName", "(LDrownedRooms$Tape;I)Z"⟩, 20) := ⟨⟨by decide +kernel, by decide +kernel⟩, List.mem_of_getElem? (i := 80) (by decide +kernel), List.mem_of_getElem? (i := 693) (by decide +kernel), List.mem_of_getElem? (i := 694) (by decide +kernel)⟩
theorem lw_p11 : lw_okq (⟨"DrownedRooms$Valley", "readRoom", "(LDrownedRooms$Tape;)Z"⟩, 20) := ⟨⟨by decide +kernel, by decide +kernel⟩, List.mem_of_getElem? (i := 80) (by decide +kernel), List.mem_of_getElem? (i := 705) (by decide +kernel), List.mem_of_getElem? (i := 706) (by decide +kernel)⟩
theorem lw_p12 : lw_okq (⟨"DrownedRooms$Valley", "numberRead", "(LDrownedRooms$Tape;II)I"⟩, 20) := ⟨⟨by decide +kernel, by decide +kernel⟩, List.mem_of_getElem? (i := 80) (by decide +kernel), List.mem_of_getElem? (i := 713) (by decide +kernel), List.mem_of_getElem? (i := 714) (by decide +kernel)⟩
theorem lw_p13 : lw_okq (⟨"DrownedRooms$Valley", "readGuest", "(LDrownedRooms$Tape;)Z"⟩, 20) := ⟨⟨by decide +kernel, by decide +kernel⟩, List.mem_of_getElem? (i := 80) (by decide +kernel), List.mem_of_getElem? (i := 717) (by decide +kernel), List.mem_of_getElem? (i := 718) (by decide +kernel)⟩
theorem lw_p14 : lw_okq (⟨"DrownedRooms$Valley", "readQuarrel", "(LDrownedRooms$Tape;)Z"⟩, 20) := ⟨⟨by decide +kernel, by decide +kernel⟩, List.mem_of_getElem? (i := 80) (by decide +kernel), List.mem_of_getElem? (i := 721) (by decide +kernel), List.mem_of_getElem? (i := 722) (by decide +kernel)⟩
theorem lw_p15 : lw_okq (⟨"DrownedRooms$Valley", "readSleeps", "(LDrownedRooms$Tape;)Z"⟩, 20) := ⟨⟨by decide +kernel, by decide +kernel⟩, List.mem_of_getElem? (i := 80) (by decide +kernel), List.mem_of_getElem? (i := 733) (by decide +kernel), List.mem_of_getElem? (i := 734) (by decide +kernel)⟩
def lw_privs_1 : List (MethodName × Nat) := [(⟨"DrownedRooms$Valley", "clear", "()V"⟩, 20), (⟨"DrownedRooms$Tape", "readRun", "()V"⟩, 11), (⟨"DrownedRooms$Tape", "keywordRead", "()I"⟩, 11), (⟨"DrownedRooms$Valley", "readLine", "(LDrownedRooms$Tape;)Z"⟩, 20), (⟨"DrownedRooms$Valley", "isFirst", "(LDrownedRooms$Tape;)Z"⟩, 20), (⟨"DrownedRooms$Valley", "readLake", "(LDrownedRooms$Tape;)Z"⟩, 20), (⟨"DrownedRooms$Valley", "readRain", "(LDrownedRooms$Tape;)Z"⟩, 20), (⟨"DrownedRooms$Valley", "readMill", "(LDrownedRooms$Tape;)Z"⟩, 20), (⟨"DrownedRooms$Valley", "readStorm", "(LDrownedRooms$Tape;)Z"⟩, 20), (⟨"DrownedRooms$Valley", "readHouse", "(LDrownedRooms$Tape;)Z"⟩, 20), (⟨"DrownedRooms$Valley", "readNewName", "(LDrownedRooms$Tape;I)Z"⟩, 20), (⟨"DrownedRooms$Valley", "readRoom", "(LDrownedRooms$Tape;)Z"⟩, 20), (⟨"DrownedRooms$Valley", "numberRead", "(LDrownedRooms$Tape;II)I"⟩, 20), (⟨"DrownedRooms$Valley", "readGuest", "(LDrownedRooms$Tape;)Z"⟩, 20), (⟨"DrownedRooms$Valley", "readQuarrel", "(LDrownedRooms$Tape;)Z"⟩, 20), (⟨"DrownedRooms$Valley", "readSleeps", "(LDrownedRooms$Tape;)Z"⟩, 20)]
theorem lw_r1 : ∀ q ∈ lw_privs_1, lw_okq q := List.forall_mem_cons.mpr ⟨lw_p0, List.forall_mem_cons.mpr ⟨lw_p1, List.forall_mem_cons.mpr ⟨lw_p2, List.forall_mem_cons.mpr ⟨lw_p3, List.forall_mem_cons.mpr ⟨lw_p4, List.forall_mem_cons.mpr ⟨lw_p5, List.forall_mem_cons.mpr ⟨lw_p6, List.forall_mem_cons.mpr ⟨lw_p7, List.forall_mem_cons.mpr ⟨lw_p8, List.forall_mem_cons.mpr ⟨lw_p9, List.forall_mem_cons.mpr ⟨lw_p10, List.forall_mem_cons.mpr ⟨lw_p11, List.forall_mem_cons.mpr ⟨lw_p12, List.forall_mem_cons.mpr ⟨lw_p13, List.forall_mem_cons.mpr ⟨lw_p14, List.forall_mem_cons.mpr ⟨lw_p15, fun _ h => absurd h List.not_mem_nil⟩⟩⟩⟩⟩⟩⟩⟩⟩⟩⟩⟩⟩⟩⟩⟩
theorem lw_p16 : lw_okq (⟨"DrownedRooms$Valley", "isSleptIn", "(I)Z"⟩, 20) := ⟨⟨by decide +kernel, by decide +kernel⟩, List.mem_of_getElem? (i := 80) (by decide +kernel), List.mem_of_getElem? (i := 741) (by decide +kernel), List.mem_of_getElem? (i := 742) (by decide +kernel)⟩
theorem lw_p17 : lw_okq (⟨"DrownedRooms", "closeText", "()V"⟩, 16) := ⟨⟨by decide +kernel, by decide +kernel⟩, List.mem_of_getElem? (i := 31) (by decide +kernel), List.mem_of_getElem? (i := 753) (by decide +kernel), List.mem_of_getElem? (i := 754) (by decide +kernel)⟩
theorem lw_p18 : lw_okq (⟨"DrownedRooms", "isGuest", "(I)Z"⟩, 16) := ⟨⟨by decide +kernel, by decide +kernel⟩, List.mem_of_getElem? (i := 31) (by decide +kernel), List.mem_of_getElem? (i := 821) (by decide +kernel), List.mem_of_getElem? (i := 822) (by decide +kernel)⟩
theorem lw_p19 : lw_okq (⟨"DrownedRooms", "isRoom", "(I)Z"⟩, 16) := ⟨⟨by decide +kernel, by decide +kernel⟩, List.mem_of_getElem? (i := 31) (by decide +kernel), List.mem_of_getElem? (i := 825) (by decide +kernel), List.mem_of_getElem? (i := 826) (by decide +kernel)⟩
theorem lw_p20 : lw_okq (⟨"DrownedRooms$Lake", "passDay", "()V"⟩, 11) := ⟨⟨by decide +kernel, by decide +kernel⟩, List.mem_of_getElem? (i := 191) (by decide +kernel), List.mem_of_getElem? (i := 895) (by decide +kernel), List.mem_of_getElem? (i := 896) (by decide +kernel)⟩
theorem lw_p21 : lw_okq (⟨"DrownedRooms$Lake", "passNight", "(II)V"⟩, 11) := ⟨⟨by decide +kernel, by decide +kernel⟩, List.mem_of_getElem? (i := 191) (by decide +kernel), List.mem_of_getElem? (i := 909) (by decide +kernel), List.mem_of_getElem? (i := 910) (by decide +kernel)⟩
theorem lw_p22 : lw_okq (⟨"DrownedRooms$Stays", "findFits", "(LDrownedRooms$Lake;)V"⟩, 7) := ⟨⟨by decide +kernel, by decide +kernel⟩, List.mem_of_getElem? (i := 337) (by decide +kernel), List.mem_of_getElem? (i := 953) (by decide +kernel), List.mem_of_getElem? (i := 954) (by decide +kernel)⟩
theorem lw_p23 : lw_okq (⟨"DrownedRooms$Stays", "tryStay", "(III)V"⟩, 7) := ⟨⟨by decide +kernel, by decide +kernel⟩, List.mem_of_getElem? (i := 337) (by decide +kernel), List.mem_of_getElem? (i := 962) (by decide +kernel), List.mem_of_getElem? (i := 963) (by decide +kernel)⟩
theorem lw_p24 : lw_okq (⟨"DrownedRooms$Stays", "isFreeFor", "(II)Z"⟩, 7) := ⟨⟨by decide +kernel, by decide +kernel⟩, List.mem_of_getElem? (i := 337) (by decide +kernel), List.mem_of_getElem? (i := 967) (by decide +kernel), List.mem_of_getElem? (i := 968) (by decide +kernel)⟩
theorem lw_p25 : lw_okq (⟨"DrownedRooms$Plan", "tryDay", "(LDrownedRooms$Lake;IIII)V"⟩, 5) := ⟨⟨by decide +kernel, by decide +kernel⟩, List.mem_of_getElem? (i := 365) (by decide +kernel), List.mem_of_getElem? (i := 987) (by decide +kernel), List.mem_of_getElem? (i := 988) (by decide +kernel)⟩
theorem lw_p26 : lw_okq (⟨"DrownedRooms$Plan", "mostToCome", "(LDrownedRooms$Valley;II)I"⟩, 5) := ⟨⟨by decide +kernel, by decide +kernel⟩, List.mem_of_getElem? (i := 365) (by decide +kernel), List.mem_of_getElem? (i := 991) (by decide +kernel), List.mem_of_getElem? (i := 992) (by decide +kernel)⟩
theorem lw_p27 : lw_okq (⟨"DrownedRooms$Boat", "tryHouse", "(LDrownedRooms$Valley;IIII)V"⟩, 4) := ⟨⟨by decide +kernel, by decide +kernel⟩, List.mem_of_getElem? (i := 387) (by decide +kernel), List.mem_of_getElem? (i := 1024) (by decide +kernel), List.mem_of_getElem? (i := 1025) (by decide +kernel)⟩
theorem lw_p28 : lw_okq (⟨"DrownedRooms$Marks", "bestBell", "(LDrownedRooms$Valley;)I"⟩, 3) := ⟨⟨by decide +kernel, by decide +kernel⟩, List.mem_of_getElem? (i := 406) (by decide +kernel), List.mem_of_getElem? (i := 1062) (by decide +kernel), List.mem_of_getElem? (i := 1063) (by decide +kernel)⟩
theorem lw_p29 : lw_okq (⟨"DrownedRooms$Lake", "hasFoeIn", "(II)Z"⟩, 11) := ⟨⟨by decide +kernel, by decide +kernel⟩, List.mem_of_getElem? (i := 191) (by decide +kernel), List.mem_of_getElem? (i := 1094) (by decide +kernel), List.mem_of_getElem? (i := 1095) (by decide +kernel)⟩
theorem lw_p30 : lw_okq (⟨"DrownedRooms$Lake", "sleepInOneHouse", "(II)Z"⟩, 11) := ⟨⟨by decide +kernel, by decide +kernel⟩, List.mem_of_getElem? (i := 191) (by decide +kernel), List.mem_of_getElem? (i := 1107) (by decide +kernel), List.mem_of_getElem? (i := 1108) (by decide +kernel)⟩
theorem lw_p31 : lw_okq (⟨"DrownedRooms", "addName", "(J)V"⟩, 16) := ⟨⟨by decide +kernel, by decide +kernel⟩, List.mem_of_getElem? (i := 31) (by decide +kernel), List.mem_of_getElem? (i := 1174) (by decide +kernel), List.mem_of_getElem? (i := 1175) (by decide +kernel)⟩
def lw_privs_2 : List (MethodName × Nat) := [(⟨"DrownedRooms$Valley", "isSleptIn", "(I)Z"⟩, 20), (⟨"DrownedRooms", "closeText", "()V"⟩, 16), (⟨"DrownedRooms", "isGuest", "(I)Z"⟩, 16), (⟨"DrownedRooms", "isRoom", "(I)Z"⟩, 16), (⟨"DrownedRooms$Lake", "passDay", "()V"⟩, 11), (⟨"DrownedRooms$Lake", "passNight", "(II)V"⟩, 11), (⟨"DrownedRooms$Stays", "findFits", "(LDrownedRooms$Lake;)V"⟩, 7), (⟨"DrownedRooms$Stays", "tryStay", "(III)V"⟩, 7), (⟨"DrownedRooms$Stays", "isFreeFor", "(II)Z"⟩, 7), (⟨"DrownedRooms$Plan", "tryDay", "(LDrownedRooms$Lake;IIII)V"⟩, 5), (⟨"DrownedRooms$Plan", "mostToCome", "(LDrownedRooms$Valley;II)I"⟩, 5), (⟨"DrownedRooms$Boat", "tryHouse", "(LDrownedRooms$Valley;IIII)V"⟩, 4), (⟨"DrownedRooms$Marks", "bestBell", "(LDrownedRooms$Valley;)I"⟩, 3), (⟨"DrownedRooms$Lake", "hasFoeIn", "(II)Z"⟩, 11), (⟨"DrownedRooms$Lake", "sleepInOneHouse", "(II)Z"⟩, 11), (⟨"DrownedRooms", "addName", "(J)V"⟩, 16)]
theorem lw_r2 : ∀ q ∈ lw_privs_2, lw_okq q := List.forall_mem_cons.mpr ⟨lw_p16, List.forall_mem_cons.mpr ⟨lw_p17, List.forall_mem_cons.mpr ⟨lw_p18, List.forall_mem_cons.mpr ⟨lw_p19, List.forall_mem_cons.mpr ⟨lw_p20, List.forall_mem_cons.mpr ⟨lw_p21, List.forall_mem_cons.mpr ⟨lw_p22, List.forall_mem_cons.mpr ⟨lw_p23, List.forall_mem_cons.mpr ⟨lw_p24, List.forall_mem_cons.mpr ⟨lw_p25, List.forall_mem_cons.mpr ⟨lw_p26, List.forall_mem_cons.mpr ⟨lw_p27, List.forall_mem_cons.mpr ⟨lw_p28, List.forall_mem_cons.mpr ⟨lw_p29, List.forall_mem_cons.mpr ⟨lw_p30, List.forall_mem_cons.mpr ⟨lw_p31, fun _ h => absurd h List.not_mem_nil⟩⟩⟩⟩⟩⟩⟩⟩⟩⟩⟩⟩⟩⟩⟩⟩
theorem lw_p32 : lw_okq (⟨"DrownedRooms$Lake", "drawFor", "(I)V"⟩, 11) := ⟨⟨by decide +kernel, by decide +kernel⟩, List.mem_of_getElem? (i := 191) (by decide +kernel), List.mem_of_getElem? (i := 1310) (by decide +kernel), List.mem_of_getElem? (i := 1311) (by decide +kernel)⟩
theorem lw_p33 : lw_okq (⟨"DrownedRooms$Lake", "draw", "(I)I"⟩, 11) := ⟨⟨by decide +kernel, by decide +kernel⟩, List.mem_of_getElem? (i := 191) (by decide +kernel), List.mem_of_getElem? (i := 1314) (by decide +kernel), List.mem_of_getElem? (i := 1315) (by decide +kernel)⟩
theorem lw_p34 : lw_okq (⟨"DrownedRooms$Book", "readLine", "(LDrownedRooms$Tape;LDrownedRooms$Valley;)Z"⟩, 10) := ⟨⟨by decide +kernel, by decide +kernel⟩, List.mem_of_getElem? (i := 300) (by decide +kernel), List.mem_of_getElem? (i := 1337) (by decide +kernel), List.mem_of_getElem? (i := 1338) (by decide +kernel)⟩
theorem lw_p35 : lw_okq (⟨"DrownedRooms$Book", "readGuestLine", "(LDrownedRooms$Tape;LDrownedRooms$Valley;)Z"⟩, 10) := ⟨⟨by decide +kernel, by decide +kernel⟩, List.mem_of_getElem? (i := 300) (by decide +kernel), List.mem_of_getElem? (i := 1344) (by decide +kernel), List.mem_of_getElem? (i := 1345) (by decide +kernel)⟩
theorem lw_p36 : lw_okq (⟨"DrownedRooms$Book", "liveLine", "(LDrownedRooms$Lake;I)I"⟩, 10) := ⟨⟨by decide +kernel, by decide +kernel⟩, List.mem_of_getElem? (i := 300) (by decide +kernel), List.mem_of_getElem? (i := 1356) (by decide +kernel), List.mem_of_getElem? (i := 1357) (by decide +kernel)⟩
theorem lw_p37 : lw_okq (⟨"DrownedRooms$Book", "liveTaking", "(LDrownedRooms$Lake;I)I"⟩, 10) := ⟨⟨by decide +kernel, by decide +kernel⟩, List.mem_of_getElem? (i := 300) (by decide +kernel), List.mem_of_getElem? (i := 1360) (by decide +kernel), List.mem_of_getElem? (i := 1361) (by decide +kernel)⟩
theorem lw_p38 : lw_okq (⟨"DrownedRooms$Book", "liveLeaving", "(LDrownedRooms$Lake;I)I"⟩, 10) := ⟨⟨by decide +kernel, by decide +kernel⟩, List.mem_of_getElem? (i := 300) (by decide +kernel), List.mem_of_getElem? (i := 1366) (by decide +kernel), List.mem_of_getElem? (i := 1367) (by decide +kernel)⟩
theorem lw_p39 : lw_okq (⟨"DrownedRooms$Book", "liveTurning", "(LDrownedRooms$Lake;I)I"⟩, 10) := ⟨⟨by decide +kernel, by decide +kernel⟩, List.mem_of_getElem? (i := 300) (by decide +kernel), List.mem_of_getElem? (i := 1372) (by decide +kernel), List.mem_of_getElem? (i := 1373) (by decide +kernel)⟩
theorem lw_p40 : lw_okq (⟨"DrownedRooms$Sentence", "readCond", "(LDrownedRooms$Tape;LDrownedRooms$Valley;I)Z"⟩, 6) := ⟨⟨by decide +kernel, by decide +kernel⟩, List.mem_of_getElem? (i := 274) (by decide +kernel), List.mem_of_getElem? (i := 1398) (by decide +kernel), List.mem_of_getElem? (i := 1399) (by decide +kernel)⟩
theorem lw_p41 : lw_okq (⟨"DrownedRooms$Sentence", "readAll", "(LDrownedRooms$Tape;LDrownedRooms$Valley;I)Z"⟩, 6) := ⟨⟨by decide +kernel, by decide +kernel⟩, List.mem_of_getElem? (i := 274) (by decide +kernel), List.mem_of_getElem? (i := 1402) (by decide +kernel), List.mem_of_getElem? (i := 1403) (by decide +kernel)⟩
theorem lw_p42 : lw_okq (⟨"DrownedRooms$Sentence", "readOne", "(LDrownedRooms$Tape;LDrownedRooms$Valley;I)Z"⟩, 6) := ⟨⟨by decide +kernel, by decide +kernel⟩, List.mem_of_getElem? (i := 274) (by decide +kernel), List.mem_of_getElem? (i := 1406) (by decide +kernel), List.mem_of_getElem? (i := 1407) (by decide +kernel)⟩
theorem lw_p43 : lw_okq (⟨"DrownedRooms$Sentence", "readBracket", "(LDrownedRooms$Tape;LDrownedRooms$Valley;I)Z"⟩, 6) := ⟨⟨by decide +kernel, by decide +kernel⟩, List.mem_of_getElem? (i := 274) (by decide +kernel), List.mem_of_getElem? (i := 1416) (by decide +kernel), List.mem_of_getElem? (i := 1417) (by decide +kernel)⟩
theorem lw_p44 : lw_okq (⟨"DrownedRooms$Sentence", "add", "(III)Z"⟩, 6) := ⟨⟨by decide +kernel, by decide +kernel⟩, List.mem_of_getElem? (i := 274) (by decide +kernel), List.mem_of_getElem? (i := 1420) (by decide +kernel), List.mem_of_getElem? (i := 1421) (by decide +kernel)⟩
theorem lw_p45 : lw_okq (⟨"DrownedRooms$Sentence", "readPlain", "(LDrownedRooms$Tape;LDrownedRooms$Valley;I)Z"⟩, 6) := ⟨⟨by decide +kernel, by decide +kernel⟩, List.mem_of_getElem? (i := 274) (by decide +kernel), List.mem_of_getElem? (i := 1424) (by decide +kernel), List.mem_of_getElem? (i := 1425) (by decide +kernel)⟩
theorem lw_p46 : lw_okq (⟨"DrownedRooms$Sentence", "plainWorth", "(LDrownedRooms$Lake;I)I"⟩, 6) := ⟨⟨by decide +kernel, by decide +kernel⟩, List.mem_of_getElem? (i := 274) (by decide +kernel), List.mem_of_getElem? (i := 1454) (by decide +kernel), List.mem_of_getElem? (i := 1455) (by decide +kernel)⟩
theorem lw_p47 : lw_okq (⟨"DrownedRooms$Sentence", "roomsAlike", "(LDrownedRooms$Lake;I)I"⟩, 6) := ⟨⟨by decide +kernel, by decide +kernel⟩, List.mem_of_getElem? (i := 274) (by decide +kernel), List.mem_of_getElem? (i := 1461) (by decide +kernel), List.mem_of_getElem? (i := 1462) (by decide +kernel)⟩
def lw_privs_3 : List (MethodName × Nat) := [(⟨"DrownedRooms$Lake", "drawFor", "(I)V"⟩, 11), (⟨"DrownedRooms$Lake", "draw", "(I)I"⟩, 11), (⟨"DrownedRooms$Book", "readLine", "(LDrownedRooms$Tape;LDrownedRooms$Valley;)Z"⟩, 10), (⟨"DrownedRooms$Book", "readGuestLine", "(LDrownedRooms$Tape;LDrownedRooms$Valley;)Z"⟩, 10), (⟨"DrownedRooms$Book", "liveLine", "(LDrownedRooms$Lake;I)I"⟩, 10), (⟨"DrownedRooms$Book", "liveTaking", "(LDrownedRooms$Lake;I)I"⟩, 10), (⟨"DrownedRooms$Book", "liveLeaving", "(LDrownedRooms$Lake;I)I"⟩, 10), (⟨"DrownedRooms$Book", "liveTurning", "(LDrownedRooms$Lake;I)I"⟩, 10), (⟨"DrownedRooms$Sentence", "readCond", "(LDrownedRooms$Tape;LDrownedRooms$Valley;I)Z"⟩, 6), (⟨"DrownedRooms$Sentence", "readAll", "(LDrownedRooms$Tape;LDrownedRooms$Valley;I)Z"⟩, 6), (⟨"DrownedRooms$Sentence", "readOne", "(LDrownedRooms$Tape;LDrownedRooms$Valley;I)Z"⟩, 6), (⟨"DrownedRooms$Sentence", "readBracket", "(LDrownedRooms$Tape;LDrownedRooms$Valley;I)Z"⟩, 6), (⟨"DrownedRooms$Sentence", "add", "(III)Z"⟩, 6), (⟨"DrownedRooms$Sentence", "readPlain", "(LDrownedRooms$Tape;LDrownedRooms$Valley;I)Z"⟩, 6), (⟨"DrownedRooms$Sentence", "plainWorth", "(LDrownedRooms$Lake;I)I"⟩, 6), (⟨"DrownedRooms$Sentence", "roomsAlike", "(LDrownedRooms$Lake;I)I"⟩, 6)]
theorem lw_r3 : ∀ q ∈ lw_privs_3, lw_okq q := List.forall_mem_cons.mpr ⟨lw_p32, List.forall_mem_cons.mpr ⟨lw_p33, List.forall_mem_cons.mpr ⟨lw_p34, List.forall_mem_cons.mpr ⟨lw_p35, List.forall_mem_cons.mpr ⟨lw_p36, List.forall_mem_cons.mpr ⟨lw_p37, List.forall_mem_cons.mpr ⟨lw_p38, List.forall_mem_cons.mpr ⟨lw_p39, List.forall_mem_cons.mpr ⟨lw_p40, List.forall_mem_cons.mpr ⟨lw_p41, List.forall_mem_cons.mpr ⟨lw_p42, List.forall_mem_cons.mpr ⟨lw_p43, List.forall_mem_cons.mpr ⟨lw_p44, List.forall_mem_cons.mpr ⟨lw_p45, List.forall_mem_cons.mpr ⟨lw_p46, List.forall_mem_cons.mpr ⟨lw_p47, fun _ h => absurd h List.not_mem_nil⟩⟩⟩⟩⟩⟩⟩⟩⟩⟩⟩⟩⟩⟩⟩⟩
theorem lw_p48 : lw_okq (⟨"DrownedRooms$Sentence", "isTrueOf", "(LDrownedRooms$Lake;II)Z"⟩, 6) := ⟨⟨by decide +kernel, by decide +kernel⟩, List.mem_of_getElem? (i := 274) (by decide +kernel), List.mem_of_getElem? (i := 1465) (by decide +kernel), List.mem_of_getElem? (i := 1466) (by decide +kernel)⟩
theorem lw_p49 : lw_okq (⟨"DrownedRooms$Sentence", "compares", "(II)Z"⟩, 6) := ⟨⟨by decide +kernel, by decide +kernel⟩, List.mem_of_getElem? (i := 274) (by decide +kernel), List.mem_of_getElem? (i := 1469) (by decide +kernel), List.mem_of_getElem? (i := 1470) (by decide +kernel)⟩
theorem lw_p50 : lw_okq (⟨"java/lang/Throwable", "fillInStackTrace", "(I)Ljava/lang/Throwable;"⟩, 6) := ⟨⟨by decide +kernel, by decide +kernel⟩, List.mem_of_getElem? (i := 1545) (by decide +kernel), List.mem_of_getElem? (i := 1543) (by decide +kernel), List.mem_of_getElem? (i := 1544) (by decide +kernel)⟩
theorem lw_p51 : lw_okq (⟨"DrownedRoomsModel", "come", "(I)V"⟩, 54) := ⟨⟨by decide +kernel, by decide +kernel⟩, List.mem_of_getElem? (i := 1595) (by decide +kernel), List.mem_of_getElem? (i := 1593) (by decide +kernel), List.mem_of_getElem? (i := 1594) (by decide +kernel)⟩
theorem lw_p52 : lw_okq (⟨"DrownedRoomsModel", "startRead", "()V"⟩, 54) := ⟨⟨by decide +kernel, by decide +kernel⟩, List.mem_of_getElem? (i := 1595) (by decide +kernel), List.mem_of_getElem? (i := 1607) (by decide +kernel), List.mem_of_getElem? (i := 1608) (by decide +kernel)⟩
theorem lw_p53 : lw_okq (⟨"DrownedRoomsModel", "startSo", "()V"⟩, 54) := ⟨⟨by decide +kernel, by decide +kernel⟩, List.mem_of_getElem? (i := 1595) (by decide +kernel), List.mem_of_getElem? (i := 1611) (by decide +kernel), List.mem_of_getElem? (i := 1612) (by decide +kernel)⟩
theorem lw_p54 : lw_okq (⟨"DrownedRoomsModel", "begin", "(I)V"⟩, 54) := ⟨⟨by decide +kernel, by decide +kernel⟩, List.mem_of_getElem? (i := 1595) (by decide +kernel), List.mem_of_getElem? (i := 1783) (by decide +kernel), List.mem_of_getElem? (i := 1784) (by decide +kernel)⟩
theorem lw_p55 : lw_okq (⟨"DrownedRoomsModel", "take", "()I"⟩, 54) := ⟨⟨by decide +kernel, by decide +kernel⟩, List.mem_of_getElem? (i := 1595) (by decide +kernel), List.mem_of_getElem? (i := 1787) (by decide +kernel), List.mem_of_getElem? (i := 1788) (by decide +kernel)⟩
theorem lw_p56 : lw_okq (⟨"DrownedRoomsModel", "go", "()V"⟩, 54) := ⟨⟨by decide +kernel, by decide +kernel⟩, List.mem_of_getElem? (i := 1595) (by decide +kernel), List.mem_of_getElem? (i := 1791) (by decide +kernel), List.mem_of_getElem? (i := 1792) (by decide +kernel)⟩
theorem lw_p57 : lw_okq (⟨"DrownedRoomsModel", "tapeAt", "(I)I"⟩, 54) := ⟨⟨by decide +kernel, by decide +kernel⟩, List.mem_of_getElem? (i := 1595) (by decide +kernel), List.mem_of_getElem? (i := 1801) (by decide +kernel), List.mem_of_getElem? (i := 1802) (by decide +kernel)⟩
theorem lw_p58 : lw_okq (⟨"DrownedRoomsModel", "readLine", "()Z"⟩, 54) := ⟨⟨by decide +kernel, by decide +kernel⟩, List.mem_of_getElem? (i := 1595) (by decide +kernel), List.mem_of_getElem? (i := 1807) (by decide +kernel), List.mem_of_getElem? (i := 1808) (by decide +kernel)⟩
theorem lw_p59 : lw_okq (⟨"DrownedRoomsModel", "isWord", "(I)Z"⟩, 54) := ⟨⟨by decide +kernel, by decide +kernel⟩, List.mem_of_getElem? (i := 1595) (by decide +kernel), List.mem_of_getElem? (i := 1811) (by decide +kernel), List.mem_of_getElem? (i := 1812) (by decide +kernel)⟩
theorem lw_p60 : lw_okq (⟨"DrownedRoomsModel", "isFresh", "(I)Z"⟩, 54) := ⟨⟨by decide +kernel, by decide +kernel⟩, List.mem_of_getElem? (i := 1595) (by decide +kernel), List.mem_of_getElem? (i := 1821) (by decide +kernel), List.mem_of_getElem? (i := 1822) (by decide +kernel)⟩
theorem lw_p61 : lw_okq (⟨"DrownedRoomsModel", "bad", "(I)Z"⟩, 54) := ⟨⟨by decide +kernel, by decide +kernel⟩, List.mem_of_getElem? (i := 1595) (by decide +kernel), List.mem_of_getElem? (i := 1825) (by decide +kernel), List.mem_of_getElem? (i := 1826) (by decide +kernel)⟩
theorem lw_p62 : lw_okq (⟨"DrownedRoomsModel", "readNumber", "(II)Z"⟩, 54) := ⟨⟨by decide +kernel, by decide +kernel⟩, List.mem_of_getElem? (i := 1595) (by decide +kernel), List.mem_of_getElem? (i := 1829) (by decide +kernel), List.mem_of_getElem? (i := 1830) (by decide +kernel)⟩
theorem lw_p63 : lw_okq (⟨"DrownedRoomsModel", "put", "(IZ)Z"⟩, 54) := ⟨⟨by decide +kernel, by decide +kernel⟩, List.mem_of_getElem? (i := 1595) (by decide +kernel), List.mem_of_getElem? (i := 1836) (by decide +kernel), List.mem_of_getElem? (i := 1837) (by decide +kernel)⟩
def lw_privs_4 : List (MethodName × Nat) := [(⟨"DrownedRooms$Sentence", "isTrueOf", "(LDrownedRooms$Lake;II)Z"⟩, 6), (⟨"DrownedRooms$Sentence", "compares", "(II)Z"⟩, 6), (⟨"java/lang/Throwable", "fillInStackTrace", "(I)Ljava/lang/Throwable;"⟩, 6), (⟨"DrownedRoomsModel", "come", "(I)V"⟩, 54), (⟨"DrownedRoomsModel", "startRead", "()V"⟩, 54), (⟨"DrownedRoomsModel", "startSo", "()V"⟩, 54), (⟨"DrownedRoomsModel", "begin", "(I)V"⟩, 54), (⟨"DrownedRoomsModel", "take", "()I"⟩, 54), (⟨"DrownedRoomsModel", "go", "()V"⟩, 54), (⟨"DrownedRoomsModel", "tapeAt", "(I)I"⟩, 54), (⟨"DrownedRoomsModel", "readLine", "()Z"⟩, 54), (⟨"DrownedRoomsModel", "isWord", "(I)Z"⟩, 54), (⟨"DrownedRoomsModel", "isFresh", "(I)Z"⟩, 54), (⟨"DrownedRoomsModel", "bad", "(I)Z"⟩, 54), (⟨"DrownedRoomsModel", "readNumber", "(II)Z"⟩, 54), (⟨"DrownedRoomsModel", "put", "(IZ)Z"⟩, 54)]
theorem lw_r4 : ∀ q ∈ lw_privs_4, lw_okq q := List.forall_mem_cons.mpr ⟨lw_p48, List.forall_mem_cons.mpr ⟨lw_p49, List.forall_mem_cons.mpr ⟨lw_p50, List.forall_mem_cons.mpr ⟨lw_p51, List.forall_mem_cons.mpr ⟨lw_p52, List.forall_mem_cons.mpr ⟨lw_p53, List.forall_mem_cons.mpr ⟨lw_p54, List.forall_mem_cons.mpr ⟨lw_p55, List.forall_mem_cons.mpr ⟨lw_p56, List.forall_mem_cons.mpr ⟨lw_p57, List.forall_mem_cons.mpr ⟨lw_p58, List.forall_mem_cons.mpr ⟨lw_p59, List.forall_mem_cons.mpr ⟨lw_p60, List.forall_mem_cons.mpr ⟨lw_p61, List.forall_mem_cons.mpr ⟨lw_p62, List.forall_mem_cons.mpr ⟨lw_p63, fun _ h => absurd h List.not_mem_nil⟩⟩⟩⟩⟩⟩⟩⟩⟩⟩⟩⟩⟩⟩⟩⟩
theorem lw_p64 : lw_okq (⟨"DrownedRoomsModel", "readHouse", "()Z"⟩, 54) := ⟨⟨by decide +kernel, by decide +kernel⟩, List.mem_of_getElem? (i := 1595) (by decide +kernel), List.mem_of_getElem? (i := 1840) (by decide +kernel), List.mem_of_getElem? (i := 1841) (by decide +kernel)⟩
theorem lw_p65 : lw_okq (⟨"DrownedRoomsModel", "readFirst", "(II)Z"⟩, 54) := ⟨⟨by decide +kernel, by decide +kernel⟩, List.mem_of_getElem? (i := 1595) (by decide +kernel), List.mem_of_getElem? (i := 1844) (by decide +kernel), List.mem_of_getElem? (i := 1845) (by decide +kernel)⟩
theorem lw_p66 : lw_okq (⟨"DrownedRoomsModel", "readNew", "(I)Z"⟩, 54) := ⟨⟨by decide +kernel, by decide +kernel⟩, List.mem_of_getElem? (i := 1595) (by decide +kernel), List.mem_of_getElem? (i := 1848) (by decide +kernel), List.mem_of_getElem? (i := 1849) (by decide +kernel)⟩
theorem lw_p67 : lw_okq (⟨"DrownedRoomsModel", "isName", "()Z"⟩, 54) := ⟨⟨by decide +kernel, by decide +kernel⟩, List.mem_of_getElem? (i := 1595) (by decide +kernel), List.mem_of_getElem? (i := 1852) (by decide +kernel), List.mem_of_getElem? (i := 1853) (by decide +kernel)⟩
theorem lw_p68 : lw_okq (⟨"DrownedRoomsModel", "readRoom", "()Z"⟩, 54) := ⟨⟨by decide +kernel, by decide +kernel⟩, List.mem_of_getElem? (i := 1595) (by decide +kernel), List.mem_of_getElem? (i := 1859) (by decide +kernel), List.mem_of_getElem? (i := 1860) (by decide +kernel)⟩
theorem lw_p69 : lw_okq (⟨"DrownedRoomsModel", "isOne", "(II)Z"⟩, 54) := ⟨⟨by decide +kernel, by decide +kernel⟩, List.mem_of_getElem? (i := 1595) (by decide +kernel), List.mem_of_getElem? (i := 1863) (by decide +kernel), List.mem_of_getElem? (i := 1864) (by decide +kernel)⟩
theorem lw_p70 : lw_okq (⟨"DrownedRoomsModel", "readGuest", "()Z"⟩, 54) := ⟨⟨by decide +kernel, by decide +kernel⟩, List.mem_of_getElem? (i := 1595) (by decide +kernel), List.mem_of_getElem? (i := 1867) (by decide +kernel), List.mem_of_getElem? (i := 1868) (by decide +kernel)⟩
theorem lw_p71 : lw_okq (⟨"DrownedRoomsModel", "readQuarrel", "()Z"⟩, 54) := ⟨⟨by decide +kernel, by decide +kernel⟩, List.mem_of_getElem? (i := 1595) (by decide +kernel), List.mem_of_getElem? (i := 1871) (by decide +kernel), List.mem_of_getElem? (i := 1872) (by decide +kernel)⟩
theorem lw_p72 : lw_okq (⟨"DrownedRoomsModel", "isGuestHere", "()Z"⟩, 54) := ⟨⟨by decide +kernel, by decide +kernel⟩, List.mem_of_getElem? (i := 1595) (by decide +kernel), List.mem_of_getElem? (i := 1875) (by decide +kernel), List.mem_of_getElem? (i := 1876) (by decide +kernel)⟩
theorem lw_p73 : lw_okq (⟨"DrownedRoomsModel", "readSleeps", "()Z"⟩, 54) := ⟨⟨by decide +kernel, by decide +kernel⟩, List.mem_of_getElem? (i := 1595) (by decide +kernel), List.mem_of_getElem? (i := 1882) (by decide +kernel), List.mem_of_getElem? (i := 1883) (by decide +kernel)⟩
theorem lw_p74 : lw_okq (⟨"DrownedRoomsModel", "readEnd", "()Z"⟩, 54) := ⟨⟨by decide +kernel, by decide +kernel⟩, List.mem_of_getElem? (i := 1595) (by decide +kernel), List.mem_of_getElem? (i := 1886) (by decide +kernel), List.mem_of_getElem? (i := 1887) (by decide +kernel)⟩
theorem lw_p75 : lw_okq (⟨"DrownedRoomsModel", "isSign", "(I)Z"⟩, 54) := ⟨⟨by decide +kernel, by decide +kernel⟩, List.mem_of_getElem? (i := 1595) (by decide +kernel), List.mem_of_getElem? (i := 1890) (by decide +kernel), List.mem_of_getElem? (i := 1891) (by decide +kernel)⟩
theorem lw_p76 : lw_okq (⟨"DrownedRoomsModel", "isRoom", "(I)Z"⟩, 54) := ⟨⟨by decide +kernel, by decide +kernel⟩, List.mem_of_getElem? (i := 1595) (by decide +kernel), List.mem_of_getElem? (i := 1902) (by decide +kernel), List.mem_of_getElem? (i := 1903) (by decide +kernel)⟩
theorem lw_p77 : lw_okq (⟨"DrownedRoomsModel", "refuse", "()I"⟩, 54) := ⟨⟨by decide +kernel, by decide +kernel⟩, List.mem_of_getElem? (i := 1595) (by decide +kernel), List.mem_of_getElem? (i := 1906) (by decide +kernel), List.mem_of_getElem? (i := 1907) (by decide +kernel)⟩
theorem lw_p78 : lw_okq (⟨"DrownedRoomsModel", "depthOf", "(I)I"⟩, 54) := ⟨⟨by decide +kernel, by decide +kernel⟩, List.mem_of_getElem? (i := 1595) (by decide +kernel), List.mem_of_getElem? (i := 1910) (by decide +kernel), List.mem_of_getElem? (i := 1911) (by decide +kernel)⟩
theorem lw_p79 : lw_okq (⟨"DrownedRoomsModel", "whoHas", "(I)I"⟩, 54) := ⟨⟨by decide +kernel, by decide +kernel⟩, List.mem_of_getElem? (i := 1595) (by decide +kernel), List.mem_of_getElem? (i := 1914) (by decide +kernel), List.mem_of_getElem? (i := 1915) (by decide +kernel)⟩
def lw_privs_5 : List (MethodName × Nat) := [(⟨"DrownedRoomsModel", "readHouse", "()Z"⟩, 54), (⟨"DrownedRoomsModel", "readFirst", "(II)Z"⟩, 54), (⟨"DrownedRoomsModel", "readNew", "(I)Z"⟩, 54), (⟨"DrownedRoomsModel", "isName", "()Z"⟩, 54), (⟨"DrownedRoomsModel", "readRoom", "()Z"⟩, 54), (⟨"DrownedRoomsModel", "isOne", "(II)Z"⟩, 54), (⟨"DrownedRoomsModel", "readGuest", "()Z"⟩, 54), (⟨"DrownedRoomsModel", "readQuarrel", "()Z"⟩, 54), (⟨"DrownedRoomsModel", "isGuestHere", "()Z"⟩, 54), (⟨"DrownedRoomsModel", "readSleeps", "()Z"⟩, 54), (⟨"DrownedRoomsModel", "readEnd", "()Z"⟩, 54), (⟨"DrownedRoomsModel", "isSign", "(I)Z"⟩, 54), (⟨"DrownedRoomsModel", "isRoom", "(I)Z"⟩, 54), (⟨"DrownedRoomsModel", "refuse", "()I"⟩, 54), (⟨"DrownedRoomsModel", "depthOf", "(I)I"⟩, 54), (⟨"DrownedRoomsModel", "whoHas", "(I)I"⟩, 54)]
theorem lw_r5 : ∀ q ∈ lw_privs_5, lw_okq q := List.forall_mem_cons.mpr ⟨lw_p64, List.forall_mem_cons.mpr ⟨lw_p65, List.forall_mem_cons.mpr ⟨lw_p66, List.forall_mem_cons.mpr ⟨lw_p67, List.forall_mem_cons.mpr ⟨lw_p68, List.forall_mem_cons.mpr ⟨lw_p69, List.forall_mem_cons.mpr ⟨lw_p70, List.forall_mem_cons.mpr ⟨lw_p71, List.forall_mem_cons.mpr ⟨lw_p72, List.forall_mem_cons.mpr ⟨lw_p73, List.forall_mem_cons.mpr ⟨lw_p74, List.forall_mem_cons.mpr ⟨lw_p75, List.forall_mem_cons.mpr ⟨lw_p76, List.forall_mem_cons.mpr ⟨lw_p77, List.forall_mem_cons.mpr ⟨lw_p78, List.forall_mem_cons.mpr ⟨lw_p79, fun _ h => absurd h List.not_mem_nil⟩⟩⟩⟩⟩⟩⟩⟩⟩⟩⟩⟩⟩⟩⟩⟩
theorem lw_p80 : lw_okq (⟨"DrownedRoomsModel", "isGuest", "(I)Z"⟩, 54) := ⟨⟨by decide +kernel, by decide +kernel⟩, List.mem_of_getElem? (i := 1595) (by decide +kernel), List.mem_of_getElem? (i := 1922) (by decide +kernel), List.mem_of_getElem? (i := 1923) (by decide +kernel)⟩
theorem lw_p81 : lw_okq (⟨"DrownedRoomsModel", "wets", "()I"⟩, 54) := ⟨⟨by decide +kernel, by decide +kernel⟩, List.mem_of_getElem? (i := 1595) (by decide +kernel), List.mem_of_getElem? (i := 1930) (by decide +kernel), List.mem_of_getElem? (i := 1931) (by decide +kernel)⟩
theorem lw_p82 : lw_okq (⟨"DrownedRoomsModel", "hasRoom", "(I)Z"⟩, 54) := ⟨⟨by decide +kernel, by decide +kernel⟩, List.mem_of_getElem? (i := 1595) (by decide +kernel), List.mem_of_getElem? (i := 1934) (by decide +kernel), List.mem_of_getElem? (i := 1935) (by decide +kernel)⟩
theorem lw_p83 : lw_okq (⟨"DrownedRoomsModel", "sum", "(II)I"⟩, 54) := ⟨⟨by decide +kernel, by decide +kernel⟩, List.mem_of_getElem? (i := 1595) (by decide +kernel), List.mem_of_getElem? (i := 1938) (by decide +kernel), List.mem_of_getElem? (i := 1939) (by decide +kernel)⟩
theorem lw_p84 : lw_okq (⟨"DrownedRoomsModel", "act", "(IIIIZ)I"⟩, 54) := ⟨⟨by decide +kernel, by decide +kernel⟩, List.mem_of_getElem? (i := 1595) (by decide +kernel), List.mem_of_getElem? (i := 1946) (by decide +kernel), List.mem_of_getElem? (i := 1947) (by decide +kernel)⟩
theorem lw_p85 : lw_okq (⟨"DrownedRoomsModel", "why", "(III)I"⟩, 54) := ⟨⟨by decide +kernel, by decide +kernel⟩, List.mem_of_getElem? (i := 1595) (by decide +kernel), List.mem_of_getElem? (i := 1950) (by decide +kernel), List.mem_of_getElem? (i := 1951) (by decide +kernel)⟩
theorem lw_p86 : lw_okq (⟨"DrownedRoomsModel", "snap", "()V"⟩, 54) := ⟨⟨by decide +kernel, by decide +kernel⟩, List.mem_of_getElem? (i := 1595) (by decide +kernel), List.mem_of_getElem? (i := 1954) (by decide +kernel), List.mem_of_getElem? (i := 1955) (by decide +kernel)⟩
theorem lw_p87 : lw_okq (⟨"DrownedRoomsModel", "live", "(IIII)V"⟩, 54) := ⟨⟨by decide +kernel, by decide +kernel⟩, List.mem_of_getElem? (i := 1595) (by decide +kernel), List.mem_of_getElem? (i := 1958) (by decide +kernel), List.mem_of_getElem? (i := 1959) (by decide +kernel)⟩
theorem lw_p88 : lw_okq (⟨"DrownedRoomsModel", "goAway", "(I)V"⟩, 54) := ⟨⟨by decide +kernel, by decide +kernel⟩, List.mem_of_getElem? (i := 1595) (by decide +kernel), List.mem_of_getElem? (i := 1962) (by decide +kernel), List.mem_of_getElem? (i := 1963) (by decide +kernel)⟩
theorem lw_p89 : lw_okq (⟨"DrownedRoomsModel", "passDays", "(I)I"⟩, 54) := ⟨⟨by decide +kernel, by decide +kernel⟩, List.mem_of_getElem? (i := 1595) (by decide +kernel), List.mem_of_getElem? (i := 1982) (by decide +kernel), List.mem_of_getElem? (i := 1983) (by decide +kernel)⟩
theorem lw_p90 : lw_okq (⟨"DrownedRoomsModel", "oneDay", "()V"⟩, 54) := ⟨⟨by decide +kernel, by decide +kernel⟩, List.mem_of_getElem? (i := 1595) (by decide +kernel), List.mem_of_getElem? (i := 1989) (by decide +kernel), List.mem_of_getElem? (i := 1990) (by decide +kernel)⟩
theorem lw_p91 : lw_okq (⟨"DrownedRoomsModel", "levelBehind", "(III)I"⟩, 54) := ⟨⟨by decide +kernel, by decide +kernel⟩, List.mem_of_getElem? (i := 1595) (by decide +kernel), List.mem_of_getElem? (i := 1993) (by decide +kernel), List.mem_of_getElem? (i := 1994) (by decide +kernel)⟩
theorem lw_p92 : lw_okq (⟨"DrownedRoomsModel", "night", "(I)V"⟩, 54) := ⟨⟨by decide +kernel, by decide +kernel⟩, List.mem_of_getElem? (i := 1595) (by decide +kernel), List.mem_of_getElem? (i := 1997) (by decide +kernel), List.mem_of_getElem? (i := 1998) (by decide +kernel)⟩
theorem lw_p93 : lw_okq (⟨"DrownedRoomsModel", "layAside", "()V"⟩, 54) := ⟨⟨by decide +kernel, by decide +kernel⟩, List.mem_of_getElem? (i := 1595) (by decide +kernel), List.mem_of_getElem? (i := 2005) (by decide +kernel), List.mem_of_getElem? (i := 2006) (by decide +kernel)⟩
theorem lw_p94 : lw_okq (⟨"DrownedRoomsModel", "takeBack", "()V"⟩, 54) := ⟨⟨by decide +kernel, by decide +kernel⟩, List.mem_of_getElem? (i := 1595) (by decide +kernel), List.mem_of_getElem? (i := 2009) (by decide +kernel), List.mem_of_getElem? (i := 2010) (by decide +kernel)⟩
theorem lw_p95 : lw_okq (⟨"DrownedRoomsModel", "layLevels", "()V"⟩, 54) := ⟨⟨by decide +kernel, by decide +kernel⟩, List.mem_of_getElem? (i := 1595) (by decide +kernel), List.mem_of_getElem? (i := 2025) (by decide +kernel), List.mem_of_getElem? (i := 2026) (by decide +kernel)⟩
def lw_privs_6 : List (MethodName × Nat) := [(⟨"DrownedRoomsModel", "isGuest", "(I)Z"⟩, 54), (⟨"DrownedRoomsModel", "wets", "()I"⟩, 54), (⟨"DrownedRoomsModel", "hasRoom", "(I)Z"⟩, 54), (⟨"DrownedRoomsModel", "sum", "(II)I"⟩, 54), (⟨"DrownedRoomsModel", "act", "(IIIIZ)I"⟩, 54), (⟨"DrownedRoomsModel", "why", "(III)I"⟩, 54), (⟨"DrownedRoomsModel", "snap", "()V"⟩, 54), (⟨"DrownedRoomsModel", "live", "(IIII)V"⟩, 54), (⟨"DrownedRoomsModel", "goAway", "(I)V"⟩, 54), (⟨"DrownedRoomsModel", "passDays", "(I)I"⟩, 54), (⟨"DrownedRoomsModel", "oneDay", "()V"⟩, 54), (⟨"DrownedRoomsModel", "levelBehind", "(III)I"⟩, 54), (⟨"DrownedRoomsModel", "night", "(I)V"⟩, 54), (⟨"DrownedRoomsModel", "layAside", "()V"⟩, 54), (⟨"DrownedRoomsModel", "takeBack", "()V"⟩, 54), (⟨"DrownedRoomsModel", "layLevels", "()V"⟩, 54)]
theorem lw_r6 : ∀ q ∈ lw_privs_6, lw_okq q := List.forall_mem_cons.mpr ⟨lw_p80, List.forall_mem_cons.mpr ⟨lw_p81, List.forall_mem_cons.mpr ⟨lw_p82, List.forall_mem_cons.mpr ⟨lw_p83, List.forall_mem_cons.mpr ⟨lw_p84, List.forall_mem_cons.mpr ⟨lw_p85, List.forall_mem_cons.mpr ⟨lw_p86, List.forall_mem_cons.mpr ⟨lw_p87, List.forall_mem_cons.mpr ⟨lw_p88, List.forall_mem_cons.mpr ⟨lw_p89, List.forall_mem_cons.mpr ⟨lw_p90, List.forall_mem_cons.mpr ⟨lw_p91, List.forall_mem_cons.mpr ⟨lw_p92, List.forall_mem_cons.mpr ⟨lw_p93, List.forall_mem_cons.mpr ⟨lw_p94, List.forall_mem_cons.mpr ⟨lw_p95, fun _ h => absurd h List.not_mem_nil⟩⟩⟩⟩⟩⟩⟩⟩⟩⟩⟩⟩⟩⟩⟩⟩
theorem lw_p96 : lw_okq (⟨"DrownedRoomsModel", "stayFrom", "(III)V"⟩, 54) := ⟨⟨by decide +kernel, by decide +kernel⟩, List.mem_of_getElem? (i := 1595) (by decide +kernel), List.mem_of_getElem? (i := 2029) (by decide +kernel), List.mem_of_getElem? (i := 2030) (by decide +kernel)⟩
theorem lw_p97 : lw_okq (⟨"DrownedRoomsModel", "isDryFor", "(II)Z"⟩, 54) := ⟨⟨by decide +kernel, by decide +kernel⟩, List.mem_of_getElem? (i := 1595) (by decide +kernel), List.mem_of_getElem? (i := 2033) (by decide +kernel), List.mem_of_getElem? (i := 2034) (by decide +kernel)⟩
theorem lw_p98 : lw_okq (⟨"DrownedRoomsModel", "planFrom", "(IIIII)V"⟩, 54) := ⟨⟨by decide +kernel, by decide +kernel⟩, List.mem_of_getElem? (i := 1595) (by decide +kernel), List.mem_of_getElem? (i := 2045) (by decide +kernel), List.mem_of_getElem? (i := 2046) (by decide +kernel)⟩
theorem lw_p99 : lw_okq (⟨"DrownedRoomsModel", "rowFrom", "(IIIII)V"⟩, 54) := ⟨⟨by decide +kernel, by decide +kernel⟩, List.mem_of_getElem? (i := 1595) (by decide +kernel), List.mem_of_getElem? (i := 2058) (by decide +kernel), List.mem_of_getElem? (i := 2059) (by decide +kernel)⟩
theorem lw_p100 : lw_okq (⟨"DrownedRoomsModel", "far", "(III)I"⟩, 54) := ⟨⟨by decide +kernel, by decide +kernel⟩, List.mem_of_getElem? (i := 1595) (by decide +kernel), List.mem_of_getElem? (i := 2062) (by decide +kernel), List.mem_of_getElem? (i := 2063) (by decide +kernel)⟩
theorem lw_p101 : lw_okq (⟨"DrownedRoomsModel", "isMark", "(II)Z"⟩, 54) := ⟨⟨by decide +kernel, by decide +kernel⟩, List.mem_of_getElem? (i := 1595) (by decide +kernel), List.mem_of_getElem? (i := 2077) (by decide +kernel), List.mem_of_getElem? (i := 2078) (by decide +kernel)⟩
theorem lw_p102 : lw_okq (⟨"DrownedRoomsModel", "leftBy", "(II)I"⟩, 54) := ⟨⟨by decide +kernel, by decide +kernel⟩, List.mem_of_getElem? (i := 1595) (by decide +kernel), List.mem_of_getElem? (i := 2081) (by decide +kernel), List.mem_of_getElem? (i := 2082) (by decide +kernel)⟩
theorem lw_p103 : lw_okq (⟨"DrownedRoomsModel", "isLoud", "(II)Z"⟩, 54) := ⟨⟨by decide +kernel, by decide +kernel⟩, List.mem_of_getElem? (i := 1595) (by decide +kernel), List.mem_of_getElem? (i := 2105) (by decide +kernel), List.mem_of_getElem? (i := 2106) (by decide +kernel)⟩
theorem lw_p104 : lw_okq (⟨"DrownedRoomsModel", "writeWord", "(J)V"⟩, 54) := ⟨⟨by decide +kernel, by decide +kernel⟩, List.mem_of_getElem? (i := 1595) (by decide +kernel), List.mem_of_getElem? (i := 2121) (by decide +kernel), List.mem_of_getElem? (i := 2122) (by decide +kernel)⟩
theorem lw_p105 : lw_okq (⟨"DrownedRoomsModel", "write", "(I)V"⟩, 54) := ⟨⟨by decide +kernel, by decide +kernel⟩, List.mem_of_getElem? (i := 1595) (by decide +kernel), List.mem_of_getElem? (i := 2125) (by decide +kernel), List.mem_of_getElem? (i := 2126) (by decide +kernel)⟩
theorem lw_p106 : lw_okq (⟨"DrownedRoomsModel", "writeNext", "(J)V"⟩, 54) := ⟨⟨by decide +kernel, by decide +kernel⟩, List.mem_of_getElem? (i := 1595) (by decide +kernel), List.mem_of_getElem? (i := 2129) (by decide +kernel), List.mem_of_getElem? (i := 2130) (by decide +kernel)⟩
theorem lw_p107 : lw_okq (⟨"DrownedRoomsModel", "writeNumber", "(I)V"⟩, 54) := ⟨⟨by decide +kernel, by decide +kernel⟩, List.mem_of_getElem? (i := 1595) (by decide +kernel), List.mem_of_getElem? (i := 2133) (by decide +kernel), List.mem_of_getElem? (i := 2134) (by decide +kernel)⟩
theorem lw_p108 : lw_okq (⟨"DrownedRoomsModel", "drawDays", "(II)I"⟩, 54) := ⟨⟨by decide +kernel, by decide +kernel⟩, List.mem_of_getElem? (i := 1595) (by decide +kernel), List.mem_of_getElem? (i := 2145) (by decide +kernel), List.mem_of_getElem? (i := 2146) (by decide +kernel)⟩
theorem lw_p109 : lw_okq (⟨"DrownedRoomsModel", "drawsFor", "(I)V"⟩, 54) := ⟨⟨by decide +kernel, by decide +kernel⟩, List.mem_of_getElem? (i := 1595) (by decide +kernel), List.mem_of_getElem? (i := 2149) (by decide +kernel), List.mem_of_getElem? (i := 2150) (by decide +kernel)⟩
theorem lw_p110 : lw_okq (⟨"DrownedRoomsModel", "draw", "(I)I"⟩, 54) := ⟨⟨by decide +kernel, by decide +kernel⟩, List.mem_of_getElem? (i := 1595) (by decide +kernel), List.mem_of_getElem? (i := 2153) (by decide +kernel), List.mem_of_getElem? (i := 2154) (by decide +kernel)⟩
theorem lw_p111 : lw_okq (⟨"DrownedRoomsModel", "readBookLine", "()Z"⟩, 54) := ⟨⟨by decide +kernel, by decide +kernel⟩, List.mem_of_getElem? (i := 1595) (by decide +kernel), List.mem_of_getElem? (i := 2166) (by decide +kernel), List.mem_of_getElem? (i := 2167) (by decide +kernel)⟩
def lw_privs_7 : List (MethodName × Nat) := [(⟨"DrownedRoomsModel", "stayFrom", "(III)V"⟩, 54), (⟨"DrownedRoomsModel", "isDryFor", "(II)Z"⟩, 54), (⟨"DrownedRoomsModel", "planFrom", "(IIIII)V"⟩, 54), (⟨"DrownedRoomsModel", "rowFrom", "(IIIII)V"⟩, 54), (⟨"DrownedRoomsModel", "far", "(III)I"⟩, 54), (⟨"DrownedRoomsModel", "isMark", "(II)Z"⟩, 54), (⟨"DrownedRoomsModel", "leftBy", "(II)I"⟩, 54), (⟨"DrownedRoomsModel", "isLoud", "(II)Z"⟩, 54), (⟨"DrownedRoomsModel", "writeWord", "(J)V"⟩, 54), (⟨"DrownedRoomsModel", "write", "(I)V"⟩, 54), (⟨"DrownedRoomsModel", "writeNext", "(J)V"⟩, 54), (⟨"DrownedRoomsModel", "writeNumber", "(I)V"⟩, 54), (⟨"DrownedRoomsModel", "drawDays", "(II)I"⟩, 54), (⟨"DrownedRoomsModel", "drawsFor", "(I)V"⟩, 54), (⟨"DrownedRoomsModel", "draw", "(I)I"⟩, 54), (⟨"DrownedRoomsModel", "readBookLine", "()Z"⟩, 54)]
theorem lw_r7 : ∀ q ∈ lw_privs_7, lw_okq q := List.forall_mem_cons.mpr ⟨lw_p96, List.forall_mem_cons.mpr ⟨lw_p97, List.forall_mem_cons.mpr ⟨lw_p98, List.forall_mem_cons.mpr ⟨lw_p99, List.forall_mem_cons.mpr ⟨lw_p100, List.forall_mem_cons.mpr ⟨lw_p101, List.forall_mem_cons.mpr ⟨lw_p102, List.forall_mem_cons.mpr ⟨lw_p103, List.forall_mem_cons.mpr ⟨lw_p104, List.forall_mem_cons.mpr ⟨lw_p105, List.forall_mem_cons.mpr ⟨lw_p106, List.forall_mem_cons.mpr ⟨lw_p107, List.forall_mem_cons.mpr ⟨lw_p108, List.forall_mem_cons.mpr ⟨lw_p109, List.forall_mem_cons.mpr ⟨lw_p110, List.forall_mem_cons.mpr ⟨lw_p111, fun _ h => absurd h List.not_mem_nil⟩⟩⟩⟩⟩⟩⟩⟩⟩⟩⟩⟩⟩⟩⟩⟩
theorem lw_p112 : lw_okq (⟨"DrownedRoomsModel", "keep", "(IZ)Z"⟩, 54) := ⟨⟨by decide +kernel, by decide +kernel⟩, List.mem_of_getElem? (i := 1595) (by decide +kernel), List.mem_of_getElem? (i := 2170) (by decide +kernel), List.mem_of_getElem? (i := 2171) (by decide +kernel)⟩
theorem lw_p113 : lw_okq (⟨"DrownedRoomsModel", "readDoes", "(I)Z"⟩, 54) := ⟨⟨by decide +kernel, by decide +kernel⟩, List.mem_of_getElem? (i := 1595) (by decide +kernel), List.mem_of_getElem? (i := 2174) (by decide +kernel), List.mem_of_getElem? (i := 2175) (by decide +kernel)⟩
theorem lw_p114 : lw_okq (⟨"DrownedRoomsModel", "readNamed", "(II)Z"⟩, 54) := ⟨⟨by decide +kernel, by decide +kernel⟩, List.mem_of_getElem? (i := 1595) (by decide +kernel), List.mem_of_getElem? (i := 2178) (by decide +kernel), List.mem_of_getElem? (i := 2179) (by decide +kernel)⟩
theorem lw_p115 : lw_okq (⟨"DrownedRoomsModel", "goBy", "(I)I"⟩, 54) := ⟨⟨by decide +kernel, by decide +kernel⟩, List.mem_of_getElem? (i := 1595) (by decide +kernel), List.mem_of_getElem? (i := 2182) (by decide +kernel), List.mem_of_getElem? (i := 2183) (by decide +kernel)⟩
theorem lw_p116 : lw_okq (⟨"DrownedRoomsModel", "stay", "(Z)V"⟩, 54) := ⟨⟨by decide +kernel, by decide +kernel⟩, List.mem_of_getElem? (i := 1595) (by decide +kernel), List.mem_of_getElem? (i := 2186) (by decide +kernel), List.mem_of_getElem? (i := 2187) (by decide +kernel)⟩
theorem lw_p117 : lw_okq (⟨"DrownedRoomsModel", "readOr", "()Z"⟩, 54) := ⟨⟨by decide +kernel, by decide +kernel⟩, List.mem_of_getElem? (i := 1595) (by decide +kernel), List.mem_of_getElem? (i := 2198) (by decide +kernel), List.mem_of_getElem? (i := 2199) (by decide +kernel)⟩
theorem lw_p118 : lw_okq (⟨"DrownedRoomsModel", "readAnd", "()Z"⟩, 54) := ⟨⟨by decide +kernel, by decide +kernel⟩, List.mem_of_getElem? (i := 1595) (by decide +kernel), List.mem_of_getElem? (i := 2202) (by decide +kernel), List.mem_of_getElem? (i := 2203) (by decide +kernel)⟩
theorem lw_p119 : lw_okq (⟨"DrownedRoomsModel", "readSaid", "()Z"⟩, 54) := ⟨⟨by decide +kernel, by decide +kernel⟩, List.mem_of_getElem? (i := 1595) (by decide +kernel), List.mem_of_getElem? (i := 2206) (by decide +kernel), List.mem_of_getElem? (i := 2207) (by decide +kernel)⟩
theorem lw_p120 : lw_okq (⟨"DrownedRoomsModel", "readBracket", "()Z"⟩, 54) := ⟨⟨by decide +kernel, by decide +kernel⟩, List.mem_of_getElem? (i := 1595) (by decide +kernel), List.mem_of_getElem? (i := 2210) (by decide +kernel), List.mem_of_getElem? (i := 2211) (by decide +kernel)⟩
theorem lw_p121 : lw_okq (⟨"DrownedRoomsModel", "readNot", "()Z"⟩, 54) := ⟨⟨by decide +kernel, by decide +kernel⟩, List.mem_of_getElem? (i := 1595) (by decide +kernel), List.mem_of_getElem? (i := 2214) (by decide +kernel), List.mem_of_getElem? (i := 2215) (by decide +kernel)⟩
theorem lw_p122 : lw_okq (⟨"DrownedRoomsModel", "saysOne", "(IIII)I"⟩, 54) := ⟨⟨by decide +kernel, by decide +kernel⟩, List.mem_of_getElem? (i := 1595) (by decide +kernel), List.mem_of_getElem? (i := 2218) (by decide +kernel), List.mem_of_getElem? (i := 2219) (by decide +kernel)⟩
theorem lw_p123 : lw_okq (⟨"DrownedRoomsModel", "readOf", "(I)Z"⟩, 54) := ⟨⟨by decide +kernel, by decide +kernel⟩, List.mem_of_getElem? (i := 1595) (by decide +kernel), List.mem_of_getElem? (i := 2222) (by decide +kernel), List.mem_of_getElem? (i := 2223) (by decide +kernel)⟩
theorem lw_p124 : lw_okq (⟨"DrownedRoomsModel", "readCompare", "(I)Z"⟩, 54) := ⟨⟨by decide +kernel, by decide +kernel⟩, List.mem_of_getElem? (i := 1595) (by decide +kernel), List.mem_of_getElem? (i := 2226) (by decide +kernel), List.mem_of_getElem? (i := 2227) (by decide +kernel)⟩
theorem lw_p125 : lw_okq (⟨"DrownedRoomsModel", "holds", "(II)Z"⟩, 54) := ⟨⟨by decide +kernel, by decide +kernel⟩, List.mem_of_getElem? (i := 1595) (by decide +kernel), List.mem_of_getElem? (i := 2234) (by decide +kernel), List.mem_of_getElem? (i := 2235) (by decide +kernel)⟩
def lw_privs_8 : List (MethodName × Nat) := [(⟨"DrownedRoomsModel", "keep", "(IZ)Z"⟩, 54), (⟨"DrownedRoomsModel", "readDoes", "(I)Z"⟩, 54), (⟨"DrownedRoomsModel", "readNamed", "(II)Z"⟩, 54), (⟨"DrownedRoomsModel", "goBy", "(I)I"⟩, 54), (⟨"DrownedRoomsModel", "stay", "(Z)V"⟩, 54), (⟨"DrownedRoomsModel", "readOr", "()Z"⟩, 54), (⟨"DrownedRoomsModel", "readAnd", "()Z"⟩, 54), (⟨"DrownedRoomsModel", "readSaid", "()Z"⟩, 54), (⟨"DrownedRoomsModel", "readBracket", "()Z"⟩, 54), (⟨"DrownedRoomsModel", "readNot", "()Z"⟩, 54), (⟨"DrownedRoomsModel", "saysOne", "(IIII)I"⟩, 54), (⟨"DrownedRoomsModel", "readOf", "(I)Z"⟩, 54), (⟨"DrownedRoomsModel", "readCompare", "(I)Z"⟩, 54), (⟨"DrownedRoomsModel", "holds", "(II)Z"⟩, 54)]
theorem lw_r8 : ∀ q ∈ lw_privs_8, lw_okq q := List.forall_mem_cons.mpr ⟨lw_p112, List.forall_mem_cons.mpr ⟨lw_p113, List.forall_mem_cons.mpr ⟨lw_p114, List.forall_mem_cons.mpr ⟨lw_p115, List.forall_mem_cons.mpr ⟨lw_p116, List.forall_mem_cons.mpr ⟨lw_p117, List.forall_mem_cons.mpr ⟨lw_p118, List.forall_mem_cons.mpr ⟨lw_p119, List.forall_mem_cons.mpr ⟨lw_p120, List.forall_mem_cons.mpr ⟨lw_p121, List.forall_mem_cons.mpr ⟨lw_p122, List.forall_mem_cons.mpr ⟨lw_p123, List.forall_mem_cons.mpr ⟨lw_p124, List.forall_mem_cons.mpr ⟨lw_p125, fun _ h => absurd h List.not_mem_nil⟩⟩⟩⟩⟩⟩⟩⟩⟩⟩⟩⟩⟩⟩
def lw_privs : List (MethodName × Nat) := lw_privs_1 ++ (lw_privs_2 ++ (lw_privs_3 ++ (lw_privs_4 ++ (lw_privs_5 ++ (lw_privs_6 ++ (lw_privs_7 ++ (lw_privs_8)))))))
def lw_tbl : List Cond := k2_sels lw_privs ++ tables_1
theorem lw_privs_ok : ∀ q ∈ lw_privs, lw_okq q := by
  show ∀ q ∈ lw_privs_1 ++ (lw_privs_2 ++ (lw_privs_3 ++ (lw_privs_4 ++ (lw_privs_5 ++ (lw_privs_6 ++ (lw_privs_7 ++ (lw_privs_8))))))), lw_okq q
  exact List.forall_mem_append.mpr ⟨lw_r1, List.forall_mem_append.mpr ⟨lw_r2, List.forall_mem_append.mpr ⟨lw_r3, List.forall_mem_append.mpr ⟨lw_r4, List.forall_mem_append.mpr ⟨lw_r5, List.forall_mem_append.mpr ⟨lw_r6, List.forall_mem_append.mpr ⟨lw_r7, lw_r8⟩⟩⟩⟩⟩⟩⟩
-- ===== end of PART A; then your names; then what follows =====
end
section
/-! the words that every method has, and the lists of things that stand side by side -/
def gtbl : List Cond := lw_tbl.filter goodWord
theorem in_g {w : Cond} (h : w ∈ lw_tbl) (hg : goodWord w = true) : w ∈ gtbl := List.mem_filter.mpr ⟨h, hg⟩
def R2 {A B : Type} (r : A → B → Prop) : List A → List B → Prop
  | [], [] => True
  | a :: as, b :: bs => r a b ∧ R2 r as bs
  | _, _ => False
theorem R2.imp {A B : Type} {r r' : A → B → Prop} (h : ∀ a b, r a b → r' a b) : ∀ {as : List A} {bs : List B}, R2 r as bs → R2 r' as bs
  | [], [], _ => trivial
  | _ :: _, _ :: _, ⟨h1, h2⟩ => ⟨h _ _ h1, R2.imp h h2⟩
  | [], _ :: _, h => h.elim
  | _ :: _, [], h => h.elim
theorem R2.len {A B : Type} {r : A → B → Prop} : ∀ {as : List A} {bs : List B}, R2 r as bs → as.length = bs.length
  | [], [], _ => rfl
  | _ :: _, _ :: _, ⟨_, h2⟩ => by simp [R2.len h2]
  | [], _ :: _, h => h.elim
  | _ :: _, [], h => h.elim
theorem R2.get {A B : Type} {r : A → B → Prop} : ∀ {as : List A} {bs : List B}, R2 r as bs → ∀ {k : Nat} {a : A}, as[k]? = some a → ∃ b, bs[k]? = some b ∧ r a b
  | [], [], _, k, a, hk => by simp at hk
  | x :: _, y :: _, ⟨h1, h2⟩, 0, a, hk => by
    simp only [List.getElem?_cons_zero, Option.some.injEq] at hk
    subst hk
    exact ⟨y, rfl, h1⟩
  | x :: _, y :: _, ⟨h1, h2⟩, k + 1, a, hk => by
    simp only [List.getElem?_cons_succ] at hk ⊢
    exact R2.get h2 hk
  | [], _ :: _, h, _, _, _ => h.elim
  | _ :: _, [], h, _, _, _ => h.elim
theorem R2.getR {A B : Type} {r : A → B → Prop} : ∀ {as : List A} {bs : List B}, R2 r as bs → ∀ {k : Nat} {b : B}, bs[k]? = some b → ∃ a, as[k]? = some a ∧ r a b
  | [], [], _, k, a, hk => by simp at hk
  | x :: _, y :: _, ⟨h1, h2⟩, 0, a, hk => by
    simp only [List.getElem?_cons_zero, Option.some.injEq] at hk
    subst hk
    exact ⟨x, rfl, h1⟩
  | x :: _, y :: _, ⟨h1, h2⟩, k + 1, a, hk => by
    simp only [List.getElem?_cons_succ] at hk ⊢
    exact R2.getR h2 hk
  | [], _ :: _, h, _, _, _ => h.elim
  | _ :: _, [], h, _, _, _ => h.elim
theorem R2.set {A B : Type} {r : A → B → Prop} {a : A} {b : B} (hab : r a b) : ∀ {as : List A} {bs : List B}, R2 r as bs → ∀ (k : Nat), R2 r (as.set k a) (bs.set k b)
  | [], [], _, k => by simp [R2]
  | x :: _, y :: _, ⟨h1, h2⟩, 0 => ⟨hab, h2⟩
  | x :: _, y :: _, ⟨h1, h2⟩, k + 1 => ⟨h1, R2.set hab h2 k⟩
  | [], _ :: _, h, _ => h.elim
  | _ :: _, [], h, _ => h.elim
theorem R2.app {A B : Type} {r : A → B → Prop} : ∀ {as : List A} {bs : List B}, R2 r as bs → ∀ {as' : List A} {bs' : List B}, R2 r as' bs' → R2 r (as ++ as') (bs ++ bs')
  | [], [], _, _, _, h' => h'
  | _ :: _, _ :: _, ⟨h1, h2⟩, _, _, h' => ⟨h1, R2.app h2 h'⟩
  | [], _ :: _, h, _, _, _ => h.elim
  | _ :: _, [], h, _, _, _ => h.elim
theorem R2.one {A B : Type} {r : A → B → Prop} {a : A} {b : B} (h : r a b) : R2 r [a] [b] := ⟨h, trivial⟩
theorem R2.filter {A B : Type} {r : A → B → Prop} {p : A → Bool} {q : B → Bool} (hpq : ∀ a b, r a b → p a = q b) : ∀ {as : List A} {bs : List B}, R2 r as bs → R2 r (as.filter p) (bs.filter q)
  | [], [], _ => trivial
  | a :: as, b :: bs, ⟨h1, h2⟩ => by
    have h3 := R2.filter hpq h2
    have h4 := hpq a b h1
    cases hp : p a with
    | true =>
      rw [List.filter_cons_of_pos hp, List.filter_cons_of_pos (h4 ▸ hp)]
      exact ⟨h1, h3⟩
    | false =>
      have hq : ¬ q b = true := by rw [← h4, hp]; simp
      rw [List.filter_cons_of_neg (by rw [hp]; simp), List.filter_cons_of_neg hq]
      exact h3
  | [], _ :: _, h => h.elim
  | _ :: _, [], h => h.elim
theorem R2.nil_inv {A B : Type} {r : A → B → Prop} {bs : List B} (h : R2 r [] bs) : bs = [] := by
  cases bs with
  | nil => rfl
  | cons _ _ => exact h.elim
theorem R2.cons_inv {A B : Type} {r : A → B → Prop} {a : A} {as : List A} {bs : List B} (h : R2 r (a :: as) bs) : ∃ b bs', bs = b :: bs' ∧ r a b ∧ R2 r as bs' := by
  cases bs with
  | nil => exact h.elim
  | cons b bs' => exact ⟨b, bs', rfl, h.1, h.2⟩
/-! linear forms: numbers that are sums of named ones; intervals -/
abbrev eLF : Type := List (Nat × Int) × Int
abbrev eEv : Type := List (Int × Int)
def lev (ρ : List Int) : List (Nat × Int) → Option Int
  | [] => some 0
  | q :: t => match ρ[q.1]?, lev ρ t with
    | some x, some y => some (q.2 * x + y)
    | _, _ => none
def lfv (ρ : List Int) (f : eLF) (x : Int) : Prop := lev ρ f.1 = some (x - f.2)
theorem lev_cons {ρ : List Int} {q : Nat × Int} {t : List (Nat × Int)} {z : Int} (h : lev ρ (q :: t) = some z) : ∃ x y, ρ[q.1]? = some x ∧ lev ρ t = some y ∧ z = q.2 * x + y := by
  unfold lev at h
  split at h
  · rename_i x y h1 h2
    exact ⟨x, y, h1, h2, (Option.some.inj h).symm⟩
  · cases h
theorem lev_mk {ρ : List Int} {q : Nat × Int} {t : List (Nat × Int)} {x y : Int} (h1 : ρ[q.1]? = some x) (h2 : lev ρ t = some y) : lev ρ (q :: t) = some (q.2 * x + y) := by
  unfold lev
  rw [h1, h2]
theorem lev_mono {ρ : List Int} (σ : List Int) : ∀ {t : List (Nat × Int)} {z : Int}, lev ρ t = some z → lev (ρ ++ σ) t = some z
  | [], z, h => h
  | q :: t, z, h => by
    obtain ⟨x, y, h1, h2, rfl⟩ := lev_cons h
    exact lev_mk (by rw [List.getElem?_append_left (List.getElem?_eq_some_iff.mp h1).1]; exact h1) (lev_mono σ h2)
theorem lfv_mono {ρ : List Int} (σ : List Int) {f : eLF} {x : Int} (h : lfv ρ f x) : lfv (ρ ++ σ) f x := lev_mono σ h
theorem lfv_fun {ρ : List Int} {f : eLF} {x y : Int} (h : lfv ρ f x) (h' : lfv ρ f y) : x = y := by
  unfold lfv at h h'
  rw [h] at h'
  have := Option.some.inj h'
  omega
/-- one term into a sorted list -/
def lins (v : Nat) (k : Int) : List (Nat × Int) → List (Nat × Int)
  | [] => [(v, k)]
  | q :: t => bif Nat.blt v q.1 then (v, k) :: q :: t else bif Nat.beq v q.1 then (match k + q.2 with
      | Int.ofNat 0 => t
      | z => (v, z) :: t) else q :: lins v k t
theorem lins_ok {ρ : List Int} {v : Nat} {k x : Int} (hx : ρ[v]? = some x) : ∀ {t : List (Nat × Int)} {y : Int}, lev ρ t = some y → lev ρ (lins v k t) = some (k * x + y)
  | [], y, h => lev_mk (q := (v, k)) hx h
  | q :: t, y, h => by
    unfold lins
    cases h1 : Nat.blt v q.1 with
    | true => exact lev_mk (q := (v, k)) hx h
    | false =>
      cases h2 : Nat.beq v q.1 with
      | true =>
        have hv : v = q.1 := Nat.eq_of_beq_eq_true h2
        obtain ⟨x', y', e1, e2, rfl⟩ := lev_cons h
        rw [← hv, hx] at e1
        cases e1
        dsimp only [cond_true, cond_false]
        split
        · rename_i hz
          have hz' : k + q.2 = 0 := hz
          rw [e2]
          have : k = - q.2 := by omega
          rw [this]
          congr 1
          rw [Int.neg_mul]
          omega
        · rw [lev_mk (q := (v, k + q.2)) hx e2]
          congr 1
          show (k + q.2) * x + y' = k * x + (q.2 * x + y')
          rw [Int.add_mul]
          omega
      | false =>
        obtain ⟨x', y', e1, e2, rfl⟩ := lev_cons h
        dsimp only [cond_true, cond_false]
        rw [lev_mk e1 (lins_ok hx e2)]
        congr 1
        omega
def ladd : List (Nat × Int) → List (Nat × Int) → List (Nat × Int)
  | [], b => b
  | q :: t, b => lins q.1 q.2 (ladd t b)
theorem ladd_ok {ρ : List Int} {b : List (Nat × Int)} {y : Int} (hb : lev ρ b = some y) : ∀ {a : List (Nat × Int)} {x : Int}, lev ρ a = some x → lev ρ (ladd a b) = some (x + y)
  | [], x, h => by
    cases h
    rw [Int.zero_add]
    exact hb
  | q :: t, x, h => by
    obtain ⟨x', y', e1, e2, rfl⟩ := lev_cons h
    show lev ρ (lins q.1 q.2 (ladd t b)) = _
    rw [lins_ok e1 (ladd_ok hb e2)]
    congr 1
    omega
def lsc (k : Int) : List (Nat × Int) → List (Nat × Int)
  | [] => []
  | q :: t => (q.1, k * q.2) :: lsc k t
theorem lsc_ok {ρ : List Int} {k : Int} : ∀ {a : List (Nat × Int)} {x : Int}, lev ρ a = some x → lev ρ (lsc k a) = some (k * x)
  | [], x, h => by cases h; show some 0 = some (k * 0); rw [Int.mul_zero]
  | q :: t, x, h => by
    obtain ⟨x', y', e1, e2, rfl⟩ := lev_cons h
    show lev ρ ((q.1, k * q.2) :: lsc k t) = _
    rw [lev_mk (q := (q.1, k * q.2)) e1 (lsc_ok e2)]
    congr 1
    show k * q.2 * x' + k * y' = k * (q.2 * x' + y')
    rw [Int.mul_add, Int.mul_assoc]
def fadd (f g : eLF) : eLF := (ladd f.1 g.1, f.2 + g.2)
def fsc (k : Int) (f : eLF) : eLF := match k with
  | Int.ofNat 0 => ([], 0)
  | k => (lsc k f.1, k * f.2)
def fsub (f g : eLF) : eLF := fadd f (fsc (-1) g)
def fpl (f : eLF) (k : Int) : eLF := (f.1, f.2 + k)
def fc (k : Int) : eLF := ([], k)
theorem fc_ok {ρ : List Int} (k : Int) : lfv ρ (fc k) k := by
  show some (0 : Int) = some (k - k)
  rw [Int.sub_self]
theorem fc_inv {ρ : List Int} {k x : Int} (h : lfv ρ ([], k) x) : x = k := by
  have : some (0 : Int) = some (x - k) := h
  have := Option.some.inj this
  omega
theorem fadd_ok {ρ : List Int} {f g : eLF} {x y : Int} (h : lfv ρ f x) (h' : lfv ρ g y) : lfv ρ (fadd f g) (x + y) := by
  unfold lfv at *
  show lev ρ (ladd f.1 g.1) = some (x + y - (f.2 + g.2))
  rw [ladd_ok h' h]
  congr 1
  omega
theorem fsc_ok {ρ : List Int} {k : Int} {f : eLF} {x : Int} (h : lfv ρ f x) : lfv ρ (fsc k f) (k * x) := by
  unfold fsc
  split
  · show some (0 : Int) = some ((0 : Int) * x - 0)
    rw [Int.zero_mul]
    rfl
  · unfold lfv at *
    show lev ρ (lsc k f.1) = some (k * x - k * f.2)
    rw [lsc_ok h, Int.mul_sub]
theorem fsub_ok {ρ : List Int} {f g : eLF} {x y : Int} (h : lfv ρ f x) (h' : lfv ρ g y) : lfv ρ (fsub f g) (x - y) := by
  have h1 := fadd_ok h (fsc_ok (k := -1) h')
  have e : x + -1 * y = x - y := by omega
  rw [e] at h1
  exact h1
theorem fpl_ok {ρ : List Int} {f : eLF} {x : Int} (k : Int) (h : lfv ρ f x) : lfv ρ (fpl f k) (x + k) := by
  unfold lfv at *
  show lev ρ f.1 = some (x + k - (f.2 + k))
  rw [h]
  congr 1
  omega
def ivr (i : Int × Int) (x : Int) : Prop := i.1 ≤ x ∧ x ≤ i.2
abbrev eOk (env : eEv) (ρ : List Int) : Prop := R2 ivr env ρ
/-- the interval of a sum -/
def lrg (env : eEv) : List (Nat × Int) → Option (Int × Int)
  | [] => some (0, 0)
  | q :: t => match env[q.1]?, lrg env t with
    | some i, some j => (match q.2 with
      | Int.ofNat _ => some (q.2 * i.1 + j.1, q.2 * i.2 + j.2)
      | Int.negSucc _ => some (q.2 * i.2 + j.1, q.2 * i.1 + j.2))
    | _, _ => none
theorem lrg_ok {env : eEv} {ρ : List Int} (hE : eOk env ρ) : ∀ {t : List (Nat × Int)} {j : Int × Int} {x : Int}, lrg env t = some j → lev ρ t = some x → ivr j x
  | [], j, x, h, hx => by
    cases h; cases hx
    exact ⟨Int.le_refl 0, Int.le_refl 0⟩
  | q :: t, j, x, h, hx => by
    obtain ⟨a, b, e1, e2, rfl⟩ := lev_cons hx
    unfold lrg at h
    split at h
    · rename_i i jj h1 h2
      obtain ⟨a', e3, h3⟩ := R2.get hE h1
      rw [e1] at e3
      cases e3
      have h4 := lrg_ok hE h2 e2
      split at h
      · rename_i n hn
        have hp : 0 ≤ q.2 := by rw [hn]; exact Int.natCast_nonneg n
        cases h
        exact ⟨Int.add_le_add (Int.mul_le_mul_of_nonneg_left h3.1 hp) h4.1, Int.add_le_add (Int.mul_le_mul_of_nonneg_left h3.2 hp) h4.2⟩
      · rename_i n hn
        have hp : q.2 ≤ 0 := by rw [hn]; exact Int.le_of_lt (Int.negSucc_lt_zero n)
        cases h
        exact ⟨Int.add_le_add (Int.mul_le_mul_of_nonpos_left hp h3.2) h4.1, Int.add_le_add (Int.mul_le_mul_of_nonpos_left hp h3.1) h4.2⟩
    · cases h
end
