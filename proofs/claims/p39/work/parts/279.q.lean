def q_19 : MethodName × ByteArray × Nat × Option FieldType := (⟨"DrownedRooms", "feed", "(IIIII)I"⟩, prog_1_method_2_code, 6, some .int)
theorem mq_19 : mq 19 = q_19 := rfl
def q_20 : MethodName × ByteArray × Nat × Option FieldType := (⟨"DrownedRooms$Tape", "hasRoomForFeed", "()Z"⟩, prog_11_method_2_code, 1, some .boolean)
theorem mq_20 : mq 20 = q_20 := rfl
def q_21 : MethodName × ByteArray × Nat × Option FieldType := (⟨"DrownedRooms$Tape", "add", "(I)V"⟩, prog_11_method_3_code, 3, none)
theorem mq_21 : mq 21 = q_21 := rfl
def q_22 : MethodName × ByteArray × Nat × Option FieldType := (⟨"DrownedRooms$Tape", "size", "()I"⟩, prog_11_method_4_code, 1, some .int)
theorem mq_22 : mq 22 = q_22 := rfl
def q_23 : MethodName × ByteArray × Nat × Option FieldType := (⟨"DrownedRooms", "end", "(I)Z"⟩, prog_1_method_3_code, 2, some .boolean)
theorem mq_23 : mq 23 = q_23 := rfl
def q_24 : MethodName × ByteArray × Nat × Option FieldType := (⟨"DrownedRooms$Tape", "cutTo", "(I)Z"⟩, prog_11_method_5_code, 2, some .boolean)
theorem mq_24 : mq 24 = q_24 := rfl
def q_53 : MethodName × ByteArray × Nat × Option FieldType := (⟨"DrownedRooms", "isWithin", "(III)Z"⟩, prog_1_method_46_code, 3, some .boolean)
theorem mq_53 : mq 53 = q_53 := rfl
def q_78 : MethodName × ByteArray × Nat × Option FieldType := (⟨"DrownedRooms$Valley", "copyFrom", "(LDrownedRooms$Valley;)V"⟩, prog_12_method_2_code, 2, none)
theorem mq_78 : mq 78 = q_78 := rfl
def q_80 : MethodName × ByteArray × Nat × Option FieldType := (⟨"DrownedRooms$History", "forget", "()V"⟩, prog_4_method_4_code, 1, none)
theorem mq_80 : mq 80 = q_80 := rfl
def q_82 : MethodName × ByteArray × Nat × Option FieldType := (⟨"DrownedRooms", "now", "(I)I"⟩, prog_1_method_8_code, 2, some .int)
theorem mq_82 : mq 82 = q_82 := rfl
def q_83 : MethodName × ByteArray × Nat × Option FieldType := (⟨"DrownedRooms$Lake", "wetRooms", "()I"⟩, prog_6_method_6_code, 1, some .int)
theorem mq_83 : mq 83 = q_83 := rfl
def q_84 : MethodName × ByteArray × Nat × Option FieldType := (⟨"DrownedRooms$Valley", "allRooms", "()I"⟩, prog_12_method_7_code, 1, some .int)
theorem mq_84 : mq 84 = q_84 := rfl
def q_85 : MethodName × ByteArray × Nat × Option FieldType := (⟨"DrownedRooms$Valley", "dryRoomsAt", "(I)I"⟩, prog_12_method_6_code, 4, some .int)
theorem mq_85 : mq 85 = q_85 := rfl
def q_86 : MethodName × ByteArray × Nat × Option FieldType := (⟨"DrownedRooms$Lake", "letRooms", "()I"⟩, prog_6_method_7_code, 3, some .int)
theorem mq_86 : mq 86 = q_86 := rfl
def q_87 : MethodName × ByteArray × Nat × Option FieldType := (⟨"DrownedRooms$Lake", "roomBitOf", "(I)I"⟩, prog_6_method_9_code, 2, some .int)
theorem mq_87 : mq 87 = q_87 := rfl
def q_88 : MethodName × ByteArray × Nat × Option FieldType := (⟨"DrownedRooms$Lake", "broughtInAll", "()I"⟩, prog_6_method_11_code, 3, some .int)
theorem mq_88 : mq 88 = q_88 := rfl
def q_89 : MethodName × ByteArray × Nat × Option FieldType := (⟨"DrownedRooms", "take", "(III)I"⟩, prog_1_method_9_code, 5, some .int)
theorem mq_89 : mq 89 = q_89 := rfl
def q_90 : MethodName × ByteArray × Nat × Option FieldType := (⟨"DrownedRooms", "isGuest", "(I)Z"⟩, prog_1_method_43_code, 2, some .boolean)
theorem mq_90 : mq 90 = q_90 := rfl
def q_91 : MethodName × ByteArray × Nat × Option FieldType := (⟨"DrownedRooms", "isRoom", "(I)Z"⟩, prog_1_method_42_code, 2, some .boolean)
theorem mq_91 : mq 91 = q_91 := rfl
def q_92 : MethodName × ByteArray × Nat × Option FieldType := (⟨"DrownedRooms$Lake", "whyNotTake", "(II)I"⟩, prog_6_method_12_code, 3, some .int)
theorem mq_92 : mq 92 = q_92 := rfl
def q_93 : MethodName × ByteArray × Nat × Option FieldType := (⟨"DrownedRooms$Lake", "whoHas", "(I)I"⟩, prog_6_method_10_code, 3, some .int)
theorem mq_93 : mq 93 = q_93 := rfl
def q_94 : MethodName × ByteArray × Nat × Option FieldType := (⟨"DrownedRooms$Lake", "depthIn", "(I)I"⟩, prog_6_method_5_code, 2, some .int)
theorem mq_94 : mq 94 = q_94 := rfl
def q_96 : MethodName × ByteArray × Nat × Option FieldType := (⟨"DrownedRooms$History", "keep", "(LDrownedRooms$Lake;)V"⟩, prog_4_method_2_code, 2, none)
theorem mq_96 : mq 96 = q_96 := rfl
def q_97 : MethodName × ByteArray × Nat × Option FieldType := (⟨"DrownedRooms$Lake", "copyFrom", "(LDrownedRooms$Lake;)V"⟩, prog_6_method_3_code, 2, none)
theorem mq_97 : mq 97 = q_97 := rfl
def q_99 : MethodName × ByteArray × Nat × Option FieldType := (⟨"DrownedRooms$Lake", "moveIn", "(III)V"⟩, prog_6_method_15_code, 4, none)
theorem mq_99 : mq 99 = q_99 := rfl
def q_100 : MethodName × ByteArray × Nat × Option FieldType := (⟨"DrownedRooms", "leave", "(I)I"⟩, prog_1_method_10_code, 3, some .int)
theorem mq_100 : mq 100 = q_100 := rfl
def q_101 : MethodName × ByteArray × Nat × Option FieldType := (⟨"DrownedRooms$Lake", "whyNotLeave", "(I)I"⟩, prog_6_method_13_code, 2, some .int)
theorem mq_101 : mq 101 = q_101 := rfl
def q_102 : MethodName × ByteArray × Nat × Option FieldType := (⟨"DrownedRooms$Lake", "moveOut", "(I)V"⟩, prog_6_method_16_code, 2, none)
theorem mq_102 : mq 102 = q_102 := rfl
def q_105 : MethodName × ByteArray × Nat × Option FieldType := (⟨"DrownedRooms", "days", "(I)I"⟩, prog_1_method_12_code, 2, some .int)
theorem mq_105 : mq 105 = q_105 := rfl
def q_106 : MethodName × ByteArray × Nat × Option FieldType := (⟨"DrownedRooms$Lake", "daysLeft", "()I"⟩, prog_6_method_4_code, 1, some .int)
theorem mq_106 : mq 106 = q_106 := rfl
def q_107 : MethodName × ByteArray × Nat × Option FieldType := (⟨"DrownedRooms$Lake", "passDays", "(I)I"⟩, prog_6_method_17_code, 4, some .int)
theorem mq_107 : mq 107 = q_107 := rfl
def q_108 : MethodName × ByteArray × Nat × Option FieldType := (⟨"DrownedRooms$Lake", "passDay", "()V"⟩, prog_6_method_24_code, 2, none)
theorem mq_108 : mq 108 = q_108 := rfl
def q_109 : MethodName × ByteArray × Nat × Option FieldType := (⟨"DrownedRooms$Valley", "millsGain", "(II)I"⟩, prog_12_method_5_code, 3, some .int)
theorem mq_109 : mq 109 = q_109 := rfl
def q_110 : MethodName × ByteArray × Nat × Option FieldType := (⟨"DrownedRooms$Valley", "levelBehind", "(III)I"⟩, prog_12_method_4_code, 5, some .int)
theorem mq_110 : mq 110 = q_110 := rfl
def q_111 : MethodName × ByteArray × Nat × Option FieldType := (⟨"DrownedRooms$Lake", "passNight", "(II)V"⟩, prog_6_method_25_code, 5, none)
theorem mq_111 : mq 111 = q_111 := rfl
def q_112 : MethodName × ByteArray × Nat × Option FieldType := (⟨"DrownedRooms", "undo", "()I"⟩, prog_1_method_13_code, 1, some .int)
theorem mq_112 : mq 112 = q_112 := rfl
def q_113 : MethodName × ByteArray × Nat × Option FieldType := (⟨"DrownedRooms$History", "giveBack", "(LDrownedRooms$Lake;)I"⟩, prog_4_method_3_code, 2, some .int)
theorem mq_113 : mq 113 = q_113 := rfl
def q_132 : MethodName × ByteArray × Nat × Option FieldType := (⟨"DrownedRooms", "round", "()I"⟩, prog_1_method_21_code, 1, some .int)
theorem mq_132 : mq 132 = q_132 := rfl
def q_133 : MethodName × ByteArray × Nat × Option FieldType := (⟨"DrownedRooms$Lake", "letHouses", "()I"⟩, prog_6_method_8_code, 3, some .int)
theorem mq_133 : mq 133 = q_133 := rfl
def q_134 : MethodName × ByteArray × Nat × Option FieldType := (⟨"DrownedRooms$Boat", "find", "(LDrownedRooms$Valley;I)I"⟩, prog_2_method_2_code, 3, some .int)
theorem mq_134 : mq 134 = q_134 := rfl
def q_135 : MethodName × ByteArray × Nat × Option FieldType := (⟨"java/lang/Integer", "bitCount", "(I)I"⟩, prog_22_method_49_code, 1, some .int)
theorem mq_135 : mq 135 = q_135 := rfl
def q_136 : MethodName × ByteArray × Nat × Option FieldType := (⟨"DrownedRooms$Boat", "tryHouse", "(LDrownedRooms$Valley;IIII)V"⟩, prog_2_method_4_code, 7, none)
theorem mq_136 : mq 136 = q_136 := rfl
def q_137 : MethodName × ByteArray × Nat × Option FieldType := (⟨"DrownedRooms$Boat", "strokesBetween", "(LDrownedRooms$Valley;II)I"⟩, prog_2_method_5_code, 3, some .int)
theorem mq_137 : mq 137 = q_137 := rfl
def q_138 : MethodName × ByteArray × Nat × Option FieldType := (⟨"DrownedRooms$Boat", "xOf", "(LDrownedRooms$Valley;I)I"⟩, prog_2_method_6_code, 2, some .int)
theorem mq_138 : mq 138 = q_138 := rfl
def q_140 : MethodName × ByteArray × Nat × Option FieldType := (⟨"DrownedRooms$Boat", "yOf", "(LDrownedRooms$Valley;I)I"⟩, prog_2_method_7_code, 2, some .int)
theorem mq_140 : mq 140 = q_140 := rfl
def q_141 : MethodName × ByteArray × Nat × Option FieldType := (⟨"DrownedRooms", "roundAt", "(I)I"⟩, prog_1_method_22_code, 2, some .int)
theorem mq_141 : mq 141 = q_141 := rfl
def q_142 : MethodName × ByteArray × Nat × Option FieldType := (⟨"DrownedRooms$Boat", "houseAt", "(I)I"⟩, prog_2_method_3_code, 2, some .int)
theorem mq_142 : mq 142 = q_142 := rfl
def q_230 : MethodName × ByteArray × Nat × Option FieldType := (⟨"DrownedRooms$Sentence", "copyFrom", "(LDrownedRooms$Sentence;)V"⟩, prog_9_method_4_code, 2, none)
theorem mq_230 : mq 230 = q_230 := rfl
def q_239 : MethodName × ByteArray × Nat × Option FieldType := (⟨"DrownedRooms", "image", "(I)Z"⟩, prog_1_method_39_code, 2, some .boolean)
theorem mq_239 : mq 239 = q_239 := rfl
def q_240 : MethodName × ByteArray × Nat × Option FieldType := (⟨"DrownedRooms$Image", "keep", "(LDrownedRooms$Valley;LDrownedRooms$Lake;LDrownedRooms$Sentence;)V"⟩, prog_5_method_2_code, 4, none)
theorem mq_240 : mq 240 = q_240 := rfl
def q_241 : MethodName × ByteArray × Nat × Option FieldType := (⟨"DrownedRooms", "restore", "(I)Z"⟩, prog_1_method_40_code, 2, some .boolean)
theorem mq_241 : mq 241 = q_241 := rfl
def q_242 : MethodName × ByteArray × Nat × Option FieldType := (⟨"DrownedRooms$Image", "giveBack", "(LDrownedRooms$Valley;LDrownedRooms$Lake;LDrownedRooms$Sentence;)V"⟩, prog_5_method_3_code, 4, none)
theorem mq_242 : mq 242 = q_242 := rfl
