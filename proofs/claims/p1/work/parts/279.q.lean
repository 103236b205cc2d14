/-! the methods by name -/
def q_0 : MethodName × ByteArray × Nat × Option FieldType := (⟨"DrownedRooms", "<init>", "()V"⟩, prog_1_method_1_code, 2, none)
theorem mq_0 : mq 0 = q_0 := rfl
def q_2 : MethodName × ByteArray × Nat × Option FieldType := (⟨"DrownedRooms$Tape", "<init>", "()V"⟩, prog_11_method_1_code, 1, none)
theorem mq_2 : mq 2 = q_2 := rfl
def q_3 : MethodName × ByteArray × Nat × Option FieldType := (⟨"DrownedRooms$Valley", "<init>", "()V"⟩, prog_12_method_1_code, 1, none)
theorem mq_3 : mq 3 = q_3 := rfl
def q_4 : MethodName × ByteArray × Nat × Option FieldType := (⟨"DrownedRooms$Valley", "clear", "()V"⟩, prog_12_method_13_code, 2, none)
theorem mq_4 : mq 4 = q_4 := rfl
def q_5 : MethodName × ByteArray × Nat × Option FieldType := (⟨"DrownedRooms$Lake", "<init>", "(LDrownedRooms$Valley;)V"⟩, prog_6_method_1_code, 2, none)
theorem mq_5 : mq 5 = q_5 := rfl
def q_6 : MethodName × ByteArray × Nat × Option FieldType := (⟨"DrownedRooms$Lake", "begin", "()V"⟩, prog_6_method_2_code, 2, none)
theorem mq_6 : mq 6 = q_6 := rfl
def q_7 : MethodName × ByteArray × Nat × Option FieldType := (⟨"DrownedRooms$History", "<init>", "(LDrownedRooms$Valley;)V"⟩, prog_4_method_1_code, 3, none)
theorem mq_7 : mq 7 = q_7 := rfl
def q_8 : MethodName × ByteArray × Nat × Option FieldType := (⟨"DrownedRooms$Sentence", "<init>", "()V"⟩, prog_9_method_1_code, 1, none)
theorem mq_8 : mq 8 = q_8 := rfl
def q_9 : MethodName × ByteArray × Nat × Option FieldType := (⟨"DrownedRooms$Book", "<init>", "()V"⟩, prog_3_method_1_code, 1, none)
theorem mq_9 : mq 9 = q_9 := rfl
def q_10 : MethodName × ByteArray × Nat × Option FieldType := (⟨"DrownedRooms$Stays", "<init>", "()V"⟩, prog_10_method_1_code, 1, none)
theorem mq_10 : mq 10 = q_10 := rfl
def q_11 : MethodName × ByteArray × Nat × Option FieldType := (⟨"DrownedRooms$Plan", "<init>", "()V"⟩, prog_8_method_1_code, 1, none)
theorem mq_11 : mq 11 = q_11 := rfl
def q_12 : MethodName × ByteArray × Nat × Option FieldType := (⟨"DrownedRooms$Boat", "<init>", "()V"⟩, prog_2_method_1_code, 1, none)
theorem mq_12 : mq 12 = q_12 := rfl
def q_13 : MethodName × ByteArray × Nat × Option FieldType := (⟨"DrownedRooms$Marks", "<init>", "()V"⟩, prog_7_method_1_code, 1, none)
theorem mq_13 : mq 13 = q_13 := rfl
def q_14 : MethodName × ByteArray × Nat × Option FieldType := (⟨"DrownedRooms$Image", "<init>", "()V"⟩, prog_5_method_1_code, 1, none)
theorem mq_14 : mq 14 = q_14 := rfl
def q_15 : MethodName × ByteArray × Nat × Option FieldType := (⟨"java/lang/StringBuilder", "<init>", "()V"⟩, prog_27_method_1_code, 1, none)
theorem mq_15 : mq 15 = q_15 := rfl
def q_16 : MethodName × ByteArray × Nat × Option FieldType := (⟨"java/lang/AbstractStringBuilder", "<init>", "(I)V"⟩, prog_16_method_2_code, 2, none)
theorem mq_16 : mq 16 = q_16 := rfl
def q_19 : MethodName × ByteArray × Nat × Option FieldType := (⟨"DrownedRooms", "feed", "(IIIII)I"⟩, prog_1_method_2_code, 6, some .int)
theorem mq_19 : mq 19 = q_19 := rfl
def q_20 : MethodName × ByteArray × Nat × Option FieldType := (⟨"DrownedRooms$Tape", "hasRoomForFeed", "()Z"⟩, prog_11_method_2_code, 1, some .boolean)
theorem mq_20 : mq 20 = q_20 := rfl
def q_21 : MethodName × ByteArray × Nat × Option FieldType := (⟨"DrownedRooms$Tape", "add", "(I)V"⟩, prog_11_method_3_code, 3, none)
theorem mq_21 : mq 21 = q_21 := rfl
def q_22 : MethodName × ByteArray × Nat × Option FieldType := (⟨"DrownedRooms$Tape", "size", "()I"⟩, prog_11_method_4_code, 1, some .int)
theorem mq_22 : mq 22 = q_22 := rfl
def q_23 : MethodName × ByteArray × Nat × Option FieldType := (⟨"DrownedRooms", "end", "(I)Z"⟩, prog_1_method_3_code, 2, some .boolean)
theorem mq_23 : mq 23 = q_23 := rfl
def q_24 : MethodName × ByteArray × Nat × Option FieldType := (⟨"DrownedRooms$Tape", "cutTo", "(I)Z"⟩, prog_11_method_5_code, 2, some .boolean)
theorem mq_24 : mq 24 = q_24 := rfl
def q_25 : MethodName × ByteArray × Nat × Option FieldType := (⟨"DrownedRooms", "valley", "()I"⟩, prog_1_method_4_code, 2, some .int)
theorem mq_25 : mq 25 = q_25 := rfl
def q_26 : MethodName × ByteArray × Nat × Option FieldType := (⟨"DrownedRooms$Valley", "readFrom", "(LDrownedRooms$Tape;)I"⟩, prog_12_method_3_code, 3, some .int)
theorem mq_26 : mq 26 = q_26 := rfl
def q_27 : MethodName × ByteArray × Nat × Option FieldType := (⟨"DrownedRooms$Tape", "open", "(I)V"⟩, prog_11_method_8_code, 2, none)
theorem mq_27 : mq 27 = q_27 := rfl
def q_28 : MethodName × ByteArray × Nat × Option FieldType := (⟨"DrownedRooms$Tape", "advance", "()V"⟩, prog_11_method_21_code, 1, none)
theorem mq_28 : mq 28 = q_28 := rfl
def q_46 : MethodName × ByteArray × Nat × Option FieldType := (⟨"DrownedRooms$Tape", "isEnd", "()Z"⟩, prog_11_method_12_code, 1, some .boolean)
theorem mq_46 : mq 46 = q_46 := rfl
def q_48 : MethodName × ByteArray × Nat × Option FieldType := (⟨"DrownedRooms$Tape", "keyword", "()I"⟩, prog_11_method_16_code, 1, some .int)
theorem mq_48 : mq 48 = q_48 := rfl
def q_50 : MethodName × ByteArray × Nat × Option FieldType := (⟨"DrownedRooms$Tape", "refuse", "(I)Z"⟩, prog_11_method_9_code, 2, some .boolean)
theorem mq_50 : mq 50 = q_50 := rfl
def q_53 : MethodName × ByteArray × Nat × Option FieldType := (⟨"DrownedRooms", "isWithin", "(III)Z"⟩, prog_1_method_46_code, 3, some .boolean)
theorem mq_53 : mq 53 = q_53 := rfl
def q_73 : MethodName × ByteArray × Nat × Option FieldType := (⟨"DrownedRooms$Tape", "isSign", "(C)Z"⟩, prog_11_method_15_code, 2, some .boolean)
theorem mq_73 : mq 73 = q_73 := rfl
def q_74 : MethodName × ByteArray × Nat × Option FieldType := (⟨"DrownedRooms", "closeText", "()V"⟩, prog_1_method_44_code, 1, none)
theorem mq_74 : mq 74 = q_74 := rfl
def q_75 : MethodName × ByteArray × Nat × Option FieldType := (⟨"DrownedRooms$Tape", "faultKind", "()I"⟩, prog_11_method_10_code, 1, some .int)
theorem mq_75 : mq 75 = q_75 := rfl
def q_76 : MethodName × ByteArray × Nat × Option FieldType := (⟨"DrownedRooms$Tape", "empty", "()V"⟩, prog_11_method_6_code, 1, none)
theorem mq_76 : mq 76 = q_76 := rfl
def q_77 : MethodName × ByteArray × Nat × Option FieldType := (⟨"DrownedRooms$Tape", "faultPlace", "()I"⟩, prog_11_method_11_code, 1, some .int)
theorem mq_77 : mq 77 = q_77 := rfl
def q_78 : MethodName × ByteArray × Nat × Option FieldType := (⟨"DrownedRooms$Valley", "copyFrom", "(LDrownedRooms$Valley;)V"⟩, prog_12_method_2_code, 2, none)
theorem mq_78 : mq 78 = q_78 := rfl
def q_79 : MethodName × ByteArray × Nat × Option FieldType := (⟨"DrownedRooms$Sentence", "forget", "()V"⟩, prog_9_method_3_code, 1, none)
theorem mq_79 : mq 79 = q_79 := rfl
def q_80 : MethodName × ByteArray × Nat × Option FieldType := (⟨"DrownedRooms$History", "forget", "()V"⟩, prog_4_method_4_code, 1, none)
theorem mq_80 : mq 80 = q_80 := rfl
def q_81 : MethodName × ByteArray × Nat × Option FieldType := (⟨"DrownedRooms", "fault", "()I"⟩, prog_1_method_5_code, 1, some .int)
theorem mq_81 : mq 81 = q_81 := rfl
def q_82 : MethodName × ByteArray × Nat × Option FieldType := (⟨"DrownedRooms", "now", "(I)I"⟩, prog_1_method_8_code, 2, some .int)
theorem mq_82 : mq 82 = q_82 := rfl
def q_83 : MethodName × ByteArray × Nat × Option FieldType := (⟨"DrownedRooms$Lake", "wetRooms", "()I"⟩, prog_6_method_6_code, 1, some .int)
theorem mq_83 : mq 83 = q_83 := rfl
def q_84 : MethodName × ByteArray × Nat × Option FieldType := (⟨"DrownedRooms$Valley", "allRooms", "()I"⟩, prog_12_method_7_code, 1, some .int)
theorem mq_84 : mq 84 = q_84 := rfl
def q_85 : MethodName × ByteArray × Nat × Option FieldType := (⟨"DrownedRooms$Valley", "dryRoomsAt", "(I)I"⟩, prog_12_method_6_code, 4, some .int)
theorem mq_85 : mq 85 = q_85 := rfl
def q_86 : MethodName × ByteArray × Nat × Option FieldType := (⟨"DrownedRooms$Lake", "letRooms", "()I"⟩, prog_6_method_7_code, 3, some .int)
theorem mq_86 : mq 86 = q_86 := rfl
def q_88 : MethodName × ByteArray × Nat × Option FieldType := (⟨"DrownedRooms$Lake", "broughtInAll", "()I"⟩, prog_6_method_11_code, 3, some .int)
theorem mq_88 : mq 88 = q_88 := rfl
def q_89 : MethodName × ByteArray × Nat × Option FieldType := (⟨"DrownedRooms", "take", "(III)I"⟩, prog_1_method_9_code, 5, some .int)
theorem mq_89 : mq 89 = q_89 := rfl
def q_90 : MethodName × ByteArray × Nat × Option FieldType := (⟨"DrownedRooms", "isGuest", "(I)Z"⟩, prog_1_method_43_code, 2, some .boolean)
theorem mq_90 : mq 90 = q_90 := rfl
def q_91 : MethodName × ByteArray × Nat × Option FieldType := (⟨"DrownedRooms", "isRoom", "(I)Z"⟩, prog_1_method_42_code, 2, some .boolean)
theorem mq_91 : mq 91 = q_91 := rfl
def q_96 : MethodName × ByteArray × Nat × Option FieldType := (⟨"DrownedRooms$History", "keep", "(LDrownedRooms$Lake;)V"⟩, prog_4_method_2_code, 2, none)
theorem mq_96 : mq 96 = q_96 := rfl
def q_97 : MethodName × ByteArray × Nat × Option FieldType := (⟨"DrownedRooms$Lake", "copyFrom", "(LDrownedRooms$Lake;)V"⟩, prog_6_method_3_code, 2, none)
theorem mq_97 : mq 97 = q_97 := rfl
def q_100 : MethodName × ByteArray × Nat × Option FieldType := (⟨"DrownedRooms", "leave", "(I)I"⟩, prog_1_method_10_code, 3, some .int)
theorem mq_100 : mq 100 = q_100 := rfl
def q_103 : MethodName × ByteArray × Nat × Option FieldType := (⟨"DrownedRooms", "wheel", "(I)I"⟩, prog_1_method_11_code, 3, some .int)
theorem mq_103 : mq 103 = q_103 := rfl
def q_104 : MethodName × ByteArray × Nat × Option FieldType := (⟨"DrownedRooms$Lake", "whyNotTurn", "(I)I"⟩, prog_6_method_14_code, 2, some .int)
theorem mq_104 : mq 104 = q_104 := rfl
def q_105 : MethodName × ByteArray × Nat × Option FieldType := (⟨"DrownedRooms", "days", "(I)I"⟩, prog_1_method_12_code, 2, some .int)
theorem mq_105 : mq 105 = q_105 := rfl
def q_106 : MethodName × ByteArray × Nat × Option FieldType := (⟨"DrownedRooms$Lake", "daysLeft", "()I"⟩, prog_6_method_4_code, 1, some .int)
theorem mq_106 : mq 106 = q_106 := rfl
def q_107 : MethodName × ByteArray × Nat × Option FieldType := (⟨"DrownedRooms$Lake", "passDays", "(I)I"⟩, prog_6_method_17_code, 4, some .int)
theorem mq_107 : mq 107 = q_107 := rfl
def q_108 : MethodName × ByteArray × Nat × Option FieldType := (⟨"DrownedRooms$Lake", "passDay", "()V"⟩, prog_6_method_24_code, 2, none)
theorem mq_108 : mq 108 = q_108 := rfl
def q_109 : MethodName × ByteArray × Nat × Option FieldType := (⟨"DrownedRooms$Valley", "millsGain", "(II)I"⟩, prog_12_method_5_code, 3, some .int)
theorem mq_109 : mq 109 = q_109 := rfl
def q_110 : MethodName × ByteArray × Nat × Option FieldType := (⟨"DrownedRooms$Valley", "levelBehind", "(III)I"⟩, prog_12_method_4_code, 5, some .int)
theorem mq_110 : mq 110 = q_110 := rfl
def q_112 : MethodName × ByteArray × Nat × Option FieldType := (⟨"DrownedRooms", "undo", "()I"⟩, prog_1_method_13_code, 1, some .int)
theorem mq_112 : mq 112 = q_112 := rfl
def q_113 : MethodName × ByteArray × Nat × Option FieldType := (⟨"DrownedRooms$History", "giveBack", "(LDrownedRooms$Lake;)I"⟩, prog_4_method_3_code, 2, some .int)
theorem mq_113 : mq 113 = q_113 := rfl
def q_114 : MethodName × ByteArray × Nat × Option FieldType := (⟨"DrownedRooms", "level", "(I)I"⟩, prog_1_method_14_code, 4, some .int)
theorem mq_114 : mq 114 = q_114 := rfl
def q_115 : MethodName × ByteArray × Nat × Option FieldType := (⟨"DrownedRooms", "dry", "(II)I"⟩, prog_1_method_15_code, 6, some .int)
theorem mq_115 : mq 115 = q_115 := rfl
def q_116 : MethodName × ByteArray × Nat × Option FieldType := (⟨"DrownedRooms", "wets", "(I)I"⟩, prog_1_method_16_code, 4, some .int)
theorem mq_116 : mq 116 = q_116 := rfl
def q_117 : MethodName × ByteArray × Nat × Option FieldType := (⟨"DrownedRooms", "stays", "()I"⟩, prog_1_method_17_code, 2, some .int)
theorem mq_117 : mq 117 = q_117 := rfl
def q_118 : MethodName × ByteArray × Nat × Option FieldType := (⟨"DrownedRooms$Stays", "readFrom", "(LDrownedRooms$Tape;LDrownedRooms$Valley;)Z"⟩, prog_10_method_2_code, 6, some .boolean)
theorem mq_118 : mq 118 = q_118 := rfl
def q_124 : MethodName × ByteArray × Nat × Option FieldType := (⟨"DrownedRooms", "stayAt", "(I)I"⟩, prog_1_method_18_code, 2, some .int)
theorem mq_124 : mq 124 = q_124 := rfl
def q_125 : MethodName × ByteArray × Nat × Option FieldType := (⟨"DrownedRooms$Stays", "roomOf", "(I)I"⟩, prog_10_method_4_code, 2, some .int)
theorem mq_125 : mq 125 = q_125 := rfl
def q_126 : MethodName × ByteArray × Nat × Option FieldType := (⟨"DrownedRooms", "plan", "(II)I"⟩, prog_1_method_19_code, 3, some .int)
theorem mq_126 : mq 126 = q_126 := rfl
def q_130 : MethodName × ByteArray × Nat × Option FieldType := (⟨"DrownedRooms", "planAt", "(I)I"⟩, prog_1_method_20_code, 2, some .int)
theorem mq_130 : mq 130 = q_130 := rfl
def q_131 : MethodName × ByteArray × Nat × Option FieldType := (⟨"DrownedRooms$Plan", "wheelAhead", "(I)I"⟩, prog_8_method_3_code, 2, some .int)
theorem mq_131 : mq 131 = q_131 := rfl
def q_132 : MethodName × ByteArray × Nat × Option FieldType := (⟨"DrownedRooms", "round", "()I"⟩, prog_1_method_21_code, 1, some .int)
theorem mq_132 : mq 132 = q_132 := rfl
def q_133 : MethodName × ByteArray × Nat × Option FieldType := (⟨"DrownedRooms$Lake", "letHouses", "()I"⟩, prog_6_method_8_code, 3, some .int)
theorem mq_133 : mq 133 = q_133 := rfl
def q_134 : MethodName × ByteArray × Nat × Option FieldType := (⟨"DrownedRooms$Boat", "find", "(LDrownedRooms$Valley;I)I"⟩, prog_2_method_2_code, 3, some .int)
theorem mq_134 : mq 134 = q_134 := rfl
def q_135 : MethodName × ByteArray × Nat × Option FieldType := (⟨"java/lang/Integer", "bitCount", "(I)I"⟩, prog_22_method_49_code, 1, some .int)
theorem mq_135 : mq 135 = q_135 := rfl
def q_136 : MethodName × ByteArray × Nat × Option FieldType := (⟨"DrownedRooms$Boat", "tryHouse", "(LDrownedRooms$Valley;IIII)V"⟩, prog_2_method_4_code, 7, none)
theorem mq_136 : mq 136 = q_136 := rfl
def q_137 : MethodName × ByteArray × Nat × Option FieldType := (⟨"DrownedRooms$Boat", "strokesBetween", "(LDrownedRooms$Valley;II)I"⟩, prog_2_method_5_code, 3, some .int)
theorem mq_137 : mq 137 = q_137 := rfl
def q_138 : MethodName × ByteArray × Nat × Option FieldType := (⟨"DrownedRooms$Boat", "xOf", "(LDrownedRooms$Valley;I)I"⟩, prog_2_method_6_code, 2, some .int)
theorem mq_138 : mq 138 = q_138 := rfl
def q_140 : MethodName × ByteArray × Nat × Option FieldType := (⟨"DrownedRooms$Boat", "yOf", "(LDrownedRooms$Valley;I)I"⟩, prog_2_method_7_code, 2, some .int)
theorem mq_140 : mq 140 = q_140 := rfl
def q_141 : MethodName × ByteArray × Nat × Option FieldType := (⟨"DrownedRooms", "roundAt", "(I)I"⟩, prog_1_method_22_code, 2, some .int)
theorem mq_141 : mq 141 = q_141 := rfl
def q_142 : MethodName × ByteArray × Nat × Option FieldType := (⟨"DrownedRooms$Boat", "houseAt", "(I)I"⟩, prog_2_method_3_code, 2, some .int)
theorem mq_142 : mq 142 = q_142 := rfl
def q_143 : MethodName × ByteArray × Nat × Option FieldType := (⟨"DrownedRooms", "marks", "()I"⟩, prog_1_method_23_code, 2, some .int)
theorem mq_143 : mq 143 = q_143 := rfl
def q_144 : MethodName × ByteArray × Nat × Option FieldType := (⟨"DrownedRooms$Marks", "readFrom", "(LDrownedRooms$Tape;LDrownedRooms$Valley;)I"⟩, prog_7_method_2_code, 9, some .int)
theorem mq_144 : mq 144 = q_144 := rfl
def q_146 : MethodName × ByteArray × Nat × Option FieldType := (⟨"DrownedRooms", "lowest", "()I"⟩, prog_1_method_24_code, 1, some .int)
theorem mq_146 : mq 146 = q_146 := rfl
def q_147 : MethodName × ByteArray × Nat × Option FieldType := (⟨"DrownedRooms", "highest", "()I"⟩, prog_1_method_25_code, 1, some .int)
theorem mq_147 : mq 147 = q_147 := rfl
def q_148 : MethodName × ByteArray × Nat × Option FieldType := (⟨"DrownedRooms", "bell", "()I"⟩, prog_1_method_26_code, 1, some .int)
theorem mq_148 : mq 148 = q_148 := rfl
def q_149 : MethodName × ByteArray × Nat × Option FieldType := (⟨"DrownedRooms", "visits", "(I)I"⟩, prog_1_method_27_code, 2, some .int)
theorem mq_149 : mq 149 = q_149 := rfl
def q_151 : MethodName × ByteArray × Nat × Option FieldType := (⟨"DrownedRooms", "quiet", "(I)I"⟩, prog_1_method_28_code, 2, some .int)
theorem mq_151 : mq 151 = q_151 := rfl
def q_154 : MethodName × ByteArray × Nat × Option FieldType := (⟨"DrownedRooms", "quarrels", "()I"⟩, prog_1_method_29_code, 1, some .int)
theorem mq_154 : mq 154 = q_154 := rfl
def q_155 : MethodName × ByteArray × Nat × Option FieldType := (⟨"DrownedRooms$Lake", "foesUnderOneRoof", "()I"⟩, prog_6_method_21_code, 4, some .int)
theorem mq_155 : mq 155 = q_155 := rfl
def q_157 : MethodName × ByteArray × Nat × Option FieldType := (⟨"DrownedRooms", "brings", "(I)I"⟩, prog_1_method_30_code, 2, some .int)
theorem mq_157 : mq 157 = q_157 := rfl
def q_158 : MethodName × ByteArray × Nat × Option FieldType := (⟨"DrownedRooms", "bill", "(I)I"⟩, prog_1_method_31_code, 3, some .int)
theorem mq_158 : mq 158 = q_158 := rfl
def q_199 : MethodName × ByteArray × Nat × Option FieldType := (⟨"java/lang/StringBuilder", "length", "()I"⟩, prog_27_method_93_code, 1, some .int)
theorem mq_199 : mq 199 = q_199 := rfl
def q_200 : MethodName × ByteArray × Nat × Option FieldType := (⟨"java/lang/AbstractStringBuilder", "length", "()I"⟩, prog_16_method_6_code, 1, some .int)
theorem mq_200 : mq 200 = q_200 := rfl
def q_201 : MethodName × ByteArray × Nat × Option FieldType := (⟨"DrownedRooms", "byteAt", "(I)I"⟩, prog_1_method_32_code, 2, some .int)
theorem mq_201 : mq 201 = q_201 := rfl
def q_204 : MethodName × ByteArray × Nat × Option FieldType := (⟨"DrownedRooms", "drawn", "(II)I"⟩, prog_1_method_33_code, 3, some .int)
theorem mq_204 : mq 204 = q_204 := rfl
def q_205 : MethodName × ByteArray × Nat × Option FieldType := (⟨"DrownedRooms$Lake", "passDrawnDays", "(II)I"⟩, prog_6_method_18_code, 6, some .int)
theorem mq_205 : mq 205 = q_205 := rfl
def q_207 : MethodName × ByteArray × Nat × Option FieldType := (⟨"DrownedRooms$Lake", "draw", "(I)I"⟩, prog_6_method_27_code, 2, some .int)
theorem mq_207 : mq 207 = q_207 := rfl
def q_208 : MethodName × ByteArray × Nat × Option FieldType := (⟨"DrownedRooms", "odds", "(III)I"⟩, prog_1_method_34_code, 6, some .int)
theorem mq_208 : mq 208 = q_208 := rfl
def q_209 : MethodName × ByteArray × Nat × Option FieldType := (⟨"DrownedRooms", "book", "(I)I"⟩, prog_1_method_35_code, 2, some .int)
theorem mq_209 : mq 209 = q_209 := rfl
def q_210 : MethodName × ByteArray × Nat × Option FieldType := (⟨"DrownedRooms$Book", "readFrom", "(LDrownedRooms$Tape;LDrownedRooms$Valley;)V"⟩, prog_3_method_2_code, 4, none)
theorem mq_210 : mq 210 = q_210 := rfl
def q_213 : MethodName × ByteArray × Nat × Option FieldType := (⟨"DrownedRooms$Book", "live", "(LDrownedRooms$Lake;)I"⟩, prog_3_method_5_code, 2, some .int)
theorem mq_213 : mq 213 = q_213 := rfl
def q_218 : MethodName × ByteArray × Nat × Option FieldType := (⟨"DrownedRooms", "told", "(I)I"⟩, prog_1_method_36_code, 2, some .int)
theorem mq_218 : mq 218 = q_218 := rfl
def q_219 : MethodName × ByteArray × Nat × Option FieldType := (⟨"DrownedRooms$Book", "verdict", "(I)I"⟩, prog_3_method_10_code, 2, some .int)
theorem mq_219 : mq 219 = q_219 := rfl
def q_220 : MethodName × ByteArray × Nat × Option FieldType := (⟨"DrownedRooms", "sentence", "()I"⟩, prog_1_method_37_code, 1, some .int)
theorem mq_220 : mq 220 = q_220 := rfl
def q_221 : MethodName × ByteArray × Nat × Option FieldType := (⟨"DrownedRooms$Sentence", "readFrom", "(LDrownedRooms$Tape;LDrownedRooms$Valley;)V"⟩, prog_9_method_5_code, 3, none)
theorem mq_221 : mq 221 = q_221 := rfl
def q_222 : MethodName × ByteArray × Nat × Option FieldType := (⟨"DrownedRooms$Sentence", "readCond", "(LDrownedRooms$Tape;LDrownedRooms$Valley;I)Z"⟩, prog_9_method_6_code, 6, some .boolean)
theorem mq_222 : mq 222 = q_222 := rfl
def q_223 : MethodName × ByteArray × Nat × Option FieldType := (⟨"DrownedRooms$Sentence", "readAll", "(LDrownedRooms$Tape;LDrownedRooms$Valley;I)Z"⟩, prog_9_method_7_code, 6, some .boolean)
theorem mq_223 : mq 223 = q_223 := rfl
def q_224 : MethodName × ByteArray × Nat × Option FieldType := (⟨"DrownedRooms$Sentence", "readOne", "(LDrownedRooms$Tape;LDrownedRooms$Valley;I)Z"⟩, prog_9_method_8_code, 6, some .boolean)
theorem mq_224 : mq 224 = q_224 := rfl
def q_225 : MethodName × ByteArray × Nat × Option FieldType := (⟨"DrownedRooms$Sentence", "beginsOne", "(I)Z"⟩, prog_9_method_11_code, 1, some .boolean)
theorem mq_225 : mq 225 = q_225 := rfl
def q_230 : MethodName × ByteArray × Nat × Option FieldType := (⟨"DrownedRooms$Sentence", "copyFrom", "(LDrownedRooms$Sentence;)V"⟩, prog_9_method_4_code, 2, none)
theorem mq_230 : mq 230 = q_230 := rfl
def q_231 : MethodName × ByteArray × Nat × Option FieldType := (⟨"DrownedRooms", "said", "(I)I"⟩, prog_1_method_38_code, 3, some .int)
theorem mq_231 : mq 231 = q_231 := rfl
def q_232 : MethodName × ByteArray × Nat × Option FieldType := (⟨"DrownedRooms$Sentence", "isThere", "()Z"⟩, prog_9_method_2_code, 1, some .boolean)
theorem mq_232 : mq 232 = q_232 := rfl
def q_239 : MethodName × ByteArray × Nat × Option FieldType := (⟨"DrownedRooms", "image", "(I)Z"⟩, prog_1_method_39_code, 2, some .boolean)
theorem mq_239 : mq 239 = q_239 := rfl
def q_240 : MethodName × ByteArray × Nat × Option FieldType := (⟨"DrownedRooms$Image", "keep", "(LDrownedRooms$Valley;LDrownedRooms$Lake;LDrownedRooms$Sentence;)V"⟩, prog_5_method_2_code, 4, none)
theorem mq_240 : mq 240 = q_240 := rfl
def q_241 : MethodName × ByteArray × Nat × Option FieldType := (⟨"DrownedRooms", "restore", "(I)Z"⟩, prog_1_method_40_code, 2, some .boolean)
theorem mq_241 : mq 241 = q_241 := rfl
def q_243 : MethodName × ByteArray × Nat × Option FieldType := (⟨"DrownedRooms", "count", "(I)I"⟩, prog_1_method_41_code, 2, some .int)
theorem mq_243 : mq 243 = q_243 := rfl
def q_244 : MethodName × ByteArray × Nat × Option FieldType := (⟨"DrownedRooms", "room", "(II)I"⟩, prog_1_method_6_code, 3, some .int)
theorem mq_244 : mq 244 = q_244 := rfl
def q_250 : MethodName × ByteArray × Nat × Option FieldType := (⟨"DrownedRooms", "guest", "(II)I"⟩, prog_1_method_7_code, 3, some .int)
theorem mq_250 : mq 250 = q_250 := rfl
def q_251 : MethodName × ByteArray × Nat × Option FieldType := (⟨"DrownedRoomsModel", "thrown", "()I"⟩, prog_14_method_1_code, 1, some .int)
theorem mq_251 : mq 251 = q_251 := rfl
def q_252 : MethodName × ByteArray × Nat × Option FieldType := (⟨"DrownedRoomsModel", "feed", "(IIIII)I"⟩, prog_14_method_4_code, 6, some .int)
theorem mq_252 : mq 252 = q_252 := rfl
def q_253 : MethodName × ByteArray × Nat × Option FieldType := (⟨"DrownedRoomsModel", "come", "(I)V"⟩, prog_14_method_3_code, 3, none)
theorem mq_253 : mq 253 = q_253 := rfl
def q_254 : MethodName × ByteArray × Nat × Option FieldType := (⟨"DrownedRoomsModel", "end", "(I)Z"⟩, prog_14_method_5_code, 2, some .boolean)
theorem mq_254 : mq 254 = q_254 := rfl
def q_255 : MethodName × ByteArray × Nat × Option FieldType := (⟨"DrownedRoomsModel", "<init>", "()V"⟩, prog_14_method_26_code, 2, none)
theorem mq_255 : mq 255 = q_255 := rfl
def q_256 : MethodName × ByteArray × Nat × Option FieldType := (⟨"DrownedRoomsModel", "startRead", "()V"⟩, prog_14_method_27_code, 2, none)
theorem mq_256 : mq 256 = q_256 := rfl
def q_257 : MethodName × ByteArray × Nat × Option FieldType := (⟨"DrownedRoomsModel", "startSo", "()V"⟩, prog_14_method_28_code, 2, none)
theorem mq_257 : mq 257 = q_257 := rfl
def q_258 : MethodName × ByteArray × Nat × Option FieldType := (⟨"DrownedRoomsModel", "valley", "()I"⟩, prog_14_method_42_code, 3, some .int)
theorem mq_258 : mq 258 = q_258 := rfl
def q_259 : MethodName × ByteArray × Nat × Option FieldType := (⟨"DrownedRoomsModel", "begin", "(I)V"⟩, prog_14_method_25_code, 2, none)
theorem mq_259 : mq 259 = q_259 := rfl
def q_260 : MethodName × ByteArray × Nat × Option FieldType := (⟨"DrownedRoomsModel", "take", "()I"⟩, prog_14_method_6_code, 2, some .int)
theorem mq_260 : mq 260 = q_260 := rfl
def q_261 : MethodName × ByteArray × Nat × Option FieldType := (⟨"DrownedRoomsModel", "go", "()V"⟩, prog_14_method_16_code, 5, none)
theorem mq_261 : mq 261 = q_261 := rfl
def q_266 : MethodName × ByteArray × Nat × Option FieldType := (⟨"DrownedRoomsModel", "isWord", "(I)Z"⟩, prog_14_method_19_code, 2, some .boolean)
theorem mq_266 : mq 266 = q_266 := rfl
def q_270 : MethodName × ByteArray × Nat × Option FieldType := (⟨"DrownedRoomsModel", "bad", "(I)Z"⟩, prog_14_method_22_code, 2, some .boolean)
theorem mq_270 : mq 270 = q_270 := rfl
def q_272 : MethodName × ByteArray × Nat × Option FieldType := (⟨"DrownedRoomsModel", "isIn", "(III)Z"⟩, prog_14_method_7_code, 3, some .boolean)
theorem mq_272 : mq 272 = q_272 := rfl
def q_287 : MethodName × ByteArray × Nat × Option FieldType := (⟨"DrownedRoomsModel", "isSign", "(I)Z"⟩, prog_14_method_20_code, 2, some .boolean)
theorem mq_287 : mq 287 = q_287 := rfl
def q_288 : MethodName × ByteArray × Nat × Option FieldType := (⟨"DrownedRoomsModel", "fault", "()I"⟩, prog_14_method_43_code, 1, some .int)
theorem mq_288 : mq 288 = q_288 := rfl
def q_289 : MethodName × ByteArray × Nat × Option FieldType := (⟨"DrownedRoomsModel", "room", "(II)I"⟩, prog_14_method_51_code, 3, some .int)
theorem mq_289 : mq 289 = q_289 := rfl
def q_290 : MethodName × ByteArray × Nat × Option FieldType := (⟨"DrownedRoomsModel", "isRoom", "(I)Z"⟩, prog_14_method_44_code, 2, some .boolean)
theorem mq_290 : mq 290 = q_290 := rfl
def q_291 : MethodName × ByteArray × Nat × Option FieldType := (⟨"DrownedRoomsModel", "refuse", "()I"⟩, prog_14_method_2_code, 1, some .int)
theorem mq_291 : mq 291 = q_291 := rfl
def q_294 : MethodName × ByteArray × Nat × Option FieldType := (⟨"DrownedRoomsModel", "guest", "(II)I"⟩, prog_14_method_52_code, 3, some .int)
theorem mq_294 : mq 294 = q_294 := rfl
def q_295 : MethodName × ByteArray × Nat × Option FieldType := (⟨"DrownedRoomsModel", "isGuest", "(I)Z"⟩, prog_14_method_45_code, 2, some .boolean)
theorem mq_295 : mq 295 = q_295 := rfl
def q_296 : MethodName × ByteArray × Nat × Option FieldType := (⟨"DrownedRoomsModel", "now", "(I)I"⟩, prog_14_method_53_code, 4, some .int)
theorem mq_296 : mq 296 = q_296 := rfl
def q_297 : MethodName × ByteArray × Nat × Option FieldType := (⟨"DrownedRoomsModel", "wets", "()I"⟩, prog_14_method_49_code, 3, some .int)
theorem mq_297 : mq 297 = q_297 := rfl
def q_299 : MethodName × ByteArray × Nat × Option FieldType := (⟨"DrownedRoomsModel", "sum", "(II)I"⟩, prog_14_method_50_code, 5, some .int)
theorem mq_299 : mq 299 = q_299 := rfl
def q_300 : MethodName × ByteArray × Nat × Option FieldType := (⟨"DrownedRoomsModel", "take", "(III)I"⟩, prog_14_method_59_code, 4, some .int)
theorem mq_300 : mq 300 = q_300 := rfl
def q_301 : MethodName × ByteArray × Nat × Option FieldType := (⟨"DrownedRoomsModel", "act", "(IIIIZ)I"⟩, prog_14_method_58_code, 7, some .int)
theorem mq_301 : mq 301 = q_301 := rfl
def q_302 : MethodName × ByteArray × Nat × Option FieldType := (⟨"DrownedRoomsModel", "why", "(III)I"⟩, prog_14_method_55_code, 4, some .int)
theorem mq_302 : mq 302 = q_302 := rfl
def q_303 : MethodName × ByteArray × Nat × Option FieldType := (⟨"DrownedRoomsModel", "snap", "()V"⟩, prog_14_method_54_code, 2, none)
theorem mq_303 : mq 303 = q_303 := rfl
def q_304 : MethodName × ByteArray × Nat × Option FieldType := (⟨"DrownedRoomsModel", "live", "(IIII)V"⟩, prog_14_method_57_code, 5, none)
theorem mq_304 : mq 304 = q_304 := rfl
def q_306 : MethodName × ByteArray × Nat × Option FieldType := (⟨"DrownedRoomsModel", "leave", "(I)I"⟩, prog_14_method_60_code, 2, some .int)
theorem mq_306 : mq 306 = q_306 := rfl
def q_307 : MethodName × ByteArray × Nat × Option FieldType := (⟨"DrownedRoomsModel", "wheel", "(I)I"⟩, prog_14_method_61_code, 2, some .int)
theorem mq_307 : mq 307 = q_307 := rfl
def q_308 : MethodName × ByteArray × Nat × Option FieldType := (⟨"DrownedRoomsModel", "undo", "()I"⟩, prog_14_method_62_code, 2, some .int)
theorem mq_308 : mq 308 = q_308 := rfl
def q_309 : MethodName × ByteArray × Nat × Option FieldType := (⟨"DrownedRoomsModel", "days", "(I)I"⟩, prog_14_method_67_code, 2, some .int)
theorem mq_309 : mq 309 = q_309 := rfl
def q_310 : MethodName × ByteArray × Nat × Option FieldType := (⟨"DrownedRoomsModel", "passDays", "(I)I"⟩, prog_14_method_66_code, 4, some .int)
theorem mq_310 : mq 310 = q_310 := rfl
def q_311 : MethodName × ByteArray × Nat × Option FieldType := (⟨"DrownedRoomsModel", "least", "(II)I"⟩, prog_14_method_10_code, 2, some .int)
theorem mq_311 : mq 311 = q_311 := rfl
def q_312 : MethodName × ByteArray × Nat × Option FieldType := (⟨"DrownedRoomsModel", "oneDay", "()V"⟩, prog_14_method_65_code, 2, none)
theorem mq_312 : mq 312 = q_312 := rfl
def q_313 : MethodName × ByteArray × Nat × Option FieldType := (⟨"DrownedRoomsModel", "levelBehind", "(III)I"⟩, prog_14_method_63_code, 5, some .int)
theorem mq_313 : mq 313 = q_313 := rfl
def q_315 : MethodName × ByteArray × Nat × Option FieldType := (⟨"DrownedRoomsModel", "level", "(I)I"⟩, prog_14_method_70_code, 3, some .int)
theorem mq_315 : mq 315 = q_315 := rfl
def q_316 : MethodName × ByteArray × Nat × Option FieldType := (⟨"DrownedRoomsModel", "layAside", "()V"⟩, prog_14_method_68_code, 2, none)
theorem mq_316 : mq 316 = q_316 := rfl
def q_317 : MethodName × ByteArray × Nat × Option FieldType := (⟨"DrownedRoomsModel", "takeBack", "()V"⟩, prog_14_method_69_code, 2, none)
theorem mq_317 : mq 317 = q_317 := rfl
def q_318 : MethodName × ByteArray × Nat × Option FieldType := (⟨"DrownedRoomsModel", "dry", "(II)I"⟩, prog_14_method_71_code, 5, some .int)
theorem mq_318 : mq 318 = q_318 := rfl
def q_319 : MethodName × ByteArray × Nat × Option FieldType := (⟨"DrownedRoomsModel", "wets", "(I)I"⟩, prog_14_method_72_code, 3, some .int)
theorem mq_319 : mq 319 = q_319 := rfl
def q_320 : MethodName × ByteArray × Nat × Option FieldType := (⟨"DrownedRoomsModel", "stays", "()I"⟩, prog_14_method_76_code, 3, some .int)
theorem mq_320 : mq 320 = q_320 := rfl
def q_324 : MethodName × ByteArray × Nat × Option FieldType := (⟨"DrownedRoomsModel", "stayAt", "(I)I"⟩, prog_14_method_77_code, 2, some .int)
theorem mq_324 : mq 324 = q_324 := rfl
def q_325 : MethodName × ByteArray × Nat × Option FieldType := (⟨"DrownedRoomsModel", "plan", "(II)I"⟩, prog_14_method_79_code, 3, some .int)
theorem mq_325 : mq 325 = q_325 := rfl
def q_327 : MethodName × ByteArray × Nat × Option FieldType := (⟨"DrownedRoomsModel", "planAt", "(I)I"⟩, prog_14_method_80_code, 2, some .int)
theorem mq_327 : mq 327 = q_327 := rfl
def q_328 : MethodName × ByteArray × Nat × Option FieldType := (⟨"DrownedRoomsModel", "round", "()I"⟩, prog_14_method_83_code, 3, some .int)
theorem mq_328 : mq 328 = q_328 := rfl
def q_329 : MethodName × ByteArray × Nat × Option FieldType := (⟨"DrownedRoomsModel", "rowFrom", "(IIIII)V"⟩, prog_14_method_82_code, 7, none)
theorem mq_329 : mq 329 = q_329 := rfl
def q_332 : MethodName × ByteArray × Nat × Option FieldType := (⟨"DrownedRoomsModel", "roundAt", "(I)I"⟩, prog_14_method_84_code, 2, some .int)
theorem mq_332 : mq 332 = q_332 := rfl
def q_333 : MethodName × ByteArray × Nat × Option FieldType := (⟨"DrownedRoomsModel", "marks", "()I"⟩, prog_14_method_87_code, 4, some .int)
theorem mq_333 : mq 333 = q_333 := rfl
def q_336 : MethodName × ByteArray × Nat × Option FieldType := (⟨"DrownedRoomsModel", "lowest", "()I"⟩, prog_14_method_88_code, 1, some .int)
theorem mq_336 : mq 336 = q_336 := rfl
def q_337 : MethodName × ByteArray × Nat × Option FieldType := (⟨"DrownedRoomsModel", "highest", "()I"⟩, prog_14_method_89_code, 1, some .int)
theorem mq_337 : mq 337 = q_337 := rfl
def q_338 : MethodName × ByteArray × Nat × Option FieldType := (⟨"DrownedRoomsModel", "bell", "()I"⟩, prog_14_method_90_code, 1, some .int)
theorem mq_338 : mq 338 = q_338 := rfl
def q_339 : MethodName × ByteArray × Nat × Option FieldType := (⟨"DrownedRoomsModel", "visits", "(I)I"⟩, prog_14_method_91_code, 4, some .int)
theorem mq_339 : mq 339 = q_339 := rfl
def q_340 : MethodName × ByteArray × Nat × Option FieldType := (⟨"DrownedRoomsModel", "quiet", "(I)I"⟩, prog_14_method_93_code, 5, some .int)
theorem mq_340 : mq 340 = q_340 := rfl
def q_342 : MethodName × ByteArray × Nat × Option FieldType := (⟨"DrownedRoomsModel", "quarrels", "()I"⟩, prog_14_method_94_code, 4, some .int)
theorem mq_342 : mq 342 = q_342 := rfl
def q_343 : MethodName × ByteArray × Nat × Option FieldType := (⟨"DrownedRoomsModel", "brings", "(I)I"⟩, prog_14_method_95_code, 4, some .int)
theorem mq_343 : mq 343 = q_343 := rfl
def q_344 : MethodName × ByteArray × Nat × Option FieldType := (⟨"DrownedRoomsModel", "bill", "(I)I"⟩, prog_14_method_100_code, 2, some .int)
theorem mq_344 : mq 344 = q_344 := rfl
def q_349 : MethodName × ByteArray × Nat × Option FieldType := (⟨"DrownedRoomsModel", "byteAt", "(I)I"⟩, prog_14_method_101_code, 2, some .int)
theorem mq_349 : mq 349 = q_349 := rfl
def q_350 : MethodName × ByteArray × Nat × Option FieldType := (⟨"DrownedRoomsModel", "drawn", "(II)I"⟩, prog_14_method_105_code, 3, some .int)
theorem mq_350 : mq 350 = q_350 := rfl
def q_351 : MethodName × ByteArray × Nat × Option FieldType := (⟨"DrownedRoomsModel", "drawDays", "(II)I"⟩, prog_14_method_104_code, 6, some .int)
theorem mq_351 : mq 351 = q_351 := rfl
def q_353 : MethodName × ByteArray × Nat × Option FieldType := (⟨"DrownedRoomsModel", "draw", "(I)I"⟩, prog_14_method_102_code, 2, some .int)
theorem mq_353 : mq 353 = q_353 := rfl
def q_354 : MethodName × ByteArray × Nat × Option FieldType := (⟨"DrownedRoomsModel", "odds", "(III)I"⟩, prog_14_method_106_code, 6, some .int)
theorem mq_354 : mq 354 = q_354 := rfl
def q_355 : MethodName × ByteArray × Nat × Option FieldType := (⟨"DrownedRoomsModel", "book", "(I)I"⟩, prog_14_method_112_code, 4, some .int)
theorem mq_355 : mq 355 = q_355 := rfl
def q_361 : MethodName × ByteArray × Nat × Option FieldType := (⟨"DrownedRoomsModel", "stay", "(Z)V"⟩, prog_14_method_113_code, 4, none)
theorem mq_361 : mq 361 = q_361 := rfl
def q_362 : MethodName × ByteArray × Nat × Option FieldType := (⟨"DrownedRoomsModel", "told", "(I)I"⟩, prog_14_method_114_code, 2, some .int)
theorem mq_362 : mq 362 = q_362 := rfl
def q_363 : MethodName × ByteArray × Nat × Option FieldType := (⟨"DrownedRoomsModel", "sentence", "()I"⟩, prog_14_method_123_code, 2, some .int)
theorem mq_363 : mq 363 = q_363 := rfl
def q_364 : MethodName × ByteArray × Nat × Option FieldType := (⟨"DrownedRoomsModel", "readOr", "()Z"⟩, prog_14_method_116_code, 2, some .boolean)
theorem mq_364 : mq 364 = q_364 := rfl
def q_365 : MethodName × ByteArray × Nat × Option FieldType := (⟨"DrownedRoomsModel", "readAnd", "()Z"⟩, prog_14_method_117_code, 2, some .boolean)
theorem mq_365 : mq 365 = q_365 := rfl
def q_366 : MethodName × ByteArray × Nat × Option FieldType := (⟨"DrownedRoomsModel", "readSaid", "()Z"⟩, prog_14_method_118_code, 4, some .boolean)
theorem mq_366 : mq 366 = q_366 := rfl
def q_372 : MethodName × ByteArray × Nat × Option FieldType := (⟨"DrownedRoomsModel", "said", "(I)I"⟩, prog_14_method_125_code, 4, some .int)
theorem mq_372 : mq 372 = q_372 := rfl
def q_374 : MethodName × ByteArray × Nat × Option FieldType := (⟨"DrownedRoomsModel", "image", "(I)Z"⟩, prog_14_method_126_code, 3, some .boolean)
theorem mq_374 : mq 374 = q_374 := rfl
def q_375 : MethodName × ByteArray × Nat × Option FieldType := (⟨"DrownedRoomsModel", "restore", "(I)Z"⟩, prog_14_method_127_code, 3, some .boolean)
theorem mq_375 : mq 375 = q_375 := rfl
def q_376 : MethodName × ByteArray × Nat × Option FieldType := (⟨"DrownedRoomsModel", "count", "(I)I"⟩, prog_14_method_128_code, 2, some .int)
theorem mq_376 : mq 376 = q_376 := rfl
