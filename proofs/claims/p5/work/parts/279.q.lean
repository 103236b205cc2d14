/-! the methods by name -/
noncomputable def q_0 : MethodName × ByteArray × Nat × Option FieldType := (⟨"DrownedRooms", "<init>", "()V"⟩, prog_1_method_1_code, 2, none)
noncomputable def q_1 : MethodName × ByteArray × Nat × Option FieldType := (⟨"java/lang/Object", "<init>", "()V"⟩, object_method_1_code, 1, none)
noncomputable def q_2 : MethodName × ByteArray × Nat × Option FieldType := (⟨"DrownedRooms$Tape", "<init>", "()V"⟩, prog_11_method_1_code, 1, none)
noncomputable def q_3 : MethodName × ByteArray × Nat × Option FieldType := (⟨"DrownedRooms$Valley", "<init>", "()V"⟩, prog_12_method_1_code, 1, none)
noncomputable def q_4 : MethodName × ByteArray × Nat × Option FieldType := (⟨"DrownedRooms$Valley", "clear", "()V"⟩, prog_12_method_13_code, 2, none)
noncomputable def q_5 : MethodName × ByteArray × Nat × Option FieldType := (⟨"DrownedRooms$Lake", "<init>", "(LDrownedRooms$Valley;)V"⟩, prog_6_method_1_code, 2, none)
noncomputable def q_6 : MethodName × ByteArray × Nat × Option FieldType := (⟨"DrownedRooms$Lake", "begin", "()V"⟩, prog_6_method_2_code, 2, none)
noncomputable def q_7 : MethodName × ByteArray × Nat × Option FieldType := (⟨"DrownedRooms$History", "<init>", "(LDrownedRooms$Valley;)V"⟩, prog_4_method_1_code, 3, none)
noncomputable def q_8 : MethodName × ByteArray × Nat × Option FieldType := (⟨"DrownedRooms$Sentence", "<init>", "()V"⟩, prog_9_method_1_code, 1, none)
noncomputable def q_9 : MethodName × ByteArray × Nat × Option FieldType := (⟨"DrownedRooms$Book", "<init>", "()V"⟩, prog_3_method_1_code, 1, none)
noncomputable def q_10 : MethodName × ByteArray × Nat × Option FieldType := (⟨"DrownedRooms$Stays", "<init>", "()V"⟩, prog_10_method_1_code, 1, none)
noncomputable def q_11 : MethodName × ByteArray × Nat × Option FieldType := (⟨"DrownedRooms$Plan", "<init>", "()V"⟩, prog_8_method_1_code, 1, none)
noncomputable def q_12 : MethodName × ByteArray × Nat × Option FieldType := (⟨"DrownedRooms$Boat", "<init>", "()V"⟩, prog_2_method_1_code, 1, none)
noncomputable def q_13 : MethodName × ByteArray × Nat × Option FieldType := (⟨"DrownedRooms$Marks", "<init>", "()V"⟩, prog_7_method_1_code, 1, none)
noncomputable def q_14 : MethodName × ByteArray × Nat × Option FieldType := (⟨"DrownedRooms$Image", "<init>", "()V"⟩, prog_5_method_1_code, 1, none)
noncomputable def q_15 : MethodName × ByteArray × Nat × Option FieldType := (⟨"java/lang/StringBuilder", "<init>", "()V"⟩, prog_27_method_1_code, 1, none)
noncomputable def q_16 : MethodName × ByteArray × Nat × Option FieldType := (⟨"java/lang/AbstractStringBuilder", "<init>", "(I)V"⟩, prog_16_method_2_code, 2, none)
noncomputable def q_17 : MethodName × ByteArray × Nat × Option FieldType := (⟨"java/lang/StringUTF16", "newBytesFor", "(I)[B"⟩, prog_29_method_2_code, 1, (Option.some (Jvm.ClassFile.FieldType.array Jvm.ClassFile.FieldType.byte)))
noncomputable def q_18 : MethodName × ByteArray × Nat × Option FieldType := (⟨"java/lang/StringUTF16", "newBytesLength", "(I)I"⟩, prog_29_method_3_code, 1, some .int)
noncomputable def q_19 : MethodName × ByteArray × Nat × Option FieldType := (⟨"DrownedRooms", "feed", "(IIIII)I"⟩, prog_1_method_2_code, 6, some .int)
noncomputable def q_20 : MethodName × ByteArray × Nat × Option FieldType := (⟨"DrownedRooms$Tape", "hasRoomForFeed", "()Z"⟩, prog_11_method_2_code, 1, some .boolean)
noncomputable def q_21 : MethodName × ByteArray × Nat × Option FieldType := (⟨"DrownedRooms$Tape", "add", "(I)V"⟩, prog_11_method_3_code, 3, none)
noncomputable def q_22 : MethodName × ByteArray × Nat × Option FieldType := (⟨"DrownedRooms$Tape", "size", "()I"⟩, prog_11_method_4_code, 1, some .int)
noncomputable def q_23 : MethodName × ByteArray × Nat × Option FieldType := (⟨"DrownedRooms", "end", "(I)Z"⟩, prog_1_method_3_code, 2, some .boolean)
noncomputable def q_24 : MethodName × ByteArray × Nat × Option FieldType := (⟨"DrownedRooms$Tape", "cutTo", "(I)Z"⟩, prog_11_method_5_code, 2, some .boolean)
noncomputable def q_25 : MethodName × ByteArray × Nat × Option FieldType := (⟨"DrownedRooms", "valley", "()I"⟩, prog_1_method_4_code, 2, some .int)
noncomputable def q_26 : MethodName × ByteArray × Nat × Option FieldType := (⟨"DrownedRooms$Valley", "readFrom", "(LDrownedRooms$Tape;)I"⟩, prog_12_method_3_code, 3, some .int)
noncomputable def q_27 : MethodName × ByteArray × Nat × Option FieldType := (⟨"DrownedRooms$Tape", "open", "(I)V"⟩, prog_11_method_8_code, 2, none)
noncomputable def q_28 : MethodName × ByteArray × Nat × Option FieldType := (⟨"DrownedRooms$Tape", "advance", "()V"⟩, prog_11_method_21_code, 1, none)
noncomputable def q_29 : MethodName × ByteArray × Nat × Option FieldType := (⟨"DrownedRooms$Tape", "isBlank", "(I)Z"⟩, prog_11_method_24_code, 1, some .boolean)
noncomputable def q_30 : MethodName × ByteArray × Nat × Option FieldType := (⟨"DrownedRooms$Tape", "isLetter", "(I)Z"⟩, prog_11_method_25_code, 1, some .boolean)
noncomputable def q_31 : MethodName × ByteArray × Nat × Option FieldType := (⟨"DrownedRooms$Tape", "isDigit", "(I)Z"⟩, prog_11_method_26_code, 1, some .boolean)
noncomputable def q_32 : MethodName × ByteArray × Nat × Option FieldType := (⟨"DrownedRooms$Tape", "readRun", "()V"⟩, prog_11_method_22_code, 4, none)
noncomputable def q_33 : MethodName × ByteArray × Nat × Option FieldType := (⟨"DrownedRooms$Tape", "keywordRead", "()I"⟩, prog_11_method_23_code, 6, some .int)
noncomputable def q_34 : MethodName × ByteArray × Nat × Option FieldType := (⟨"java/lang/String", "length", "()I"⟩, prog_26_method_54_code, 1, some .int)
noncomputable def q_35 : MethodName × ByteArray × Nat × Option FieldType := (⟨"java/lang/String", "coder", "()B"⟩, prog_26_method_152_code, 1, (Option.some Jvm.ClassFile.FieldType.byte))
noncomputable def q_36 : MethodName × ByteArray × Nat × Option FieldType := (⟨"java/lang/String", "charAt", "(I)C"⟩, prog_26_method_56_code, 2, (Option.some Jvm.ClassFile.FieldType.char))
noncomputable def q_37 : MethodName × ByteArray × Nat × Option FieldType := (⟨"java/lang/String", "isLatin1", "()Z"⟩, prog_26_method_154_code, 1, some .boolean)
noncomputable def q_38 : MethodName × ByteArray × Nat × Option FieldType := (⟨"java/lang/StringLatin1", "charAt", "([BI)C"⟩, prog_28_method_2_code, 2, (Option.some Jvm.ClassFile.FieldType.char))
noncomputable def q_39 : MethodName × ByteArray × Nat × Option FieldType := (⟨"java/lang/String", "checkIndex", "(II)V"⟩, prog_26_method_155_code, 2, none)
noncomputable def q_40 : MethodName × ByteArray × Nat × Option FieldType := (⟨"jdk/internal/util/Preconditions", "checkIndex", "(IILjava/util/function/BiFunction;)I"⟩, prog_37_method_11_code, 3, some .int)
noncomputable def q_41 : MethodName × ByteArray × Nat × Option FieldType := (⟨"java/lang/StringUTF16", "charAt", "([BI)C"⟩, prog_29_method_83_code, 2, (Option.some Jvm.ClassFile.FieldType.char))
noncomputable def q_42 : MethodName × ByteArray × Nat × Option FieldType := (⟨"java/lang/StringUTF16", "checkIndex", "(I[B)V"⟩, prog_29_method_91_code, 2, none)
noncomputable def q_43 : MethodName × ByteArray × Nat × Option FieldType := (⟨"java/lang/StringUTF16", "length", "([B)I"⟩, prog_29_method_6_code, 1, some .int)
noncomputable def q_44 : MethodName × ByteArray × Nat × Option FieldType := (⟨"java/lang/StringUTF16", "getChar", "([BI)C"⟩, prog_29_method_5_code, 2, (Option.some Jvm.ClassFile.FieldType.char))
noncomputable def q_45 : MethodName × ByteArray × Nat × Option FieldType := (⟨"DrownedRooms$Tape", "isSignByte", "(I)Z"⟩, prog_11_method_27_code, 1, some .boolean)
noncomputable def q_46 : MethodName × ByteArray × Nat × Option FieldType := (⟨"DrownedRooms$Tape", "isEnd", "()Z"⟩, prog_11_method_12_code, 1, some .boolean)
noncomputable def q_47 : MethodName × ByteArray × Nat × Option FieldType := (⟨"DrownedRooms$Valley", "readLine", "(LDrownedRooms$Tape;)Z"⟩, prog_12_method_14_code, 2, some .boolean)
noncomputable def q_48 : MethodName × ByteArray × Nat × Option FieldType := (⟨"DrownedRooms$Tape", "keyword", "()I"⟩, prog_11_method_16_code, 1, some .int)
noncomputable def q_49 : MethodName × ByteArray × Nat × Option FieldType := (⟨"DrownedRooms$Valley", "isFirst", "(LDrownedRooms$Tape;)Z"⟩, prog_12_method_15_code, 3, some .boolean)
noncomputable def q_50 : MethodName × ByteArray × Nat × Option FieldType := (⟨"DrownedRooms$Tape", "refuse", "(I)Z"⟩, prog_11_method_9_code, 2, some .boolean)
noncomputable def q_51 : MethodName × ByteArray × Nat × Option FieldType := (⟨"DrownedRooms$Valley", "readLake", "(LDrownedRooms$Tape;)Z"⟩, prog_12_method_16_code, 2, some .boolean)
noncomputable def q_52 : MethodName × ByteArray × Nat × Option FieldType := (⟨"DrownedRooms$Tape", "nextIsNumber", "(II)Z"⟩, prog_11_method_20_code, 3, some .boolean)
noncomputable def q_53 : MethodName × ByteArray × Nat × Option FieldType := (⟨"DrownedRooms", "isWithin", "(III)Z"⟩, prog_1_method_46_code, 3, some .boolean)
noncomputable def q_54 : MethodName × ByteArray × Nat × Option FieldType := (⟨"DrownedRooms$Tape", "value", "()I"⟩, prog_11_method_17_code, 1, some .int)
noncomputable def q_55 : MethodName × ByteArray × Nat × Option FieldType := (⟨"DrownedRooms$Valley", "readRain", "(LDrownedRooms$Tape;)Z"⟩, prog_12_method_17_code, 2, some .boolean)
noncomputable def q_56 : MethodName × ByteArray × Nat × Option FieldType := (⟨"DrownedRooms$Valley", "readMill", "(LDrownedRooms$Tape;)Z"⟩, prog_12_method_18_code, 2, some .boolean)
noncomputable def q_57 : MethodName × ByteArray × Nat × Option FieldType := (⟨"DrownedRooms$Valley", "readStorm", "(LDrownedRooms$Tape;)Z"⟩, prog_12_method_19_code, 2, some .boolean)
noncomputable def q_58 : MethodName × ByteArray × Nat × Option FieldType := (⟨"DrownedRooms$Valley", "readHouse", "(LDrownedRooms$Tape;)Z"⟩, prog_12_method_20_code, 2, some .boolean)
noncomputable def q_59 : MethodName × ByteArray × Nat × Option FieldType := (⟨"DrownedRooms$Valley", "readNewName", "(LDrownedRooms$Tape;I)Z"⟩, prog_12_method_23_code, 4, some .boolean)
noncomputable def q_60 : MethodName × ByteArray × Nat × Option FieldType := (⟨"DrownedRooms$Tape", "isName", "()Z"⟩, prog_11_method_13_code, 1, some .boolean)
noncomputable def q_61 : MethodName × ByteArray × Nat × Option FieldType := (⟨"DrownedRooms$Tape", "word", "()J"⟩, prog_11_method_18_code, 1, some .long)
noncomputable def q_62 : MethodName × ByteArray × Nat × Option FieldType := (⟨"DrownedRooms$Valley", "readRoom", "(LDrownedRooms$Tape;)Z"⟩, prog_12_method_21_code, 2, some .boolean)
noncomputable def q_63 : MethodName × ByteArray × Nat × Option FieldType := (⟨"DrownedRooms$Valley", "houseRead", "(LDrownedRooms$Tape;)I"⟩, prog_12_method_9_code, 2, some .int)
noncomputable def q_64 : MethodName × ByteArray × Nat × Option FieldType := (⟨"DrownedRooms$Valley", "numberRead", "(LDrownedRooms$Tape;II)I"⟩, prog_12_method_12_code, 5, some .int)
noncomputable def q_65 : MethodName × ByteArray × Nat × Option FieldType := (⟨"DrownedRooms$Valley", "readGuest", "(LDrownedRooms$Tape;)Z"⟩, prog_12_method_22_code, 2, some .boolean)
noncomputable def q_66 : MethodName × ByteArray × Nat × Option FieldType := (⟨"DrownedRooms$Valley", "readQuarrel", "(LDrownedRooms$Tape;)Z"⟩, prog_12_method_24_code, 4, some .boolean)
noncomputable def q_67 : MethodName × ByteArray × Nat × Option FieldType := (⟨"DrownedRooms$Valley", "guestRead", "(LDrownedRooms$Tape;)I"⟩, prog_12_method_11_code, 2, some .int)
noncomputable def q_68 : MethodName × ByteArray × Nat × Option FieldType := (⟨"DrownedRooms$Valley", "areFoes", "(II)Z"⟩, prog_12_method_8_code, 3, some .boolean)
noncomputable def q_69 : MethodName × ByteArray × Nat × Option FieldType := (⟨"DrownedRooms$Valley", "readSleeps", "(LDrownedRooms$Tape;)Z"⟩, prog_12_method_25_code, 4, some .boolean)
noncomputable def q_70 : MethodName × ByteArray × Nat × Option FieldType := (⟨"DrownedRooms$Valley", "roomRead", "(LDrownedRooms$Tape;)I"⟩, prog_12_method_10_code, 2, some .int)
noncomputable def q_71 : MethodName × ByteArray × Nat × Option FieldType := (⟨"DrownedRooms$Valley", "isSleptIn", "(I)Z"⟩, prog_12_method_26_code, 3, some .boolean)
noncomputable def q_72 : MethodName × ByteArray × Nat × Option FieldType := (⟨"DrownedRooms$Tape", "nextIsSign", "(C)Z"⟩, prog_11_method_19_code, 2, some .boolean)
noncomputable def q_73 : MethodName × ByteArray × Nat × Option FieldType := (⟨"DrownedRooms$Tape", "isSign", "(C)Z"⟩, prog_11_method_15_code, 2, some .boolean)
noncomputable def q_74 : MethodName × ByteArray × Nat × Option FieldType := (⟨"DrownedRooms", "closeText", "()V"⟩, prog_1_method_44_code, 1, none)
noncomputable def q_75 : MethodName × ByteArray × Nat × Option FieldType := (⟨"DrownedRooms$Tape", "faultKind", "()I"⟩, prog_11_method_10_code, 1, some .int)
noncomputable def q_76 : MethodName × ByteArray × Nat × Option FieldType := (⟨"DrownedRooms$Tape", "empty", "()V"⟩, prog_11_method_6_code, 1, none)
noncomputable def q_77 : MethodName × ByteArray × Nat × Option FieldType := (⟨"DrownedRooms$Tape", "faultPlace", "()I"⟩, prog_11_method_11_code, 1, some .int)
noncomputable def q_78 : MethodName × ByteArray × Nat × Option FieldType := (⟨"DrownedRooms$Valley", "copyFrom", "(LDrownedRooms$Valley;)V"⟩, prog_12_method_2_code, 2, none)
noncomputable def q_79 : MethodName × ByteArray × Nat × Option FieldType := (⟨"DrownedRooms$Sentence", "forget", "()V"⟩, prog_9_method_3_code, 1, none)
noncomputable def q_80 : MethodName × ByteArray × Nat × Option FieldType := (⟨"DrownedRooms$History", "forget", "()V"⟩, prog_4_method_4_code, 1, none)
noncomputable def q_81 : MethodName × ByteArray × Nat × Option FieldType := (⟨"DrownedRooms", "fault", "()I"⟩, prog_1_method_5_code, 1, some .int)
noncomputable def q_82 : MethodName × ByteArray × Nat × Option FieldType := (⟨"DrownedRooms", "now", "(I)I"⟩, prog_1_method_8_code, 2, some .int)
noncomputable def q_83 : MethodName × ByteArray × Nat × Option FieldType := (⟨"DrownedRooms$Lake", "wetRooms", "()I"⟩, prog_6_method_6_code, 1, some .int)
noncomputable def q_84 : MethodName × ByteArray × Nat × Option FieldType := (⟨"DrownedRooms$Valley", "allRooms", "()I"⟩, prog_12_method_7_code, 1, some .int)
noncomputable def q_85 : MethodName × ByteArray × Nat × Option FieldType := (⟨"DrownedRooms$Valley", "dryRoomsAt", "(I)I"⟩, prog_12_method_6_code, 4, some .int)
noncomputable def q_86 : MethodName × ByteArray × Nat × Option FieldType := (⟨"DrownedRooms$Lake", "letRooms", "()I"⟩, prog_6_method_7_code, 3, some .int)
noncomputable def q_87 : MethodName × ByteArray × Nat × Option FieldType := (⟨"DrownedRooms$Lake", "roomBitOf", "(I)I"⟩, prog_6_method_9_code, 2, some .int)
noncomputable def q_88 : MethodName × ByteArray × Nat × Option FieldType := (⟨"DrownedRooms$Lake", "broughtInAll", "()I"⟩, prog_6_method_11_code, 3, some .int)
noncomputable def q_89 : MethodName × ByteArray × Nat × Option FieldType := (⟨"DrownedRooms", "take", "(III)I"⟩, prog_1_method_9_code, 5, some .int)
noncomputable def q_90 : MethodName × ByteArray × Nat × Option FieldType := (⟨"DrownedRooms", "isGuest", "(I)Z"⟩, prog_1_method_43_code, 2, some .boolean)
noncomputable def q_91 : MethodName × ByteArray × Nat × Option FieldType := (⟨"DrownedRooms", "isRoom", "(I)Z"⟩, prog_1_method_42_code, 2, some .boolean)
noncomputable def q_92 : MethodName × ByteArray × Nat × Option FieldType := (⟨"DrownedRooms$Lake", "whyNotTake", "(II)I"⟩, prog_6_method_12_code, 3, some .int)
noncomputable def q_93 : MethodName × ByteArray × Nat × Option FieldType := (⟨"DrownedRooms$Lake", "whoHas", "(I)I"⟩, prog_6_method_10_code, 3, some .int)
noncomputable def q_94 : MethodName × ByteArray × Nat × Option FieldType := (⟨"DrownedRooms$Lake", "depthIn", "(I)I"⟩, prog_6_method_5_code, 2, some .int)
noncomputable def q_95 : MethodName × ByteArray × Nat × Option FieldType := (⟨"java/lang/Math", "max", "(II)I"⟩, prog_23_method_65_code, 2, some .int)
noncomputable def q_96 : MethodName × ByteArray × Nat × Option FieldType := (⟨"DrownedRooms$History", "keep", "(LDrownedRooms$Lake;)V"⟩, prog_4_method_2_code, 2, none)
noncomputable def q_97 : MethodName × ByteArray × Nat × Option FieldType := (⟨"DrownedRooms$Lake", "copyFrom", "(LDrownedRooms$Lake;)V"⟩, prog_6_method_3_code, 2, none)
noncomputable def q_98 : MethodName × ByteArray × Nat × Option FieldType := (⟨"java/lang/Math", "min", "(II)I"⟩, prog_23_method_69_code, 2, some .int)
noncomputable def q_99 : MethodName × ByteArray × Nat × Option FieldType := (⟨"DrownedRooms$Lake", "moveIn", "(III)V"⟩, prog_6_method_15_code, 4, none)
noncomputable def q_100 : MethodName × ByteArray × Nat × Option FieldType := (⟨"DrownedRooms", "leave", "(I)I"⟩, prog_1_method_10_code, 3, some .int)
noncomputable def q_101 : MethodName × ByteArray × Nat × Option FieldType := (⟨"DrownedRooms$Lake", "whyNotLeave", "(I)I"⟩, prog_6_method_13_code, 2, some .int)
noncomputable def q_102 : MethodName × ByteArray × Nat × Option FieldType := (⟨"DrownedRooms$Lake", "moveOut", "(I)V"⟩, prog_6_method_16_code, 2, none)
noncomputable def q_103 : MethodName × ByteArray × Nat × Option FieldType := (⟨"DrownedRooms", "wheel", "(I)I"⟩, prog_1_method_11_code, 3, some .int)
noncomputable def q_104 : MethodName × ByteArray × Nat × Option FieldType := (⟨"DrownedRooms$Lake", "whyNotTurn", "(I)I"⟩, prog_6_method_14_code, 2, some .int)
noncomputable def q_105 : MethodName × ByteArray × Nat × Option FieldType := (⟨"DrownedRooms", "days", "(I)I"⟩, prog_1_method_12_code, 2, some .int)
noncomputable def q_106 : MethodName × ByteArray × Nat × Option FieldType := (⟨"DrownedRooms$Lake", "daysLeft", "()I"⟩, prog_6_method_4_code, 1, some .int)
noncomputable def q_107 : MethodName × ByteArray × Nat × Option FieldType := (⟨"DrownedRooms$Lake", "passDays", "(I)I"⟩, prog_6_method_17_code, 4, some .int)
noncomputable def q_108 : MethodName × ByteArray × Nat × Option FieldType := (⟨"DrownedRooms$Lake", "passDay", "()V"⟩, prog_6_method_24_code, 2, none)
noncomputable def q_109 : MethodName × ByteArray × Nat × Option FieldType := (⟨"DrownedRooms$Valley", "millsGain", "(II)I"⟩, prog_12_method_5_code, 3, some .int)
noncomputable def q_110 : MethodName × ByteArray × Nat × Option FieldType := (⟨"DrownedRooms$Valley", "levelBehind", "(III)I"⟩, prog_12_method_4_code, 5, some .int)
noncomputable def q_111 : MethodName × ByteArray × Nat × Option FieldType := (⟨"DrownedRooms$Lake", "passNight", "(II)V"⟩, prog_6_method_25_code, 5, none)
noncomputable def q_112 : MethodName × ByteArray × Nat × Option FieldType := (⟨"DrownedRooms", "undo", "()I"⟩, prog_1_method_13_code, 1, some .int)
noncomputable def q_113 : MethodName × ByteArray × Nat × Option FieldType := (⟨"DrownedRooms$History", "giveBack", "(LDrownedRooms$Lake;)I"⟩, prog_4_method_3_code, 2, some .int)
noncomputable def q_114 : MethodName × ByteArray × Nat × Option FieldType := (⟨"DrownedRooms", "level", "(I)I"⟩, prog_1_method_14_code, 4, some .int)
noncomputable def q_115 : MethodName × ByteArray × Nat × Option FieldType := (⟨"DrownedRooms", "dry", "(II)I"⟩, prog_1_method_15_code, 6, some .int)
noncomputable def q_116 : MethodName × ByteArray × Nat × Option FieldType := (⟨"DrownedRooms", "wets", "(I)I"⟩, prog_1_method_16_code, 4, some .int)
noncomputable def q_117 : MethodName × ByteArray × Nat × Option FieldType := (⟨"DrownedRooms", "stays", "()I"⟩, prog_1_method_17_code, 2, some .int)
noncomputable def q_118 : MethodName × ByteArray × Nat × Option FieldType := (⟨"DrownedRooms$Stays", "readFrom", "(LDrownedRooms$Tape;LDrownedRooms$Valley;)Z"⟩, prog_10_method_2_code, 6, some .boolean)
noncomputable def q_119 : MethodName × ByteArray × Nat × Option FieldType := (⟨"DrownedRooms$Tape", "unsignedAt", "(I)I"⟩, prog_11_method_7_code, 2, some .int)
noncomputable def q_120 : MethodName × ByteArray × Nat × Option FieldType := (⟨"DrownedRooms$Stays", "find", "(LDrownedRooms$Lake;)I"⟩, prog_10_method_3_code, 2, some .int)
noncomputable def q_121 : MethodName × ByteArray × Nat × Option FieldType := (⟨"DrownedRooms$Stays", "findFits", "(LDrownedRooms$Lake;)V"⟩, prog_10_method_5_code, 7, none)
noncomputable def q_122 : MethodName × ByteArray × Nat × Option FieldType := (⟨"DrownedRooms$Stays", "tryStay", "(III)V"⟩, prog_10_method_6_code, 5, none)
noncomputable def q_123 : MethodName × ByteArray × Nat × Option FieldType := (⟨"DrownedRooms$Stays", "isFreeFor", "(II)Z"⟩, prog_10_method_7_code, 4, some .boolean)
noncomputable def q_124 : MethodName × ByteArray × Nat × Option FieldType := (⟨"DrownedRooms", "stayAt", "(I)I"⟩, prog_1_method_18_code, 2, some .int)
noncomputable def q_125 : MethodName × ByteArray × Nat × Option FieldType := (⟨"DrownedRooms$Stays", "roomOf", "(I)I"⟩, prog_10_method_4_code, 2, some .int)
noncomputable def q_126 : MethodName × ByteArray × Nat × Option FieldType := (⟨"DrownedRooms", "plan", "(II)I"⟩, prog_1_method_19_code, 3, some .int)
noncomputable def q_127 : MethodName × ByteArray × Nat × Option FieldType := (⟨"DrownedRooms$Plan", "find", "(LDrownedRooms$Lake;II)I"⟩, prog_8_method_2_code, 4, some .int)
noncomputable def q_128 : MethodName × ByteArray × Nat × Option FieldType := (⟨"DrownedRooms$Plan", "tryDay", "(LDrownedRooms$Lake;IIII)V"⟩, prog_8_method_4_code, 8, none)
noncomputable def q_129 : MethodName × ByteArray × Nat × Option FieldType := (⟨"DrownedRooms$Plan", "mostToCome", "(LDrownedRooms$Valley;II)I"⟩, prog_8_method_5_code, 6, some .int)
noncomputable def q_130 : MethodName × ByteArray × Nat × Option FieldType := (⟨"DrownedRooms", "planAt", "(I)I"⟩, prog_1_method_20_code, 2, some .int)
noncomputable def q_131 : MethodName × ByteArray × Nat × Option FieldType := (⟨"DrownedRooms$Plan", "wheelAhead", "(I)I"⟩, prog_8_method_3_code, 2, some .int)
noncomputable def q_132 : MethodName × ByteArray × Nat × Option FieldType := (⟨"DrownedRooms", "round", "()I"⟩, prog_1_method_21_code, 1, some .int)
noncomputable def q_133 : MethodName × ByteArray × Nat × Option FieldType := (⟨"DrownedRooms$Lake", "letHouses", "()I"⟩, prog_6_method_8_code, 3, some .int)
noncomputable def q_134 : MethodName × ByteArray × Nat × Option FieldType := (⟨"DrownedRooms$Boat", "find", "(LDrownedRooms$Valley;I)I"⟩, prog_2_method_2_code, 3, some .int)
noncomputable def q_135 : MethodName × ByteArray × Nat × Option FieldType := (⟨"java/lang/Integer", "bitCount", "(I)I"⟩, prog_22_method_49_code, 1, some .int)
noncomputable def q_136 : MethodName × ByteArray × Nat × Option FieldType := (⟨"DrownedRooms$Boat", "tryHouse", "(LDrownedRooms$Valley;IIII)V"⟩, prog_2_method_4_code, 7, none)
noncomputable def q_137 : MethodName × ByteArray × Nat × Option FieldType := (⟨"DrownedRooms$Boat", "strokesBetween", "(LDrownedRooms$Valley;II)I"⟩, prog_2_method_5_code, 3, some .int)
noncomputable def q_138 : MethodName × ByteArray × Nat × Option FieldType := (⟨"DrownedRooms$Boat", "xOf", "(LDrownedRooms$Valley;I)I"⟩, prog_2_method_6_code, 2, some .int)
noncomputable def q_139 : MethodName × ByteArray × Nat × Option FieldType := (⟨"java/lang/Math", "abs", "(I)I"⟩, prog_23_method_59_code, 1, some .int)
noncomputable def q_140 : MethodName × ByteArray × Nat × Option FieldType := (⟨"DrownedRooms$Boat", "yOf", "(LDrownedRooms$Valley;I)I"⟩, prog_2_method_7_code, 2, some .int)
noncomputable def q_141 : MethodName × ByteArray × Nat × Option FieldType := (⟨"DrownedRooms", "roundAt", "(I)I"⟩, prog_1_method_22_code, 2, some .int)
noncomputable def q_142 : MethodName × ByteArray × Nat × Option FieldType := (⟨"DrownedRooms$Boat", "houseAt", "(I)I"⟩, prog_2_method_3_code, 2, some .int)
noncomputable def q_143 : MethodName × ByteArray × Nat × Option FieldType := (⟨"DrownedRooms", "marks", "()I"⟩, prog_1_method_23_code, 2, some .int)
noncomputable def q_144 : MethodName × ByteArray × Nat × Option FieldType := (⟨"DrownedRooms$Marks", "readFrom", "(LDrownedRooms$Tape;LDrownedRooms$Valley;)I"⟩, prog_7_method_2_code, 9, some .int)
noncomputable def q_145 : MethodName × ByteArray × Nat × Option FieldType := (⟨"DrownedRooms$Marks", "bestBell", "(LDrownedRooms$Valley;)I"⟩, prog_7_method_3_code, 7, some .int)
noncomputable def q_146 : MethodName × ByteArray × Nat × Option FieldType := (⟨"DrownedRooms", "lowest", "()I"⟩, prog_1_method_24_code, 1, some .int)
noncomputable def q_147 : MethodName × ByteArray × Nat × Option FieldType := (⟨"DrownedRooms", "highest", "()I"⟩, prog_1_method_25_code, 1, some .int)
noncomputable def q_148 : MethodName × ByteArray × Nat × Option FieldType := (⟨"DrownedRooms", "bell", "()I"⟩, prog_1_method_26_code, 1, some .int)
noncomputable def q_149 : MethodName × ByteArray × Nat × Option FieldType := (⟨"DrownedRooms", "visits", "(I)I"⟩, prog_1_method_27_code, 2, some .int)
noncomputable def q_150 : MethodName × ByteArray × Nat × Option FieldType := (⟨"DrownedRooms$Lake", "withinReachOf", "(I)I"⟩, prog_6_method_19_code, 5, some .int)
noncomputable def q_151 : MethodName × ByteArray × Nat × Option FieldType := (⟨"DrownedRooms", "quiet", "(I)I"⟩, prog_1_method_28_code, 2, some .int)
noncomputable def q_152 : MethodName × ByteArray × Nat × Option FieldType := (⟨"DrownedRooms$Lake", "quietFor", "(I)I"⟩, prog_6_method_20_code, 6, some .int)
noncomputable def q_153 : MethodName × ByteArray × Nat × Option FieldType := (⟨"DrownedRooms$Lake", "hasFoeIn", "(II)Z"⟩, prog_6_method_23_code, 5, some .boolean)
noncomputable def q_154 : MethodName × ByteArray × Nat × Option FieldType := (⟨"DrownedRooms", "quarrels", "()I"⟩, prog_1_method_29_code, 1, some .int)
noncomputable def q_155 : MethodName × ByteArray × Nat × Option FieldType := (⟨"DrownedRooms$Lake", "foesUnderOneRoof", "()I"⟩, prog_6_method_21_code, 4, some .int)
noncomputable def q_156 : MethodName × ByteArray × Nat × Option FieldType := (⟨"DrownedRooms$Lake", "sleepInOneHouse", "(II)Z"⟩, prog_6_method_22_code, 3, some .boolean)
noncomputable def q_157 : MethodName × ByteArray × Nat × Option FieldType := (⟨"DrownedRooms", "brings", "(I)I"⟩, prog_1_method_30_code, 2, some .int)
noncomputable def q_158 : MethodName × ByteArray × Nat × Option FieldType := (⟨"DrownedRooms", "bill", "(I)I"⟩, prog_1_method_31_code, 3, some .int)
noncomputable def q_159 : MethodName × ByteArray × Nat × Option FieldType := (⟨"java/lang/StringBuilder", "setLength", "(I)V"⟩, prog_27_method_89_code, 2, none)
noncomputable def q_160 : MethodName × ByteArray × Nat × Option FieldType := (⟨"java/lang/AbstractStringBuilder", "setLength", "(I)V"⟩, prog_16_method_13_code, 2, none)
noncomputable def q_161 : MethodName × ByteArray × Nat × Option FieldType := (⟨"java/lang/AbstractStringBuilder", "ensureCapacityInternal", "(I)V"⟩, prog_16_method_9_code, 3, none)
noncomputable def q_162 : MethodName × ByteArray × Nat × Option FieldType := (⟨"java/lang/AbstractStringBuilder", "newCapacity", "(I)I"⟩, prog_16_method_10_code, 6, some .int)
noncomputable def q_163 : MethodName × ByteArray × Nat × Option FieldType := (⟨"jdk/internal/util/ArraysSupport", "newLength", "(III)I"⟩, prog_36_method_27_code, 4, some .int)
noncomputable def q_164 : MethodName × ByteArray × Nat × Option FieldType := (⟨"jdk/internal/util/ArraysSupport", "hugeLength", "(II)I"⟩, prog_36_method_28_code, 3, some .int)
noncomputable def q_165 : MethodName × ByteArray × Nat × Option FieldType := (⟨"java/util/Arrays", "copyOf", "([BI)[B"⟩, prog_34_method_121_code, 3, (Option.some (Jvm.ClassFile.FieldType.array Jvm.ClassFile.FieldType.byte)))
noncomputable def q_166 : MethodName × ByteArray × Nat × Option FieldType := (⟨"java/lang/AbstractStringBuilder", "isLatin1", "()Z"⟩, prog_16_method_68_code, 1, some .boolean)
noncomputable def q_167 : MethodName × ByteArray × Nat × Option FieldType := (⟨"java/lang/StringLatin1", "fillNull", "([BII)V"⟩, prog_28_method_48_code, 3, none)
noncomputable def q_168 : MethodName × ByteArray × Nat × Option FieldType := (⟨"java/util/Arrays", "fill", "([BIIB)V"⟩, prog_34_method_110_code, 5, none)
noncomputable def q_169 : MethodName × ByteArray × Nat × Option FieldType := (⟨"java/util/Arrays", "rangeCheck", "(III)V"⟩, prog_34_method_30_code, 3, none)
noncomputable def q_170 : MethodName × ByteArray × Nat × Option FieldType := (⟨"java/lang/StringUTF16", "fillNull", "([BII)V"⟩, prog_29_method_70_code, 3, none)
noncomputable def q_171 : MethodName × ByteArray × Nat × Option FieldType := (⟨"DrownedRooms", "addName", "(J)V"⟩, prog_1_method_45_code, 5, none)
noncomputable def q_172 : MethodName × ByteArray × Nat × Option FieldType := (⟨"java/lang/StringBuilder", "append", "(C)Ljava/lang/StringBuilder;"⟩, prog_27_method_14_code, 2, (Option.some (Jvm.ClassFile.FieldType.object "java/lang/StringBuilder")))
noncomputable def q_173 : MethodName × ByteArray × Nat × Option FieldType := (⟨"java/lang/AbstractStringBuilder", "append", "(C)Ljava/lang/AbstractStringBuilder;"⟩, prog_16_method_31_code, 2, (Option.some (Jvm.ClassFile.FieldType.object "java/lang/AbstractStringBuilder")))
noncomputable def q_174 : MethodName × ByteArray × Nat × Option FieldType := (⟨"java/lang/StringLatin1", "canEncode", "(C)Z"⟩, prog_28_method_3_code, 1, some .boolean)
noncomputable def q_175 : MethodName × ByteArray × Nat × Option FieldType := (⟨"java/lang/AbstractStringBuilder", "inflate", "()V"⟩, prog_16_method_11_code, 2, none)
noncomputable def q_176 : MethodName × ByteArray × Nat × Option FieldType := (⟨"java/lang/StringLatin1", "inflate", "([BI[BII)V"⟩, prog_28_method_50_code, 5, none)
noncomputable def q_177 : MethodName × ByteArray × Nat × Option FieldType := (⟨"java/lang/StringUTF16", "inflate", "([BI[BII)V"⟩, prog_29_method_86_code, 6, none)
noncomputable def q_178 : MethodName × ByteArray × Nat × Option FieldType := (⟨"java/lang/StringUTF16", "checkBoundsOffCount", "(II[B)V"⟩, prog_29_method_94_code, 3, none)
noncomputable def q_179 : MethodName × ByteArray × Nat × Option FieldType := (⟨"java/lang/String", "checkBoundsOffCount", "(III)I"⟩, prog_26_method_157_code, 3, some .int)
noncomputable def q_180 : MethodName × ByteArray × Nat × Option FieldType := (⟨"jdk/internal/util/Preconditions", "checkFromIndexSize", "(IIILjava/util/function/BiFunction;)I"⟩, prog_37_method_13_code, 4, some .int)
noncomputable def q_181 : MethodName × ByteArray × Nat × Option FieldType := (⟨"java/lang/StringUTF16", "putChar", "([BII)V"⟩, prog_29_method_4_code, 3, none)
noncomputable def q_182 : MethodName × ByteArray × Nat × Option FieldType := (⟨"java/lang/StringUTF16", "putCharSB", "([BII)V"⟩, prog_29_method_71_code, 3, none)
noncomputable def q_183 : MethodName × ByteArray × Nat × Option FieldType := (⟨"java/lang/StringBuilder", "append", "(Ljava/lang/String;)Ljava/lang/StringBuilder;"⟩, prog_27_method_7_code, 2, (Option.some (Jvm.ClassFile.FieldType.object "java/lang/StringBuilder")))
noncomputable def q_184 : MethodName × ByteArray × Nat × Option FieldType := (⟨"java/lang/AbstractStringBuilder", "append", "(Ljava/lang/String;)Ljava/lang/AbstractStringBuilder;"⟩, prog_16_method_22_code, 3, (Option.some (Jvm.ClassFile.FieldType.object "java/lang/AbstractStringBuilder")))
noncomputable def q_185 : MethodName × ByteArray × Nat × Option FieldType := (⟨"java/lang/AbstractStringBuilder", "appendNull", "()Ljava/lang/AbstractStringBuilder;"⟩, prog_16_method_26_code, 3, (Option.some (Jvm.ClassFile.FieldType.object "java/lang/AbstractStringBuilder")))
noncomputable def q_186 : MethodName × ByteArray × Nat × Option FieldType := (⟨"java/lang/StringUTF16", "putCharsAt", "([BICCCC)I"⟩, prog_29_method_81_code, 7, some .int)
noncomputable def q_187 : MethodName × ByteArray × Nat × Option FieldType := (⟨"java/lang/StringUTF16", "checkBoundsBeginEnd", "(II[B)V"⟩, prog_29_method_93_code, 3, none)
noncomputable def q_188 : MethodName × ByteArray × Nat × Option FieldType := (⟨"java/lang/String", "checkBoundsBeginEnd", "(III)V"⟩, prog_26_method_158_code, 3, none)
noncomputable def q_189 : MethodName × ByteArray × Nat × Option FieldType := (⟨"jdk/internal/util/Preconditions", "checkFromToIndex", "(IIILjava/util/function/BiFunction;)I"⟩, prog_37_method_12_code, 4, some .int)
noncomputable def q_190 : MethodName × ByteArray × Nat × Option FieldType := (⟨"java/lang/AbstractStringBuilder", "putStringAt", "(ILjava/lang/String;)V"⟩, prog_16_method_73_code, 3, none)
noncomputable def q_191 : MethodName × ByteArray × Nat × Option FieldType := (⟨"java/lang/AbstractStringBuilder", "inflateIfNeededFor", "(Ljava/lang/String;)V"⟩, prog_16_method_71_code, 2, none)
noncomputable def q_192 : MethodName × ByteArray × Nat × Option FieldType := (⟨"java/lang/String", "getBytes", "([BIB)V"⟩, prog_26_method_147_code, 4, none)
noncomputable def q_193 : MethodName × ByteArray × Nat × Option FieldType := (⟨"java/lang/StringBuilder", "append", "(I)Ljava/lang/StringBuilder;"⟩, prog_27_method_15_code, 2, (Option.some (Jvm.ClassFile.FieldType.object "java/lang/StringBuilder")))
noncomputable def q_194 : MethodName × ByteArray × Nat × Option FieldType := (⟨"java/lang/AbstractStringBuilder", "append", "(I)Ljava/lang/AbstractStringBuilder;"⟩, prog_16_method_32_code, 4, (Option.some (Jvm.ClassFile.FieldType.object "java/lang/AbstractStringBuilder")))
noncomputable def q_195 : MethodName × ByteArray × Nat × Option FieldType := (⟨"java/lang/Integer", "stringSize", "(I)I"⟩, prog_22_method_13_code, 4, some .int)
noncomputable def q_196 : MethodName × ByteArray × Nat × Option FieldType := (⟨"java/lang/Integer", "getChars", "(II[B)I"⟩, prog_22_method_12_code, 7, some .int)
noncomputable def q_197 : MethodName × ByteArray × Nat × Option FieldType := (⟨"java/lang/StringUTF16", "getChars", "(III[B)I"⟩, prog_29_method_77_code, 5, some .int)
noncomputable def q_198 : MethodName × ByteArray × Nat × Option FieldType := (⟨"java/lang/StringUTF16", "getChars", "(II[B)I"⟩, prog_29_method_89_code, 7, some .int)
noncomputable def q_199 : MethodName × ByteArray × Nat × Option FieldType := (⟨"java/lang/StringBuilder", "length", "()I"⟩, prog_27_method_93_code, 1, some .int)
noncomputable def q_200 : MethodName × ByteArray × Nat × Option FieldType := (⟨"java/lang/AbstractStringBuilder", "length", "()I"⟩, prog_16_method_6_code, 1, some .int)
noncomputable def q_201 : MethodName × ByteArray × Nat × Option FieldType := (⟨"DrownedRooms", "byteAt", "(I)I"⟩, prog_1_method_32_code, 2, some .int)
noncomputable def q_202 : MethodName × ByteArray × Nat × Option FieldType := (⟨"java/lang/StringBuilder", "charAt", "(I)C"⟩, prog_27_method_88_code, 2, (Option.some Jvm.ClassFile.FieldType.char))
noncomputable def q_203 : MethodName × ByteArray × Nat × Option FieldType := (⟨"java/lang/AbstractStringBuilder", "charAt", "(I)C"⟩, prog_16_method_14_code, 5, (Option.some Jvm.ClassFile.FieldType.char))
noncomputable def q_204 : MethodName × ByteArray × Nat × Option FieldType := (⟨"DrownedRooms", "drawn", "(II)I"⟩, prog_1_method_33_code, 3, some .int)
noncomputable def q_205 : MethodName × ByteArray × Nat × Option FieldType := (⟨"DrownedRooms$Lake", "passDrawnDays", "(II)I"⟩, prog_6_method_18_code, 6, some .int)
noncomputable def q_206 : MethodName × ByteArray × Nat × Option FieldType := (⟨"DrownedRooms$Lake", "drawFor", "(I)V"⟩, prog_6_method_26_code, 4, none)
noncomputable def q_207 : MethodName × ByteArray × Nat × Option FieldType := (⟨"DrownedRooms$Lake", "draw", "(I)I"⟩, prog_6_method_27_code, 2, some .int)
noncomputable def q_208 : MethodName × ByteArray × Nat × Option FieldType := (⟨"DrownedRooms", "odds", "(III)I"⟩, prog_1_method_34_code, 6, some .int)
noncomputable def q_209 : MethodName × ByteArray × Nat × Option FieldType := (⟨"DrownedRooms", "book", "(I)I"⟩, prog_1_method_35_code, 2, some .int)
noncomputable def q_210 : MethodName × ByteArray × Nat × Option FieldType := (⟨"DrownedRooms$Book", "readFrom", "(LDrownedRooms$Tape;LDrownedRooms$Valley;)V"⟩, prog_3_method_2_code, 4, none)
noncomputable def q_211 : MethodName × ByteArray × Nat × Option FieldType := (⟨"DrownedRooms$Book", "readLine", "(LDrownedRooms$Tape;LDrownedRooms$Valley;)Z"⟩, prog_3_method_3_code, 6, some .boolean)
noncomputable def q_212 : MethodName × ByteArray × Nat × Option FieldType := (⟨"DrownedRooms$Book", "readGuestLine", "(LDrownedRooms$Tape;LDrownedRooms$Valley;)Z"⟩, prog_3_method_4_code, 3, some .boolean)
noncomputable def q_213 : MethodName × ByteArray × Nat × Option FieldType := (⟨"DrownedRooms$Book", "live", "(LDrownedRooms$Lake;)I"⟩, prog_3_method_5_code, 2, some .int)
noncomputable def q_214 : MethodName × ByteArray × Nat × Option FieldType := (⟨"DrownedRooms$Book", "liveLine", "(LDrownedRooms$Lake;I)I"⟩, prog_3_method_6_code, 3, some .int)
noncomputable def q_215 : MethodName × ByteArray × Nat × Option FieldType := (⟨"DrownedRooms$Book", "liveTaking", "(LDrownedRooms$Lake;I)I"⟩, prog_3_method_7_code, 4, some .int)
noncomputable def q_216 : MethodName × ByteArray × Nat × Option FieldType := (⟨"DrownedRooms$Book", "liveLeaving", "(LDrownedRooms$Lake;I)I"⟩, prog_3_method_8_code, 3, some .int)
noncomputable def q_217 : MethodName × ByteArray × Nat × Option FieldType := (⟨"DrownedRooms$Book", "liveTurning", "(LDrownedRooms$Lake;I)I"⟩, prog_3_method_9_code, 3, some .int)
noncomputable def q_218 : MethodName × ByteArray × Nat × Option FieldType := (⟨"DrownedRooms", "told", "(I)I"⟩, prog_1_method_36_code, 2, some .int)
noncomputable def q_219 : MethodName × ByteArray × Nat × Option FieldType := (⟨"DrownedRooms$Book", "verdict", "(I)I"⟩, prog_3_method_10_code, 2, some .int)
noncomputable def q_220 : MethodName × ByteArray × Nat × Option FieldType := (⟨"DrownedRooms", "sentence", "()I"⟩, prog_1_method_37_code, 1, some .int)
noncomputable def q_221 : MethodName × ByteArray × Nat × Option FieldType := (⟨"DrownedRooms$Sentence", "readFrom", "(LDrownedRooms$Tape;LDrownedRooms$Valley;)V"⟩, prog_9_method_5_code, 3, none)
noncomputable def q_222 : MethodName × ByteArray × Nat × Option FieldType := (⟨"DrownedRooms$Sentence", "readCond", "(LDrownedRooms$Tape;LDrownedRooms$Valley;I)Z"⟩, prog_9_method_6_code, 6, some .boolean)
noncomputable def q_223 : MethodName × ByteArray × Nat × Option FieldType := (⟨"DrownedRooms$Sentence", "readAll", "(LDrownedRooms$Tape;LDrownedRooms$Valley;I)Z"⟩, prog_9_method_7_code, 6, some .boolean)
noncomputable def q_224 : MethodName × ByteArray × Nat × Option FieldType := (⟨"DrownedRooms$Sentence", "readOne", "(LDrownedRooms$Tape;LDrownedRooms$Valley;I)Z"⟩, prog_9_method_8_code, 6, some .boolean)
noncomputable def q_225 : MethodName × ByteArray × Nat × Option FieldType := (⟨"DrownedRooms$Sentence", "beginsOne", "(I)Z"⟩, prog_9_method_11_code, 1, some .boolean)
noncomputable def q_226 : MethodName × ByteArray × Nat × Option FieldType := (⟨"DrownedRooms$Sentence", "readBracket", "(LDrownedRooms$Tape;LDrownedRooms$Valley;I)Z"⟩, prog_9_method_9_code, 4, some .boolean)
noncomputable def q_227 : MethodName × ByteArray × Nat × Option FieldType := (⟨"DrownedRooms$Sentence", "add", "(III)Z"⟩, prog_9_method_12_code, 4, some .boolean)
noncomputable def q_228 : MethodName × ByteArray × Nat × Option FieldType := (⟨"DrownedRooms$Sentence", "readPlain", "(LDrownedRooms$Tape;LDrownedRooms$Valley;I)Z"⟩, prog_9_method_10_code, 5, some .boolean)
noncomputable def q_229 : MethodName × ByteArray × Nat × Option FieldType := (⟨"DrownedRooms$Tape", "isNumber", "()Z"⟩, prog_11_method_14_code, 1, some .boolean)
noncomputable def q_230 : MethodName × ByteArray × Nat × Option FieldType := (⟨"DrownedRooms$Sentence", "copyFrom", "(LDrownedRooms$Sentence;)V"⟩, prog_9_method_4_code, 2, none)
noncomputable def q_231 : MethodName × ByteArray × Nat × Option FieldType := (⟨"DrownedRooms", "said", "(I)I"⟩, prog_1_method_38_code, 3, some .int)
noncomputable def q_232 : MethodName × ByteArray × Nat × Option FieldType := (⟨"DrownedRooms$Sentence", "isThere", "()Z"⟩, prog_9_method_2_code, 1, some .boolean)
noncomputable def q_233 : MethodName × ByteArray × Nat × Option FieldType := (⟨"DrownedRooms$Sentence", "roomsSaidOf", "(LDrownedRooms$Lake;)I"⟩, prog_9_method_13_code, 4, some .int)
noncomputable def q_234 : MethodName × ByteArray × Nat × Option FieldType := (⟨"DrownedRooms$Sentence", "plainWorth", "(LDrownedRooms$Lake;I)I"⟩, prog_9_method_14_code, 3, some .int)
noncomputable def q_235 : MethodName × ByteArray × Nat × Option FieldType := (⟨"DrownedRooms$Sentence", "roomsAlike", "(LDrownedRooms$Lake;I)I"⟩, prog_9_method_15_code, 5, some .int)
noncomputable def q_236 : MethodName × ByteArray × Nat × Option FieldType := (⟨"DrownedRooms$Sentence", "isTrueOf", "(LDrownedRooms$Lake;II)Z"⟩, prog_9_method_16_code, 4, some .boolean)
noncomputable def q_237 : MethodName × ByteArray × Nat × Option FieldType := (⟨"DrownedRooms$Sentence", "compares", "(II)Z"⟩, prog_9_method_17_code, 3, some .boolean)
noncomputable def q_238 : MethodName × ByteArray × Nat × Option FieldType := (⟨"DrownedRooms", "placeOfBit", "(II)I"⟩, prog_1_method_47_code, 4, some .int)
noncomputable def q_239 : MethodName × ByteArray × Nat × Option FieldType := (⟨"DrownedRooms", "image", "(I)Z"⟩, prog_1_method_39_code, 2, some .boolean)
noncomputable def q_240 : MethodName × ByteArray × Nat × Option FieldType := (⟨"DrownedRooms$Image", "keep", "(LDrownedRooms$Valley;LDrownedRooms$Lake;LDrownedRooms$Sentence;)V"⟩, prog_5_method_2_code, 4, none)
noncomputable def q_241 : MethodName × ByteArray × Nat × Option FieldType := (⟨"DrownedRooms", "restore", "(I)Z"⟩, prog_1_method_40_code, 2, some .boolean)
noncomputable def q_242 : MethodName × ByteArray × Nat × Option FieldType := (⟨"DrownedRooms$Image", "giveBack", "(LDrownedRooms$Valley;LDrownedRooms$Lake;LDrownedRooms$Sentence;)V"⟩, prog_5_method_3_code, 4, none)
noncomputable def q_243 : MethodName × ByteArray × Nat × Option FieldType := (⟨"DrownedRooms", "count", "(I)I"⟩, prog_1_method_41_code, 2, some .int)
noncomputable def q_244 : MethodName × ByteArray × Nat × Option FieldType := (⟨"DrownedRooms", "room", "(II)I"⟩, prog_1_method_6_code, 3, some .int)
noncomputable def q_245 : MethodName × ByteArray × Nat × Option FieldType := (⟨"java/lang/Throwable", "<init>", "()V"⟩, prog_31_method_1_code, 1, none)
noncomputable def q_246 : MethodName × ByteArray × Nat × Option FieldType := (⟨"java/util/NoSuchElementException", "<init>", "(Ljava/lang/String;)V"⟩, prog_35_method_4_code, 2, none)
noncomputable def q_247 : MethodName × ByteArray × Nat × Option FieldType := (⟨"java/lang/RuntimeException", "<init>", "(Ljava/lang/String;)V"⟩, prog_25_method_2_code, 2, none)
noncomputable def q_248 : MethodName × ByteArray × Nat × Option FieldType := (⟨"java/lang/Exception", "<init>", "(Ljava/lang/String;)V"⟩, prog_21_method_2_code, 2, none)
noncomputable def q_249 : MethodName × ByteArray × Nat × Option FieldType := (⟨"java/lang/Throwable", "<init>", "(Ljava/lang/String;)V"⟩, prog_31_method_2_code, 2, none)
noncomputable def q_250 : MethodName × ByteArray × Nat × Option FieldType := (⟨"DrownedRooms", "guest", "(II)I"⟩, prog_1_method_7_code, 3, some .int)
noncomputable def q_251 : MethodName × ByteArray × Nat × Option FieldType := (⟨"DrownedRoomsModel", "feed", "(IIIII)I"⟩, prog_14_method_4_code, 6, some .int)
noncomputable def q_252 : MethodName × ByteArray × Nat × Option FieldType := (⟨"DrownedRoomsModel", "come", "(I)V"⟩, prog_14_method_3_code, 3, none)
noncomputable def q_253 : MethodName × ByteArray × Nat × Option FieldType := (⟨"DrownedRoomsModel", "end", "(I)Z"⟩, prog_14_method_5_code, 2, some .boolean)
noncomputable def q_254 : MethodName × ByteArray × Nat × Option FieldType := (⟨"DrownedRoomsModel", "<init>", "()V"⟩, prog_14_method_26_code, 2, none)
noncomputable def q_255 : MethodName × ByteArray × Nat × Option FieldType := (⟨"DrownedRoomsModel", "startRead", "()V"⟩, prog_14_method_27_code, 2, none)
noncomputable def q_256 : MethodName × ByteArray × Nat × Option FieldType := (⟨"DrownedRoomsModel", "startSo", "()V"⟩, prog_14_method_28_code, 2, none)
noncomputable def q_257 : MethodName × ByteArray × Nat × Option FieldType := (⟨"DrownedRoomsModel", "valley", "()I"⟩, prog_14_method_42_code, 3, some .int)
noncomputable def q_258 : MethodName × ByteArray × Nat × Option FieldType := (⟨"DrownedRoomsModel", "begin", "(I)V"⟩, prog_14_method_25_code, 2, none)
noncomputable def q_259 : MethodName × ByteArray × Nat × Option FieldType := (⟨"DrownedRoomsModel", "take", "()I"⟩, prog_14_method_6_code, 2, some .int)
noncomputable def q_260 : MethodName × ByteArray × Nat × Option FieldType := (⟨"DrownedRoomsModel", "go", "()V"⟩, prog_14_method_16_code, 5, none)
noncomputable def q_261 : MethodName × ByteArray × Nat × Option FieldType := (⟨"DrownedRoomsModel", "isLetter", "(I)Z"⟩, prog_14_method_15_code, 1, some .boolean)
noncomputable def q_262 : MethodName × ByteArray × Nat × Option FieldType := (⟨"DrownedRoomsModel", "isDigit", "(I)Z"⟩, prog_14_method_14_code, 1, some .boolean)
noncomputable def q_263 : MethodName × ByteArray × Nat × Option FieldType := (⟨"DrownedRoomsModel", "tapeAt", "(I)I"⟩, prog_14_method_13_code, 2, some .int)
noncomputable def q_264 : MethodName × ByteArray × Nat × Option FieldType := (⟨"DrownedRoomsModel", "readLine", "()Z"⟩, prog_14_method_41_code, 1, some .boolean)
noncomputable def q_265 : MethodName × ByteArray × Nat × Option FieldType := (⟨"DrownedRoomsModel", "isWord", "(I)Z"⟩, prog_14_method_19_code, 2, some .boolean)
noncomputable def q_266 : MethodName × ByteArray × Nat × Option FieldType := (⟨"DrownedRoomsModel", "wordOf", "(I)J"⟩, prog_14_method_18_code, 1, some .long)
noncomputable def q_267 : MethodName × ByteArray × Nat × Option FieldType := (⟨"DrownedRoomsModel", "spelt", "(IIIIIII)J"⟩, prog_14_method_17_code, 9, some .long)
noncomputable def q_268 : MethodName × ByteArray × Nat × Option FieldType := (⟨"DrownedRoomsModel", "isFresh", "(I)Z"⟩, prog_14_method_34_code, 2, some .boolean)
noncomputable def q_269 : MethodName × ByteArray × Nat × Option FieldType := (⟨"DrownedRoomsModel", "bad", "(I)Z"⟩, prog_14_method_22_code, 2, some .boolean)
noncomputable def q_270 : MethodName × ByteArray × Nat × Option FieldType := (⟨"DrownedRoomsModel", "readNumber", "(II)Z"⟩, prog_14_method_23_code, 3, some .boolean)
noncomputable def q_271 : MethodName × ByteArray × Nat × Option FieldType := (⟨"DrownedRoomsModel", "isIn", "(III)Z"⟩, prog_14_method_7_code, 3, some .boolean)
noncomputable def q_272 : MethodName × ByteArray × Nat × Option FieldType := (⟨"DrownedRoomsModel", "put", "(IZ)Z"⟩, prog_14_method_33_code, 3, some .boolean)
noncomputable def q_273 : MethodName × ByteArray × Nat × Option FieldType := (⟨"DrownedRoomsModel", "readHouse", "()Z"⟩, prog_14_method_35_code, 2, some .boolean)
noncomputable def q_274 : MethodName × ByteArray × Nat × Option FieldType := (⟨"DrownedRoomsModel", "readFirst", "(II)Z"⟩, prog_14_method_32_code, 3, some .boolean)
noncomputable def q_275 : MethodName × ByteArray × Nat × Option FieldType := (⟨"DrownedRoomsModel", "readNew", "(I)Z"⟩, prog_14_method_30_code, 2, some .boolean)
noncomputable def q_276 : MethodName × ByteArray × Nat × Option FieldType := (⟨"DrownedRoomsModel", "isName", "()Z"⟩, prog_14_method_21_code, 2, some .boolean)
noncomputable def q_277 : MethodName × ByteArray × Nat × Option FieldType := (⟨"DrownedRoomsModel", "findIn", "([JIIJ)I"⟩, prog_14_method_29_code, 6, some .int)
noncomputable def q_278 : MethodName × ByteArray × Nat × Option FieldType := (⟨"DrownedRoomsModel", "readRoom", "()Z"⟩, prog_14_method_36_code, 2, some .boolean)
noncomputable def q_279 : MethodName × ByteArray × Nat × Option FieldType := (⟨"DrownedRoomsModel", "isOne", "(II)Z"⟩, prog_14_method_31_code, 3, some .boolean)
noncomputable def q_280 : MethodName × ByteArray × Nat × Option FieldType := (⟨"DrownedRoomsModel", "readGuest", "()Z"⟩, prog_14_method_37_code, 2, some .boolean)
noncomputable def q_281 : MethodName × ByteArray × Nat × Option FieldType := (⟨"DrownedRoomsModel", "readQuarrel", "()Z"⟩, prog_14_method_39_code, 2, some .boolean)
noncomputable def q_282 : MethodName × ByteArray × Nat × Option FieldType := (⟨"DrownedRoomsModel", "isGuestHere", "()Z"⟩, prog_14_method_38_code, 1, some .boolean)
noncomputable def q_283 : MethodName × ByteArray × Nat × Option FieldType := (⟨"DrownedRoomsModel", "has", "(II)Z"⟩, prog_14_method_8_code, 2, some .boolean)
noncomputable def q_284 : MethodName × ByteArray × Nat × Option FieldType := (⟨"DrownedRoomsModel", "readSleeps", "()Z"⟩, prog_14_method_40_code, 3, some .boolean)
noncomputable def q_285 : MethodName × ByteArray × Nat × Option FieldType := (⟨"DrownedRoomsModel", "readEnd", "()Z"⟩, prog_14_method_24_code, 1, some .boolean)
noncomputable def q_286 : MethodName × ByteArray × Nat × Option FieldType := (⟨"DrownedRoomsModel", "isSign", "(I)Z"⟩, prog_14_method_20_code, 2, some .boolean)
noncomputable def q_287 : MethodName × ByteArray × Nat × Option FieldType := (⟨"DrownedRoomsModel", "fault", "()I"⟩, prog_14_method_43_code, 1, some .int)
noncomputable def q_288 : MethodName × ByteArray × Nat × Option FieldType := (⟨"DrownedRoomsModel", "room", "(II)I"⟩, prog_14_method_51_code, 3, some .int)
noncomputable def q_289 : MethodName × ByteArray × Nat × Option FieldType := (⟨"DrownedRoomsModel", "isRoom", "(I)Z"⟩, prog_14_method_44_code, 2, some .boolean)
noncomputable def q_290 : MethodName × ByteArray × Nat × Option FieldType := (⟨"DrownedRoomsModel", "refuse", "()I"⟩, prog_14_method_2_code, 1, some .int)
noncomputable def q_291 : MethodName × ByteArray × Nat × Option FieldType := (⟨"DrownedRoomsModel", "depthOf", "(I)I"⟩, prog_14_method_46_code, 2, some .int)
noncomputable def q_292 : MethodName × ByteArray × Nat × Option FieldType := (⟨"DrownedRoomsModel", "whoHas", "(I)I"⟩, prog_14_method_47_code, 3, some .int)
noncomputable def q_293 : MethodName × ByteArray × Nat × Option FieldType := (⟨"DrownedRoomsModel", "guest", "(II)I"⟩, prog_14_method_52_code, 3, some .int)
noncomputable def q_294 : MethodName × ByteArray × Nat × Option FieldType := (⟨"DrownedRoomsModel", "isGuest", "(I)Z"⟩, prog_14_method_45_code, 2, some .boolean)
noncomputable def q_295 : MethodName × ByteArray × Nat × Option FieldType := (⟨"DrownedRoomsModel", "now", "(I)I"⟩, prog_14_method_53_code, 4, some .int)
noncomputable def q_296 : MethodName × ByteArray × Nat × Option FieldType := (⟨"DrownedRoomsModel", "wets", "()I"⟩, prog_14_method_49_code, 3, some .int)
noncomputable def q_297 : MethodName × ByteArray × Nat × Option FieldType := (⟨"DrownedRoomsModel", "hasRoom", "(I)Z"⟩, prog_14_method_48_code, 2, some .boolean)
noncomputable def q_298 : MethodName × ByteArray × Nat × Option FieldType := (⟨"DrownedRoomsModel", "sum", "(II)I"⟩, prog_14_method_50_code, 5, some .int)
noncomputable def q_299 : MethodName × ByteArray × Nat × Option FieldType := (⟨"DrownedRoomsModel", "take", "(III)I"⟩, prog_14_method_59_code, 4, some .int)
noncomputable def q_300 : MethodName × ByteArray × Nat × Option FieldType := (⟨"DrownedRoomsModel", "act", "(IIIIZ)I"⟩, prog_14_method_58_code, 7, some .int)
noncomputable def q_301 : MethodName × ByteArray × Nat × Option FieldType := (⟨"DrownedRoomsModel", "why", "(III)I"⟩, prog_14_method_55_code, 4, some .int)
noncomputable def q_302 : MethodName × ByteArray × Nat × Option FieldType := (⟨"DrownedRoomsModel", "snap", "()V"⟩, prog_14_method_54_code, 2, none)
noncomputable def q_303 : MethodName × ByteArray × Nat × Option FieldType := (⟨"DrownedRoomsModel", "live", "(IIII)V"⟩, prog_14_method_57_code, 5, none)
noncomputable def q_304 : MethodName × ByteArray × Nat × Option FieldType := (⟨"DrownedRoomsModel", "goAway", "(I)V"⟩, prog_14_method_56_code, 2, none)
noncomputable def q_305 : MethodName × ByteArray × Nat × Option FieldType := (⟨"DrownedRoomsModel", "leave", "(I)I"⟩, prog_14_method_60_code, 2, some .int)
noncomputable def q_306 : MethodName × ByteArray × Nat × Option FieldType := (⟨"DrownedRoomsModel", "wheel", "(I)I"⟩, prog_14_method_61_code, 2, some .int)
noncomputable def q_307 : MethodName × ByteArray × Nat × Option FieldType := (⟨"DrownedRoomsModel", "undo", "()I"⟩, prog_14_method_62_code, 2, some .int)
noncomputable def q_308 : MethodName × ByteArray × Nat × Option FieldType := (⟨"DrownedRoomsModel", "days", "(I)I"⟩, prog_14_method_67_code, 2, some .int)
noncomputable def q_309 : MethodName × ByteArray × Nat × Option FieldType := (⟨"DrownedRoomsModel", "passDays", "(I)I"⟩, prog_14_method_66_code, 4, some .int)
noncomputable def q_310 : MethodName × ByteArray × Nat × Option FieldType := (⟨"DrownedRoomsModel", "least", "(II)I"⟩, prog_14_method_10_code, 2, some .int)
noncomputable def q_311 : MethodName × ByteArray × Nat × Option FieldType := (⟨"DrownedRoomsModel", "oneDay", "()V"⟩, prog_14_method_65_code, 2, none)
noncomputable def q_312 : MethodName × ByteArray × Nat × Option FieldType := (⟨"DrownedRoomsModel", "levelBehind", "(III)I"⟩, prog_14_method_63_code, 5, some .int)
noncomputable def q_313 : MethodName × ByteArray × Nat × Option FieldType := (⟨"DrownedRoomsModel", "night", "(I)V"⟩, prog_14_method_64_code, 3, none)
noncomputable def q_314 : MethodName × ByteArray × Nat × Option FieldType := (⟨"DrownedRoomsModel", "level", "(I)I"⟩, prog_14_method_70_code, 3, some .int)
noncomputable def q_315 : MethodName × ByteArray × Nat × Option FieldType := (⟨"DrownedRoomsModel", "layAside", "()V"⟩, prog_14_method_68_code, 2, none)
noncomputable def q_316 : MethodName × ByteArray × Nat × Option FieldType := (⟨"DrownedRoomsModel", "takeBack", "()V"⟩, prog_14_method_69_code, 2, none)
noncomputable def q_317 : MethodName × ByteArray × Nat × Option FieldType := (⟨"DrownedRoomsModel", "dry", "(II)I"⟩, prog_14_method_71_code, 5, some .int)
noncomputable def q_318 : MethodName × ByteArray × Nat × Option FieldType := (⟨"DrownedRoomsModel", "wets", "(I)I"⟩, prog_14_method_72_code, 3, some .int)
noncomputable def q_319 : MethodName × ByteArray × Nat × Option FieldType := (⟨"DrownedRoomsModel", "stays", "()I"⟩, prog_14_method_76_code, 3, some .int)
noncomputable def q_320 : MethodName × ByteArray × Nat × Option FieldType := (⟨"DrownedRoomsModel", "layLevels", "()V"⟩, prog_14_method_73_code, 2, none)
noncomputable def q_321 : MethodName × ByteArray × Nat × Option FieldType := (⟨"DrownedRoomsModel", "stayFrom", "(III)V"⟩, prog_14_method_75_code, 5, none)
noncomputable def q_322 : MethodName × ByteArray × Nat × Option FieldType := (⟨"DrownedRoomsModel", "isDryFor", "(II)Z"⟩, prog_14_method_74_code, 6, some .boolean)
noncomputable def q_323 : MethodName × ByteArray × Nat × Option FieldType := (⟨"DrownedRoomsModel", "stayAt", "(I)I"⟩, prog_14_method_77_code, 2, some .int)
noncomputable def q_324 : MethodName × ByteArray × Nat × Option FieldType := (⟨"DrownedRoomsModel", "plan", "(II)I"⟩, prog_14_method_79_code, 3, some .int)
noncomputable def q_325 : MethodName × ByteArray × Nat × Option FieldType := (⟨"DrownedRoomsModel", "planFrom", "(IIIII)V"⟩, prog_14_method_78_code, 8, none)
noncomputable def q_326 : MethodName × ByteArray × Nat × Option FieldType := (⟨"DrownedRoomsModel", "planAt", "(I)I"⟩, prog_14_method_80_code, 2, some .int)
noncomputable def q_327 : MethodName × ByteArray × Nat × Option FieldType := (⟨"DrownedRoomsModel", "round", "()I"⟩, prog_14_method_83_code, 3, some .int)
noncomputable def q_328 : MethodName × ByteArray × Nat × Option FieldType := (⟨"DrownedRoomsModel", "rowFrom", "(IIIII)V"⟩, prog_14_method_82_code, 7, none)
noncomputable def q_329 : MethodName × ByteArray × Nat × Option FieldType := (⟨"DrownedRoomsModel", "far", "(III)I"⟩, prog_14_method_81_code, 4, some .int)
noncomputable def q_330 : MethodName × ByteArray × Nat × Option FieldType := (⟨"DrownedRoomsModel", "size", "(I)I"⟩, prog_14_method_11_code, 1, some .int)
noncomputable def q_331 : MethodName × ByteArray × Nat × Option FieldType := (⟨"DrownedRoomsModel", "roundAt", "(I)I"⟩, prog_14_method_84_code, 2, some .int)
noncomputable def q_332 : MethodName × ByteArray × Nat × Option FieldType := (⟨"DrownedRoomsModel", "marks", "()I"⟩, prog_14_method_87_code, 4, some .int)
noncomputable def q_333 : MethodName × ByteArray × Nat × Option FieldType := (⟨"DrownedRoomsModel", "isMark", "(II)Z"⟩, prog_14_method_85_code, 4, some .boolean)
noncomputable def q_334 : MethodName × ByteArray × Nat × Option FieldType := (⟨"DrownedRoomsModel", "leftBy", "(II)I"⟩, prog_14_method_86_code, 5, some .int)
noncomputable def q_335 : MethodName × ByteArray × Nat × Option FieldType := (⟨"DrownedRoomsModel", "lowest", "()I"⟩, prog_14_method_88_code, 1, some .int)
noncomputable def q_336 : MethodName × ByteArray × Nat × Option FieldType := (⟨"DrownedRoomsModel", "highest", "()I"⟩, prog_14_method_89_code, 1, some .int)
noncomputable def q_337 : MethodName × ByteArray × Nat × Option FieldType := (⟨"DrownedRoomsModel", "bell", "()I"⟩, prog_14_method_90_code, 1, some .int)
noncomputable def q_338 : MethodName × ByteArray × Nat × Option FieldType := (⟨"DrownedRoomsModel", "visits", "(I)I"⟩, prog_14_method_91_code, 4, some .int)
noncomputable def q_339 : MethodName × ByteArray × Nat × Option FieldType := (⟨"DrownedRoomsModel", "quiet", "(I)I"⟩, prog_14_method_93_code, 5, some .int)
noncomputable def q_340 : MethodName × ByteArray × Nat × Option FieldType := (⟨"DrownedRoomsModel", "isLoud", "(II)Z"⟩, prog_14_method_92_code, 4, some .boolean)
noncomputable def q_341 : MethodName × ByteArray × Nat × Option FieldType := (⟨"DrownedRoomsModel", "quarrels", "()I"⟩, prog_14_method_94_code, 4, some .int)
noncomputable def q_342 : MethodName × ByteArray × Nat × Option FieldType := (⟨"DrownedRoomsModel", "brings", "(I)I"⟩, prog_14_method_95_code, 4, some .int)
noncomputable def q_343 : MethodName × ByteArray × Nat × Option FieldType := (⟨"DrownedRoomsModel", "bill", "(I)I"⟩, prog_14_method_100_code, 2, some .int)
noncomputable def q_344 : MethodName × ByteArray × Nat × Option FieldType := (⟨"DrownedRoomsModel", "writeWord", "(J)V"⟩, prog_14_method_97_code, 3, none)
noncomputable def q_345 : MethodName × ByteArray × Nat × Option FieldType := (⟨"DrownedRoomsModel", "write", "(I)V"⟩, prog_14_method_96_code, 2, none)
noncomputable def q_346 : MethodName × ByteArray × Nat × Option FieldType := (⟨"DrownedRoomsModel", "writeNext", "(J)V"⟩, prog_14_method_99_code, 3, none)
noncomputable def q_347 : MethodName × ByteArray × Nat × Option FieldType := (⟨"DrownedRoomsModel", "writeNumber", "(I)V"⟩, prog_14_method_98_code, 2, none)
noncomputable def q_348 : MethodName × ByteArray × Nat × Option FieldType := (⟨"DrownedRoomsModel", "byteAt", "(I)I"⟩, prog_14_method_101_code, 2, some .int)
noncomputable def q_349 : MethodName × ByteArray × Nat × Option FieldType := (⟨"DrownedRoomsModel", "drawn", "(II)I"⟩, prog_14_method_105_code, 3, some .int)
noncomputable def q_350 : MethodName × ByteArray × Nat × Option FieldType := (⟨"DrownedRoomsModel", "drawDays", "(II)I"⟩, prog_14_method_104_code, 6, some .int)
noncomputable def q_351 : MethodName × ByteArray × Nat × Option FieldType := (⟨"DrownedRoomsModel", "drawsFor", "(I)V"⟩, prog_14_method_103_code, 4, none)
noncomputable def q_352 : MethodName × ByteArray × Nat × Option FieldType := (⟨"DrownedRoomsModel", "draw", "(I)I"⟩, prog_14_method_102_code, 2, some .int)
noncomputable def q_353 : MethodName × ByteArray × Nat × Option FieldType := (⟨"DrownedRoomsModel", "odds", "(III)I"⟩, prog_14_method_106_code, 6, some .int)
noncomputable def q_354 : MethodName × ByteArray × Nat × Option FieldType := (⟨"DrownedRoomsModel", "book", "(I)I"⟩, prog_14_method_112_code, 4, some .int)
noncomputable def q_355 : MethodName × ByteArray × Nat × Option FieldType := (⟨"DrownedRoomsModel", "readBookLine", "()Z"⟩, prog_14_method_110_code, 4, some .boolean)
noncomputable def q_356 : MethodName × ByteArray × Nat × Option FieldType := (⟨"DrownedRoomsModel", "keep", "(IZ)Z"⟩, prog_14_method_107_code, 3, some .boolean)
noncomputable def q_357 : MethodName × ByteArray × Nat × Option FieldType := (⟨"DrownedRoomsModel", "readDoes", "(I)Z"⟩, prog_14_method_109_code, 2, some .boolean)
noncomputable def q_358 : MethodName × ByteArray × Nat × Option FieldType := (⟨"DrownedRoomsModel", "readNamed", "(II)Z"⟩, prog_14_method_108_code, 3, some .boolean)
noncomputable def q_359 : MethodName × ByteArray × Nat × Option FieldType := (⟨"DrownedRoomsModel", "goBy", "(I)I"⟩, prog_14_method_111_code, 4, some .int)
noncomputable def q_360 : MethodName × ByteArray × Nat × Option FieldType := (⟨"DrownedRoomsModel", "stay", "(Z)V"⟩, prog_14_method_113_code, 4, none)
noncomputable def q_361 : MethodName × ByteArray × Nat × Option FieldType := (⟨"DrownedRoomsModel", "told", "(I)I"⟩, prog_14_method_114_code, 2, some .int)
noncomputable def q_362 : MethodName × ByteArray × Nat × Option FieldType := (⟨"DrownedRoomsModel", "sentence", "()I"⟩, prog_14_method_123_code, 2, some .int)
noncomputable def q_363 : MethodName × ByteArray × Nat × Option FieldType := (⟨"DrownedRoomsModel", "readOr", "()Z"⟩, prog_14_method_116_code, 2, some .boolean)
noncomputable def q_364 : MethodName × ByteArray × Nat × Option FieldType := (⟨"DrownedRoomsModel", "readAnd", "()Z"⟩, prog_14_method_117_code, 2, some .boolean)
noncomputable def q_365 : MethodName × ByteArray × Nat × Option FieldType := (⟨"DrownedRoomsModel", "readSaid", "()Z"⟩, prog_14_method_118_code, 4, some .boolean)
noncomputable def q_366 : MethodName × ByteArray × Nat × Option FieldType := (⟨"DrownedRoomsModel", "readBracket", "()Z"⟩, prog_14_method_120_code, 1, some .boolean)
noncomputable def q_367 : MethodName × ByteArray × Nat × Option FieldType := (⟨"DrownedRoomsModel", "readNot", "()Z"⟩, prog_14_method_119_code, 1, some .boolean)
noncomputable def q_368 : MethodName × ByteArray × Nat × Option FieldType := (⟨"DrownedRoomsModel", "saysOne", "(IIII)I"⟩, prog_14_method_115_code, 6, some .int)
noncomputable def q_369 : MethodName × ByteArray × Nat × Option FieldType := (⟨"DrownedRoomsModel", "readOf", "(I)Z"⟩, prog_14_method_121_code, 2, some .boolean)
noncomputable def q_370 : MethodName × ByteArray × Nat × Option FieldType := (⟨"DrownedRoomsModel", "readCompare", "(I)Z"⟩, prog_14_method_122_code, 3, some .boolean)
noncomputable def q_371 : MethodName × ByteArray × Nat × Option FieldType := (⟨"DrownedRoomsModel", "said", "(I)I"⟩, prog_14_method_125_code, 4, some .int)
noncomputable def q_372 : MethodName × ByteArray × Nat × Option FieldType := (⟨"DrownedRoomsModel", "holds", "(II)Z"⟩, prog_14_method_124_code, 8, some .boolean)
noncomputable def q_373 : MethodName × ByteArray × Nat × Option FieldType := (⟨"DrownedRoomsModel", "image", "(I)Z"⟩, prog_14_method_126_code, 3, some .boolean)
noncomputable def q_374 : MethodName × ByteArray × Nat × Option FieldType := (⟨"DrownedRoomsModel", "restore", "(I)Z"⟩, prog_14_method_127_code, 3, some .boolean)
noncomputable def q_375 : MethodName × ByteArray × Nat × Option FieldType := (⟨"DrownedRoomsModel", "count", "(I)I"⟩, prog_14_method_128_code, 2, some .int)
noncomputable def qs_0 : List (MethodName × ByteArray × Nat × Option FieldType) := [q_0, q_1, q_2, q_3, q_4, q_5, q_6, q_7, q_8, q_9, q_10, q_11, q_12, q_13, q_14, q_15, q_16, q_17, q_18, q_19, q_20, q_21, q_22, q_23, q_24, q_25, q_26, q_27, q_28, q_29, q_30, q_31, q_32, q_33, q_34, q_35, q_36, q_37, q_38, q_39]
noncomputable def qs_1 : List (MethodName × ByteArray × Nat × Option FieldType) := [q_40, q_41, q_42, q_43, q_44, q_45, q_46, q_47, q_48, q_49, q_50, q_51, q_52, q_53, q_54, q_55, q_56, q_57, q_58, q_59, q_60, q_61, q_62, q_63, q_64, q_65, q_66, q_67, q_68, q_69, q_70, q_71, q_72, q_73, q_74, q_75, q_76, q_77, q_78, q_79]
noncomputable def qs_2 : List (MethodName × ByteArray × Nat × Option FieldType) := [q_80, q_81, q_82, q_83, q_84, q_85, q_86, q_87, q_88, q_89, q_90, q_91, q_92, q_93, q_94, q_95, q_96, q_97, q_98, q_99, q_100, q_101, q_102, q_103, q_104, q_105, q_106, q_107, q_108, q_109, q_110, q_111, q_112, q_113, q_114, q_115, q_116, q_117, q_118, q_119]
noncomputable def qs_3 : List (MethodName × ByteArray × Nat × Option FieldType) := [q_120, q_121, q_122, q_123, q_124, q_125, q_126, q_127, q_128, q_129, q_130, q_131, q_132, q_133, q_134, q_135, q_136, q_137, q_138, q_139, q_140, q_141, q_142, q_143, q_144, q_145, q_146, q_147, q_148, q_149, q_150, q_151, q_152, q_153, q_154, q_155, q_156, q_157, q_158, q_159]
noncomputable def qs_4 : List (MethodName × ByteArray × Nat × Option FieldType) := [q_160, q_161, q_162, q_163, q_164, q_165, q_166, q_167, q_168, q_169, q_170, q_171, q_172, q_173, q_174, q_175, q_176, q_177, q_178, q_179, q_180, q_181, q_182, q_183, q_184, q_185, q_186, q_187, q_188, q_189, q_190, q_191, q_192, q_193, q_194, q_195, q_196, q_197, q_198, q_199]
noncomputable def qs_5 : List (MethodName × ByteArray × Nat × Option FieldType) := [q_200, q_201, q_202, q_203, q_204, q_205, q_206, q_207, q_208, q_209, q_210, q_211, q_212, q_213, q_214, q_215, q_216, q_217, q_218, q_219, q_220, q_221, q_222, q_223, q_224, q_225, q_226, q_227, q_228, q_229, q_230, q_231, q_232, q_233, q_234, q_235, q_236, q_237, q_238, q_239]
noncomputable def qs_6 : List (MethodName × ByteArray × Nat × Option FieldType) := [q_240, q_241, q_242, q_243, q_244, q_245, q_246, q_247, q_248, q_249, q_250, q_251, q_252, q_253, q_254, q_255, q_256, q_257, q_258, q_259, q_260, q_261, q_262, q_263, q_264, q_265, q_266, q_267, q_268, q_269, q_270, q_271, q_272, q_273, q_274, q_275, q_276, q_277, q_278, q_279]
noncomputable def qs_7 : List (MethodName × ByteArray × Nat × Option FieldType) := [q_280, q_281, q_282, q_283, q_284, q_285, q_286, q_287, q_288, q_289, q_290, q_291, q_292, q_293, q_294, q_295, q_296, q_297, q_298, q_299, q_300, q_301, q_302, q_303, q_304, q_305, q_306, q_307, q_308, q_309, q_310, q_311, q_312, q_313, q_314, q_315, q_316, q_317, q_318, q_319]
noncomputable def qs_8 : List (MethodName × ByteArray × Nat × Option FieldType) := [q_320, q_321, q_322, q_323, q_324, q_325, q_326, q_327, q_328, q_329, q_330, q_331, q_332, q_333, q_334, q_335, q_336, q_337, q_338, q_339, q_340, q_341, q_342, q_343, q_344, q_345, q_346, q_347, q_348, q_349, q_350, q_351, q_352, q_353, q_354, q_355, q_356, q_357, q_358, q_359]
noncomputable def qs_9 : List (MethodName × ByteArray × Nat × Option FieldType) := [q_360, q_361, q_362, q_363, q_364, q_365, q_366, q_367, q_368, q_369, q_370, q_371, q_372, q_373, q_374, q_375]
noncomputable def qs : List (MethodName × ByteArray × Nat × Option FieldType) := qs_0 ++ (qs_1 ++ (qs_2 ++ (qs_3 ++ (qs_4 ++ (qs_5 ++ (qs_6 ++ (qs_7 ++ (qs_8 ++ (qs_9
)))))))))
set_option maxRecDepth 1000000 in
theorem mtab_lit : mtab = qs := rfl
theorem mq_of {n : Nat} {q : MethodName × ByteArray × Nat × Option FieldType} (h : qs[n]? = some q) : mq n = q := by unfold mq; rw [mtab_lit, h]
set_option maxRecDepth 1000000 in
theorem mq_0 : mq 0 = q_0 := mq_of rfl
set_option maxRecDepth 1000000 in
theorem mq_2 : mq 2 = q_2 := mq_of rfl
set_option maxRecDepth 1000000 in
theorem mq_3 : mq 3 = q_3 := mq_of rfl
set_option maxRecDepth 1000000 in
theorem mq_4 : mq 4 = q_4 := mq_of rfl
set_option maxRecDepth 1000000 in
theorem mq_5 : mq 5 = q_5 := mq_of rfl
set_option maxRecDepth 1000000 in
theorem mq_6 : mq 6 = q_6 := mq_of rfl
set_option maxRecDepth 1000000 in
theorem mq_7 : mq 7 = q_7 := mq_of rfl
set_option maxRecDepth 1000000 in
theorem mq_8 : mq 8 = q_8 := mq_of rfl
set_option maxRecDepth 1000000 in
theorem mq_9 : mq 9 = q_9 := mq_of rfl
set_option maxRecDepth 1000000 in
theorem mq_10 : mq 10 = q_10 := mq_of rfl
set_option maxRecDepth 1000000 in
theorem mq_11 : mq 11 = q_11 := mq_of rfl
set_option maxRecDepth 1000000 in
theorem mq_12 : mq 12 = q_12 := mq_of rfl
set_option maxRecDepth 1000000 in
theorem mq_13 : mq 13 = q_13 := mq_of rfl
set_option maxRecDepth 1000000 in
theorem mq_14 : mq 14 = q_14 := mq_of rfl
set_option maxRecDepth 1000000 in
theorem mq_15 : mq 15 = q_15 := mq_of rfl
set_option maxRecDepth 1000000 in
theorem mq_16 : mq 16 = q_16 := mq_of rfl
set_option maxRecDepth 1000000 in
theorem mq_19 : mq 19 = q_19 := mq_of rfl
set_option maxRecDepth 1000000 in
theorem mq_20 : mq 20 = q_20 := mq_of rfl
set_option maxRecDepth 1000000 in
theorem mq_21 : mq 21 = q_21 := mq_of rfl
set_option maxRecDepth 1000000 in
theorem mq_22 : mq 22 = q_22 := mq_of rfl
set_option maxRecDepth 1000000 in
theorem mq_23 : mq 23 = q_23 := mq_of rfl
set_option maxRecDepth 1000000 in
theorem mq_24 : mq 24 = q_24 := mq_of rfl
set_option maxRecDepth 1000000 in
theorem mq_25 : mq 25 = q_25 := mq_of rfl
set_option maxRecDepth 1000000 in
theorem mq_26 : mq 26 = q_26 := mq_of rfl
set_option maxRecDepth 1000000 in
theorem mq_27 : mq 27 = q_27 := mq_of rfl
set_option maxRecDepth 1000000 in
theorem mq_28 : mq 28 = q_28 := mq_of rfl
set_option maxRecDepth 1000000 in
theorem mq_29 : mq 29 = q_29 := mq_of rfl
set_option maxRecDepth 1000000 in
theorem mq_30 : mq 30 = q_30 := mq_of rfl
set_option maxRecDepth 1000000 in
theorem mq_31 : mq 31 = q_31 := mq_of rfl
set_option maxRecDepth 1000000 in
theorem mq_32 : mq 32 = q_32 := mq_of rfl
set_option maxRecDepth 1000000 in
theorem mq_33 : mq 33 = q_33 := mq_of rfl
set_option maxRecDepth 1000000 in
theorem mq_34 : mq 34 = q_34 := mq_of rfl
set_option maxRecDepth 1000000 in
theorem mq_35 : mq 35 = q_35 := mq_of rfl
set_option maxRecDepth 1000000 in
theorem mq_36 : mq 36 = q_36 := mq_of rfl
set_option maxRecDepth 1000000 in
theorem mq_37 : mq 37 = q_37 := mq_of rfl
set_option maxRecDepth 1000000 in
theorem mq_38 : mq 38 = q_38 := mq_of rfl
set_option maxRecDepth 1000000 in
theorem mq_39 : mq 39 = q_39 := mq_of rfl
set_option maxRecDepth 1000000 in
theorem mq_40 : mq 40 = q_40 := mq_of rfl
set_option maxRecDepth 1000000 in
theorem mq_45 : mq 45 = q_45 := mq_of rfl
set_option maxRecDepth 1000000 in
theorem mq_46 : mq 46 = q_46 := mq_of rfl
set_option maxRecDepth 1000000 in
theorem mq_47 : mq 47 = q_47 := mq_of rfl
set_option maxRecDepth 1000000 in
theorem mq_48 : mq 48 = q_48 := mq_of rfl
set_option maxRecDepth 1000000 in
theorem mq_49 : mq 49 = q_49 := mq_of rfl
set_option maxRecDepth 1000000 in
theorem mq_50 : mq 50 = q_50 := mq_of rfl
set_option maxRecDepth 1000000 in
theorem mq_51 : mq 51 = q_51 := mq_of rfl
set_option maxRecDepth 1000000 in
theorem mq_52 : mq 52 = q_52 := mq_of rfl
set_option maxRecDepth 1000000 in
theorem mq_53 : mq 53 = q_53 := mq_of rfl
set_option maxRecDepth 1000000 in
theorem mq_54 : mq 54 = q_54 := mq_of rfl
set_option maxRecDepth 1000000 in
theorem mq_55 : mq 55 = q_55 := mq_of rfl
set_option maxRecDepth 1000000 in
theorem mq_56 : mq 56 = q_56 := mq_of rfl
set_option maxRecDepth 1000000 in
theorem mq_57 : mq 57 = q_57 := mq_of rfl
set_option maxRecDepth 1000000 in
theorem mq_58 : mq 58 = q_58 := mq_of rfl
set_option maxRecDepth 1000000 in
theorem mq_59 : mq 59 = q_59 := mq_of rfl
set_option maxRecDepth 1000000 in
theorem mq_60 : mq 60 = q_60 := mq_of rfl
set_option maxRecDepth 1000000 in
theorem mq_61 : mq 61 = q_61 := mq_of rfl
set_option maxRecDepth 1000000 in
theorem mq_62 : mq 62 = q_62 := mq_of rfl
set_option maxRecDepth 1000000 in
theorem mq_63 : mq 63 = q_63 := mq_of rfl
set_option maxRecDepth 1000000 in
theorem mq_64 : mq 64 = q_64 := mq_of rfl
set_option maxRecDepth 1000000 in
theorem mq_65 : mq 65 = q_65 := mq_of rfl
set_option maxRecDepth 1000000 in
theorem mq_66 : mq 66 = q_66 := mq_of rfl
set_option maxRecDepth 1000000 in
theorem mq_67 : mq 67 = q_67 := mq_of rfl
set_option maxRecDepth 1000000 in
theorem mq_68 : mq 68 = q_68 := mq_of rfl
set_option maxRecDepth 1000000 in
theorem mq_69 : mq 69 = q_69 := mq_of rfl
set_option maxRecDepth 1000000 in
theorem mq_70 : mq 70 = q_70 := mq_of rfl
set_option maxRecDepth 1000000 in
theorem mq_71 : mq 71 = q_71 := mq_of rfl
set_option maxRecDepth 1000000 in
theorem mq_72 : mq 72 = q_72 := mq_of rfl
set_option maxRecDepth 1000000 in
theorem mq_73 : mq 73 = q_73 := mq_of rfl
set_option maxRecDepth 1000000 in
theorem mq_74 : mq 74 = q_74 := mq_of rfl
set_option maxRecDepth 1000000 in
theorem mq_75 : mq 75 = q_75 := mq_of rfl
set_option maxRecDepth 1000000 in
theorem mq_76 : mq 76 = q_76 := mq_of rfl
set_option maxRecDepth 1000000 in
theorem mq_77 : mq 77 = q_77 := mq_of rfl
set_option maxRecDepth 1000000 in
theorem mq_78 : mq 78 = q_78 := mq_of rfl
set_option maxRecDepth 1000000 in
theorem mq_79 : mq 79 = q_79 := mq_of rfl
set_option maxRecDepth 1000000 in
theorem mq_80 : mq 80 = q_80 := mq_of rfl
set_option maxRecDepth 1000000 in
theorem mq_81 : mq 81 = q_81 := mq_of rfl
set_option maxRecDepth 1000000 in
theorem mq_82 : mq 82 = q_82 := mq_of rfl
set_option maxRecDepth 1000000 in
theorem mq_83 : mq 83 = q_83 := mq_of rfl
set_option maxRecDepth 1000000 in
theorem mq_84 : mq 84 = q_84 := mq_of rfl
set_option maxRecDepth 1000000 in
theorem mq_85 : mq 85 = q_85 := mq_of rfl
set_option maxRecDepth 1000000 in
theorem mq_86 : mq 86 = q_86 := mq_of rfl
set_option maxRecDepth 1000000 in
theorem mq_87 : mq 87 = q_87 := mq_of rfl
set_option maxRecDepth 1000000 in
theorem mq_88 : mq 88 = q_88 := mq_of rfl
set_option maxRecDepth 1000000 in
theorem mq_89 : mq 89 = q_89 := mq_of rfl
set_option maxRecDepth 1000000 in
theorem mq_90 : mq 90 = q_90 := mq_of rfl
set_option maxRecDepth 1000000 in
theorem mq_91 : mq 91 = q_91 := mq_of rfl
set_option maxRecDepth 1000000 in
theorem mq_92 : mq 92 = q_92 := mq_of rfl
set_option maxRecDepth 1000000 in
theorem mq_93 : mq 93 = q_93 := mq_of rfl
set_option maxRecDepth 1000000 in
theorem mq_94 : mq 94 = q_94 := mq_of rfl
set_option maxRecDepth 1000000 in
theorem mq_96 : mq 96 = q_96 := mq_of rfl
set_option maxRecDepth 1000000 in
theorem mq_97 : mq 97 = q_97 := mq_of rfl
set_option maxRecDepth 1000000 in
theorem mq_99 : mq 99 = q_99 := mq_of rfl
set_option maxRecDepth 1000000 in
theorem mq_100 : mq 100 = q_100 := mq_of rfl
set_option maxRecDepth 1000000 in
theorem mq_101 : mq 101 = q_101 := mq_of rfl
set_option maxRecDepth 1000000 in
theorem mq_102 : mq 102 = q_102 := mq_of rfl
set_option maxRecDepth 1000000 in
theorem mq_103 : mq 103 = q_103 := mq_of rfl
set_option maxRecDepth 1000000 in
theorem mq_104 : mq 104 = q_104 := mq_of rfl
set_option maxRecDepth 1000000 in
theorem mq_105 : mq 105 = q_105 := mq_of rfl
set_option maxRecDepth 1000000 in
theorem mq_106 : mq 106 = q_106 := mq_of rfl
set_option maxRecDepth 1000000 in
theorem mq_107 : mq 107 = q_107 := mq_of rfl
set_option maxRecDepth 1000000 in
theorem mq_108 : mq 108 = q_108 := mq_of rfl
set_option maxRecDepth 1000000 in
theorem mq_109 : mq 109 = q_109 := mq_of rfl
set_option maxRecDepth 1000000 in
theorem mq_110 : mq 110 = q_110 := mq_of rfl
set_option maxRecDepth 1000000 in
theorem mq_111 : mq 111 = q_111 := mq_of rfl
set_option maxRecDepth 1000000 in
theorem mq_112 : mq 112 = q_112 := mq_of rfl
set_option maxRecDepth 1000000 in
theorem mq_113 : mq 113 = q_113 := mq_of rfl
set_option maxRecDepth 1000000 in
theorem mq_114 : mq 114 = q_114 := mq_of rfl
set_option maxRecDepth 1000000 in
theorem mq_115 : mq 115 = q_115 := mq_of rfl
set_option maxRecDepth 1000000 in
theorem mq_116 : mq 116 = q_116 := mq_of rfl
set_option maxRecDepth 1000000 in
theorem mq_117 : mq 117 = q_117 := mq_of rfl
set_option maxRecDepth 1000000 in
theorem mq_118 : mq 118 = q_118 := mq_of rfl
set_option maxRecDepth 1000000 in
theorem mq_119 : mq 119 = q_119 := mq_of rfl
set_option maxRecDepth 1000000 in
theorem mq_120 : mq 120 = q_120 := mq_of rfl
set_option maxRecDepth 1000000 in
theorem mq_121 : mq 121 = q_121 := mq_of rfl
set_option maxRecDepth 1000000 in
theorem mq_122 : mq 122 = q_122 := mq_of rfl
set_option maxRecDepth 1000000 in
theorem mq_123 : mq 123 = q_123 := mq_of rfl
set_option maxRecDepth 1000000 in
theorem mq_124 : mq 124 = q_124 := mq_of rfl
set_option maxRecDepth 1000000 in
theorem mq_125 : mq 125 = q_125 := mq_of rfl
set_option maxRecDepth 1000000 in
theorem mq_126 : mq 126 = q_126 := mq_of rfl
set_option maxRecDepth 1000000 in
theorem mq_127 : mq 127 = q_127 := mq_of rfl
set_option maxRecDepth 1000000 in
theorem mq_128 : mq 128 = q_128 := mq_of rfl
set_option maxRecDepth 1000000 in
theorem mq_129 : mq 129 = q_129 := mq_of rfl
set_option maxRecDepth 1000000 in
theorem mq_130 : mq 130 = q_130 := mq_of rfl
set_option maxRecDepth 1000000 in
theorem mq_131 : mq 131 = q_131 := mq_of rfl
set_option maxRecDepth 1000000 in
theorem mq_132 : mq 132 = q_132 := mq_of rfl
set_option maxRecDepth 1000000 in
theorem mq_133 : mq 133 = q_133 := mq_of rfl
set_option maxRecDepth 1000000 in
theorem mq_134 : mq 134 = q_134 := mq_of rfl
set_option maxRecDepth 1000000 in
theorem mq_135 : mq 135 = q_135 := mq_of rfl
set_option maxRecDepth 1000000 in
theorem mq_136 : mq 136 = q_136 := mq_of rfl
set_option maxRecDepth 1000000 in
theorem mq_137 : mq 137 = q_137 := mq_of rfl
set_option maxRecDepth 1000000 in
theorem mq_138 : mq 138 = q_138 := mq_of rfl
set_option maxRecDepth 1000000 in
theorem mq_140 : mq 140 = q_140 := mq_of rfl
set_option maxRecDepth 1000000 in
theorem mq_141 : mq 141 = q_141 := mq_of rfl
set_option maxRecDepth 1000000 in
theorem mq_142 : mq 142 = q_142 := mq_of rfl
set_option maxRecDepth 1000000 in
theorem mq_143 : mq 143 = q_143 := mq_of rfl
set_option maxRecDepth 1000000 in
theorem mq_144 : mq 144 = q_144 := mq_of rfl
set_option maxRecDepth 1000000 in
theorem mq_145 : mq 145 = q_145 := mq_of rfl
set_option maxRecDepth 1000000 in
theorem mq_146 : mq 146 = q_146 := mq_of rfl
set_option maxRecDepth 1000000 in
theorem mq_147 : mq 147 = q_147 := mq_of rfl
set_option maxRecDepth 1000000 in
theorem mq_148 : mq 148 = q_148 := mq_of rfl
set_option maxRecDepth 1000000 in
theorem mq_149 : mq 149 = q_149 := mq_of rfl
set_option maxRecDepth 1000000 in
theorem mq_150 : mq 150 = q_150 := mq_of rfl
set_option maxRecDepth 1000000 in
theorem mq_151 : mq 151 = q_151 := mq_of rfl
set_option maxRecDepth 1000000 in
theorem mq_152 : mq 152 = q_152 := mq_of rfl
set_option maxRecDepth 1000000 in
theorem mq_153 : mq 153 = q_153 := mq_of rfl
set_option maxRecDepth 1000000 in
theorem mq_154 : mq 154 = q_154 := mq_of rfl
set_option maxRecDepth 1000000 in
theorem mq_155 : mq 155 = q_155 := mq_of rfl
set_option maxRecDepth 1000000 in
theorem mq_156 : mq 156 = q_156 := mq_of rfl
set_option maxRecDepth 1000000 in
theorem mq_157 : mq 157 = q_157 := mq_of rfl
set_option maxRecDepth 1000000 in
theorem mq_158 : mq 158 = q_158 := mq_of rfl
set_option maxRecDepth 1000000 in
theorem mq_159 : mq 159 = q_159 := mq_of rfl
set_option maxRecDepth 1000000 in
theorem mq_160 : mq 160 = q_160 := mq_of rfl
set_option maxRecDepth 1000000 in
theorem mq_161 : mq 161 = q_161 := mq_of rfl
set_option maxRecDepth 1000000 in
theorem mq_162 : mq 162 = q_162 := mq_of rfl
set_option maxRecDepth 1000000 in
theorem mq_163 : mq 163 = q_163 := mq_of rfl
set_option maxRecDepth 1000000 in
theorem mq_165 : mq 165 = q_165 := mq_of rfl
set_option maxRecDepth 1000000 in
theorem mq_166 : mq 166 = q_166 := mq_of rfl
set_option maxRecDepth 1000000 in
theorem mq_171 : mq 171 = q_171 := mq_of rfl
set_option maxRecDepth 1000000 in
theorem mq_172 : mq 172 = q_172 := mq_of rfl
set_option maxRecDepth 1000000 in
theorem mq_173 : mq 173 = q_173 := mq_of rfl
set_option maxRecDepth 1000000 in
theorem mq_174 : mq 174 = q_174 := mq_of rfl
set_option maxRecDepth 1000000 in
theorem mq_183 : mq 183 = q_183 := mq_of rfl
set_option maxRecDepth 1000000 in
theorem mq_184 : mq 184 = q_184 := mq_of rfl
set_option maxRecDepth 1000000 in
theorem mq_190 : mq 190 = q_190 := mq_of rfl
set_option maxRecDepth 1000000 in
theorem mq_191 : mq 191 = q_191 := mq_of rfl
set_option maxRecDepth 1000000 in
theorem mq_192 : mq 192 = q_192 := mq_of rfl
set_option maxRecDepth 1000000 in
theorem mq_193 : mq 193 = q_193 := mq_of rfl
set_option maxRecDepth 1000000 in
theorem mq_194 : mq 194 = q_194 := mq_of rfl
set_option maxRecDepth 1000000 in
theorem mq_195 : mq 195 = q_195 := mq_of rfl
set_option maxRecDepth 1000000 in
theorem mq_196 : mq 196 = q_196 := mq_of rfl
set_option maxRecDepth 1000000 in
theorem mq_199 : mq 199 = q_199 := mq_of rfl
set_option maxRecDepth 1000000 in
theorem mq_200 : mq 200 = q_200 := mq_of rfl
set_option maxRecDepth 1000000 in
theorem mq_201 : mq 201 = q_201 := mq_of rfl
set_option maxRecDepth 1000000 in
theorem mq_202 : mq 202 = q_202 := mq_of rfl
set_option maxRecDepth 1000000 in
theorem mq_203 : mq 203 = q_203 := mq_of rfl
set_option maxRecDepth 1000000 in
theorem mq_204 : mq 204 = q_204 := mq_of rfl
set_option maxRecDepth 1000000 in
theorem mq_205 : mq 205 = q_205 := mq_of rfl
set_option maxRecDepth 1000000 in
theorem mq_206 : mq 206 = q_206 := mq_of rfl
set_option maxRecDepth 1000000 in
theorem mq_207 : mq 207 = q_207 := mq_of rfl
set_option maxRecDepth 1000000 in
theorem mq_208 : mq 208 = q_208 := mq_of rfl
set_option maxRecDepth 1000000 in
theorem mq_209 : mq 209 = q_209 := mq_of rfl
set_option maxRecDepth 1000000 in
theorem mq_210 : mq 210 = q_210 := mq_of rfl
set_option maxRecDepth 1000000 in
theorem mq_211 : mq 211 = q_211 := mq_of rfl
set_option maxRecDepth 1000000 in
theorem mq_212 : mq 212 = q_212 := mq_of rfl
set_option maxRecDepth 1000000 in
theorem mq_213 : mq 213 = q_213 := mq_of rfl
set_option maxRecDepth 1000000 in
theorem mq_214 : mq 214 = q_214 := mq_of rfl
set_option maxRecDepth 1000000 in
theorem mq_215 : mq 215 = q_215 := mq_of rfl
set_option maxRecDepth 1000000 in
theorem mq_216 : mq 216 = q_216 := mq_of rfl
set_option maxRecDepth 1000000 in
theorem mq_217 : mq 217 = q_217 := mq_of rfl
set_option maxRecDepth 1000000 in
theorem mq_218 : mq 218 = q_218 := mq_of rfl
set_option maxRecDepth 1000000 in
theorem mq_219 : mq 219 = q_219 := mq_of rfl
set_option maxRecDepth 1000000 in
theorem mq_220 : mq 220 = q_220 := mq_of rfl
set_option maxRecDepth 1000000 in
theorem mq_221 : mq 221 = q_221 := mq_of rfl
set_option maxRecDepth 1000000 in
theorem mq_222 : mq 222 = q_222 := mq_of rfl
set_option maxRecDepth 1000000 in
theorem mq_223 : mq 223 = q_223 := mq_of rfl
set_option maxRecDepth 1000000 in
theorem mq_224 : mq 224 = q_224 := mq_of rfl
set_option maxRecDepth 1000000 in
theorem mq_225 : mq 225 = q_225 := mq_of rfl
set_option maxRecDepth 1000000 in
theorem mq_226 : mq 226 = q_226 := mq_of rfl
set_option maxRecDepth 1000000 in
theorem mq_227 : mq 227 = q_227 := mq_of rfl
set_option maxRecDepth 1000000 in
theorem mq_228 : mq 228 = q_228 := mq_of rfl
set_option maxRecDepth 1000000 in
theorem mq_229 : mq 229 = q_229 := mq_of rfl
set_option maxRecDepth 1000000 in
theorem mq_230 : mq 230 = q_230 := mq_of rfl
set_option maxRecDepth 1000000 in
theorem mq_231 : mq 231 = q_231 := mq_of rfl
set_option maxRecDepth 1000000 in
theorem mq_232 : mq 232 = q_232 := mq_of rfl
set_option maxRecDepth 1000000 in
theorem mq_233 : mq 233 = q_233 := mq_of rfl
set_option maxRecDepth 1000000 in
theorem mq_234 : mq 234 = q_234 := mq_of rfl
set_option maxRecDepth 1000000 in
theorem mq_235 : mq 235 = q_235 := mq_of rfl
set_option maxRecDepth 1000000 in
theorem mq_236 : mq 236 = q_236 := mq_of rfl
set_option maxRecDepth 1000000 in
theorem mq_237 : mq 237 = q_237 := mq_of rfl
set_option maxRecDepth 1000000 in
theorem mq_238 : mq 238 = q_238 := mq_of rfl
set_option maxRecDepth 1000000 in
theorem mq_239 : mq 239 = q_239 := mq_of rfl
set_option maxRecDepth 1000000 in
theorem mq_240 : mq 240 = q_240 := mq_of rfl
set_option maxRecDepth 1000000 in
theorem mq_241 : mq 241 = q_241 := mq_of rfl
set_option maxRecDepth 1000000 in
theorem mq_242 : mq 242 = q_242 := mq_of rfl
set_option maxRecDepth 1000000 in
theorem mq_243 : mq 243 = q_243 := mq_of rfl
set_option maxRecDepth 1000000 in
theorem mq_244 : mq 244 = q_244 := mq_of rfl
set_option maxRecDepth 1000000 in
theorem mq_250 : mq 250 = q_250 := mq_of rfl
set_option maxRecDepth 1000000 in
theorem mq_251 : mq 251 = q_251 := mq_of rfl
set_option maxRecDepth 1000000 in
theorem mq_252 : mq 252 = q_252 := mq_of rfl
set_option maxRecDepth 1000000 in
theorem mq_253 : mq 253 = q_253 := mq_of rfl
set_option maxRecDepth 1000000 in
theorem mq_254 : mq 254 = q_254 := mq_of rfl
set_option maxRecDepth 1000000 in
theorem mq_255 : mq 255 = q_255 := mq_of rfl
set_option maxRecDepth 1000000 in
theorem mq_256 : mq 256 = q_256 := mq_of rfl
set_option maxRecDepth 1000000 in
theorem mq_257 : mq 257 = q_257 := mq_of rfl
set_option maxRecDepth 1000000 in
theorem mq_258 : mq 258 = q_258 := mq_of rfl
set_option maxRecDepth 1000000 in
theorem mq_259 : mq 259 = q_259 := mq_of rfl
set_option maxRecDepth 1000000 in
theorem mq_260 : mq 260 = q_260 := mq_of rfl
set_option maxRecDepth 1000000 in
theorem mq_261 : mq 261 = q_261 := mq_of rfl
set_option maxRecDepth 1000000 in
theorem mq_262 : mq 262 = q_262 := mq_of rfl
set_option maxRecDepth 1000000 in
theorem mq_263 : mq 263 = q_263 := mq_of rfl
set_option maxRecDepth 1000000 in
theorem mq_264 : mq 264 = q_264 := mq_of rfl
set_option maxRecDepth 1000000 in
theorem mq_265 : mq 265 = q_265 := mq_of rfl
set_option maxRecDepth 1000000 in
theorem mq_266 : mq 266 = q_266 := mq_of rfl
set_option maxRecDepth 1000000 in
theorem mq_267 : mq 267 = q_267 := mq_of rfl
set_option maxRecDepth 1000000 in
theorem mq_268 : mq 268 = q_268 := mq_of rfl
set_option maxRecDepth 1000000 in
theorem mq_269 : mq 269 = q_269 := mq_of rfl
set_option maxRecDepth 1000000 in
theorem mq_270 : mq 270 = q_270 := mq_of rfl
set_option maxRecDepth 1000000 in
theorem mq_271 : mq 271 = q_271 := mq_of rfl
set_option maxRecDepth 1000000 in
theorem mq_272 : mq 272 = q_272 := mq_of rfl
set_option maxRecDepth 1000000 in
theorem mq_273 : mq 273 = q_273 := mq_of rfl
set_option maxRecDepth 1000000 in
theorem mq_274 : mq 274 = q_274 := mq_of rfl
set_option maxRecDepth 1000000 in
theorem mq_275 : mq 275 = q_275 := mq_of rfl
set_option maxRecDepth 1000000 in
theorem mq_276 : mq 276 = q_276 := mq_of rfl
set_option maxRecDepth 1000000 in
theorem mq_277 : mq 277 = q_277 := mq_of rfl
set_option maxRecDepth 1000000 in
theorem mq_278 : mq 278 = q_278 := mq_of rfl
set_option maxRecDepth 1000000 in
theorem mq_279 : mq 279 = q_279 := mq_of rfl
set_option maxRecDepth 1000000 in
theorem mq_280 : mq 280 = q_280 := mq_of rfl
set_option maxRecDepth 1000000 in
theorem mq_281 : mq 281 = q_281 := mq_of rfl
set_option maxRecDepth 1000000 in
theorem mq_282 : mq 282 = q_282 := mq_of rfl
set_option maxRecDepth 1000000 in
theorem mq_283 : mq 283 = q_283 := mq_of rfl
set_option maxRecDepth 1000000 in
theorem mq_284 : mq 284 = q_284 := mq_of rfl
set_option maxRecDepth 1000000 in
theorem mq_285 : mq 285 = q_285 := mq_of rfl
set_option maxRecDepth 1000000 in
theorem mq_286 : mq 286 = q_286 := mq_of rfl
set_option maxRecDepth 1000000 in
theorem mq_287 : mq 287 = q_287 := mq_of rfl
set_option maxRecDepth 1000000 in
theorem mq_288 : mq 288 = q_288 := mq_of rfl
set_option maxRecDepth 1000000 in
theorem mq_289 : mq 289 = q_289 := mq_of rfl
set_option maxRecDepth 1000000 in
theorem mq_290 : mq 290 = q_290 := mq_of rfl
set_option maxRecDepth 1000000 in
theorem mq_291 : mq 291 = q_291 := mq_of rfl
set_option maxRecDepth 1000000 in
theorem mq_292 : mq 292 = q_292 := mq_of rfl
set_option maxRecDepth 1000000 in
theorem mq_293 : mq 293 = q_293 := mq_of rfl
set_option maxRecDepth 1000000 in
theorem mq_294 : mq 294 = q_294 := mq_of rfl
set_option maxRecDepth 1000000 in
theorem mq_295 : mq 295 = q_295 := mq_of rfl
set_option maxRecDepth 1000000 in
theorem mq_296 : mq 296 = q_296 := mq_of rfl
set_option maxRecDepth 1000000 in
theorem mq_297 : mq 297 = q_297 := mq_of rfl
set_option maxRecDepth 1000000 in
theorem mq_298 : mq 298 = q_298 := mq_of rfl
set_option maxRecDepth 1000000 in
theorem mq_299 : mq 299 = q_299 := mq_of rfl
set_option maxRecDepth 1000000 in
theorem mq_300 : mq 300 = q_300 := mq_of rfl
set_option maxRecDepth 1000000 in
theorem mq_301 : mq 301 = q_301 := mq_of rfl
set_option maxRecDepth 1000000 in
theorem mq_302 : mq 302 = q_302 := mq_of rfl
set_option maxRecDepth 1000000 in
theorem mq_303 : mq 303 = q_303 := mq_of rfl
set_option maxRecDepth 1000000 in
theorem mq_304 : mq 304 = q_304 := mq_of rfl
set_option maxRecDepth 1000000 in
theorem mq_305 : mq 305 = q_305 := mq_of rfl
set_option maxRecDepth 1000000 in
theorem mq_306 : mq 306 = q_306 := mq_of rfl
set_option maxRecDepth 1000000 in
theorem mq_307 : mq 307 = q_307 := mq_of rfl
set_option maxRecDepth 1000000 in
theorem mq_308 : mq 308 = q_308 := mq_of rfl
set_option maxRecDepth 1000000 in
theorem mq_309 : mq 309 = q_309 := mq_of rfl
set_option maxRecDepth 1000000 in
theorem mq_310 : mq 310 = q_310 := mq_of rfl
set_option maxRecDepth 1000000 in
theorem mq_311 : mq 311 = q_311 := mq_of rfl
set_option maxRecDepth 1000000 in
theorem mq_312 : mq 312 = q_312 := mq_of rfl
set_option maxRecDepth 1000000 in
theorem mq_313 : mq 313 = q_313 := mq_of rfl
set_option maxRecDepth 1000000 in
theorem mq_314 : mq 314 = q_314 := mq_of rfl
set_option maxRecDepth 1000000 in
theorem mq_315 : mq 315 = q_315 := mq_of rfl
set_option maxRecDepth 1000000 in
theorem mq_316 : mq 316 = q_316 := mq_of rfl
set_option maxRecDepth 1000000 in
theorem mq_317 : mq 317 = q_317 := mq_of rfl
set_option maxRecDepth 1000000 in
theorem mq_318 : mq 318 = q_318 := mq_of rfl
set_option maxRecDepth 1000000 in
theorem mq_319 : mq 319 = q_319 := mq_of rfl
set_option maxRecDepth 1000000 in
theorem mq_320 : mq 320 = q_320 := mq_of rfl
set_option maxRecDepth 1000000 in
theorem mq_321 : mq 321 = q_321 := mq_of rfl
set_option maxRecDepth 1000000 in
theorem mq_322 : mq 322 = q_322 := mq_of rfl
set_option maxRecDepth 1000000 in
theorem mq_323 : mq 323 = q_323 := mq_of rfl
set_option maxRecDepth 1000000 in
theorem mq_324 : mq 324 = q_324 := mq_of rfl
set_option maxRecDepth 1000000 in
theorem mq_325 : mq 325 = q_325 := mq_of rfl
set_option maxRecDepth 1000000 in
theorem mq_326 : mq 326 = q_326 := mq_of rfl
set_option maxRecDepth 1000000 in
theorem mq_327 : mq 327 = q_327 := mq_of rfl
set_option maxRecDepth 1000000 in
theorem mq_328 : mq 328 = q_328 := mq_of rfl
set_option maxRecDepth 1000000 in
theorem mq_329 : mq 329 = q_329 := mq_of rfl
set_option maxRecDepth 1000000 in
theorem mq_330 : mq 330 = q_330 := mq_of rfl
set_option maxRecDepth 1000000 in
theorem mq_331 : mq 331 = q_331 := mq_of rfl
set_option maxRecDepth 1000000 in
theorem mq_332 : mq 332 = q_332 := mq_of rfl
set_option maxRecDepth 1000000 in
theorem mq_333 : mq 333 = q_333 := mq_of rfl
set_option maxRecDepth 1000000 in
theorem mq_334 : mq 334 = q_334 := mq_of rfl
set_option maxRecDepth 1000000 in
theorem mq_335 : mq 335 = q_335 := mq_of rfl
set_option maxRecDepth 1000000 in
theorem mq_336 : mq 336 = q_336 := mq_of rfl
set_option maxRecDepth 1000000 in
theorem mq_337 : mq 337 = q_337 := mq_of rfl
set_option maxRecDepth 1000000 in
theorem mq_338 : mq 338 = q_338 := mq_of rfl
set_option maxRecDepth 1000000 in
theorem mq_339 : mq 339 = q_339 := mq_of rfl
set_option maxRecDepth 1000000 in
theorem mq_340 : mq 340 = q_340 := mq_of rfl
set_option maxRecDepth 1000000 in
theorem mq_341 : mq 341 = q_341 := mq_of rfl
set_option maxRecDepth 1000000 in
theorem mq_342 : mq 342 = q_342 := mq_of rfl
set_option maxRecDepth 1000000 in
theorem mq_343 : mq 343 = q_343 := mq_of rfl
set_option maxRecDepth 1000000 in
theorem mq_344 : mq 344 = q_344 := mq_of rfl
set_option maxRecDepth 1000000 in
theorem mq_345 : mq 345 = q_345 := mq_of rfl
set_option maxRecDepth 1000000 in
theorem mq_346 : mq 346 = q_346 := mq_of rfl
set_option maxRecDepth 1000000 in
theorem mq_347 : mq 347 = q_347 := mq_of rfl
set_option maxRecDepth 1000000 in
theorem mq_348 : mq 348 = q_348 := mq_of rfl
set_option maxRecDepth 1000000 in
theorem mq_349 : mq 349 = q_349 := mq_of rfl
set_option maxRecDepth 1000000 in
theorem mq_350 : mq 350 = q_350 := mq_of rfl
set_option maxRecDepth 1000000 in
theorem mq_351 : mq 351 = q_351 := mq_of rfl
set_option maxRecDepth 1000000 in
theorem mq_352 : mq 352 = q_352 := mq_of rfl
set_option maxRecDepth 1000000 in
theorem mq_353 : mq 353 = q_353 := mq_of rfl
set_option maxRecDepth 1000000 in
theorem mq_354 : mq 354 = q_354 := mq_of rfl
set_option maxRecDepth 1000000 in
theorem mq_355 : mq 355 = q_355 := mq_of rfl
set_option maxRecDepth 1000000 in
theorem mq_356 : mq 356 = q_356 := mq_of rfl
set_option maxRecDepth 1000000 in
theorem mq_357 : mq 357 = q_357 := mq_of rfl
set_option maxRecDepth 1000000 in
theorem mq_358 : mq 358 = q_358 := mq_of rfl
set_option maxRecDepth 1000000 in
theorem mq_359 : mq 359 = q_359 := mq_of rfl
set_option maxRecDepth 1000000 in
theorem mq_360 : mq 360 = q_360 := mq_of rfl
set_option maxRecDepth 1000000 in
theorem mq_361 : mq 361 = q_361 := mq_of rfl
set_option maxRecDepth 1000000 in
theorem mq_362 : mq 362 = q_362 := mq_of rfl
set_option maxRecDepth 1000000 in
theorem mq_363 : mq 363 = q_363 := mq_of rfl
set_option maxRecDepth 1000000 in
theorem mq_364 : mq 364 = q_364 := mq_of rfl
set_option maxRecDepth 1000000 in
theorem mq_365 : mq 365 = q_365 := mq_of rfl
set_option maxRecDepth 1000000 in
theorem mq_366 : mq 366 = q_366 := mq_of rfl
set_option maxRecDepth 1000000 in
theorem mq_367 : mq 367 = q_367 := mq_of rfl
set_option maxRecDepth 1000000 in
theorem mq_368 : mq 368 = q_368 := mq_of rfl
set_option maxRecDepth 1000000 in
theorem mq_369 : mq 369 = q_369 := mq_of rfl
set_option maxRecDepth 1000000 in
theorem mq_370 : mq 370 = q_370 := mq_of rfl
set_option maxRecDepth 1000000 in
theorem mq_371 : mq 371 = q_371 := mq_of rfl
set_option maxRecDepth 1000000 in
theorem mq_372 : mq 372 = q_372 := mq_of rfl
set_option maxRecDepth 1000000 in
theorem mq_373 : mq 373 = q_373 := mq_of rfl
set_option maxRecDepth 1000000 in
theorem mq_374 : mq 374 = q_374 := mq_of rfl
set_option maxRecDepth 1000000 in
theorem mq_375 : mq 375 = q_375 := mq_of rfl
