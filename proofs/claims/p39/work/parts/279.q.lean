def q_19 : MethodName × ByteArray × Nat × Option FieldType := (⟨"DrownedRooms", "feed", "(IIIII)I"⟩, prog_1_method_2_code, 6, some .int)
theorem mq_19 : mq 19 = q_19 := rfl
def q_20 : MethodName × ByteArray × Nat × Option FieldType := (⟨"DrownedRooms$Tape", "hasRoomForFeed", "()Z"⟩, prog_11_method_2_code, 1, some .boolean)
theorem mq_20 : mq 20 = q_20 := rfl
def q_21 : MethodName × ByteArray × Nat × Option FieldType := (⟨"DrownedRooms$Tape", "add", "(I)V"⟩, prog_11_method_3_code, 3, none)
theorem mq_21 : mq 21 = q_21 := rfl
def q_22 : MethodName × ByteArray × Nat × Option FieldType := (⟨"DrownedRooms$Tape", "size", "()I"⟩, prog_11_method_4_code, 1, some .int)
theorem mq_22 : mq 22 = q_22 := rfl
def q_23 : MethodName × ByteArray × Nat × Option FieldType := (⟨"DrownedRooms", "end", "(I)Z"⟩, prog_1_method_3_code, 2, some .boolean)
theorem mq_23 : mq 23 = q_23 := rfl
def q_24 : MethodName × ByteArray × Nat × Option FieldType := (⟨"DrownedRooms$Tape", "cutTo", "(I)Z"⟩, prog_11_method_5_code, 2, some .boolean)
theorem mq_24 : mq 24 = q_24 := rfl
def q_53 : MethodName × ByteArray × Nat × Option FieldType := (⟨"DrownedRooms", "isWithin", "(III)Z"⟩, prog_1_method_46_code, 3, some .boolean)
theorem mq_53 : mq 53 = q_53 := rfl
def q_82 : MethodName × ByteArray × Nat × Option FieldType := (⟨"DrownedRooms", "now", "(I)I"⟩, prog_1_method_8_code, 2, some .int)
theorem mq_82 : mq 82 = q_82 := rfl
def q_83 : MethodName × ByteArray × Nat × Option FieldType := (⟨"DrownedRooms$Lake", "wetRooms", "()I"⟩, prog_6_method_6_code, 1, some .int)
theorem mq_83 : mq 83 = q_83 := rfl
def q_84 : MethodName × ByteArray × Nat × Option FieldType := (⟨"DrownedRooms$Valley", "allRooms", "()I"⟩, prog_12_method_7_code, 1, some .int)
theorem mq_84 : mq 84 = q_84 := rfl
def q_85 : MethodName × ByteArray × Nat × Option FieldType := (⟨"DrownedRooms$Valley", "dryRoomsAt", "(I)I"⟩, prog_12_method_6_code, 4, some .int)
theorem mq_85 : mq 85 = q_85 := rfl
def q_86 : MethodName × ByteArray × Nat × Option FieldType := (⟨"DrownedRooms$Lake", "letRooms", "()I"⟩, prog_6_method_7_code, 3, some .int)
theorem mq_86 : mq 86 = q_86 := rfl
def q_87 : MethodName × ByteArray × Nat × Option FieldType := (⟨"DrownedRooms$Lake", "roomBitOf", "(I)I"⟩, prog_6_method_9_code, 2, some .int)
theorem mq_87 : mq 87 = q_87 := rfl
def q_88 : MethodName × ByteArray × Nat × Option FieldType := (⟨"DrownedRooms$Lake", "broughtInAll", "()I"⟩, prog_6_method_11_code, 3, some .int)
theorem mq_88 : mq 88 = q_88 := rfl
def q_89 : MethodName × ByteArray × Nat × Option FieldType := (⟨"DrownedRooms", "take", "(III)I"⟩, prog_1_method_9_code, 5, some .int)
theorem mq_89 : mq 89 = q_89 := rfl
def q_90 : MethodName × ByteArray × Nat × Option FieldType := (⟨"DrownedRooms", "isGuest", "(I)Z"⟩, prog_1_method_43_code, 2, some .boolean)
theorem mq_90 : mq 90 = q_90 := rfl
def q_91 : MethodName × ByteArray × Nat × Option FieldType := (⟨"DrownedRooms", "isRoom", "(I)Z"⟩, prog_1_method_42_code, 2, some .boolean)
theorem mq_91 : mq 91 = q_91 := rfl
def q_92 : MethodName × ByteArray × Nat × Option FieldType := (⟨"DrownedRooms$Lake", "whyNotTake", "(II)I"⟩, prog_6_method_12_code, 3, some .int)
theorem mq_92 : mq 92 = q_92 := rfl
def q_93 : MethodName × ByteArray × Nat × Option FieldType := (⟨"DrownedRooms$Lake", "whoHas", "(I)I"⟩, prog_6_method_10_code, 3, some .int)
theorem mq_93 : mq 93 = q_93 := rfl
def q_94 : MethodName × ByteArray × Nat × Option FieldType := (⟨"DrownedRooms$Lake", "depthIn", "(I)I"⟩, prog_6_method_5_code, 2, some .int)
theorem mq_94 : mq 94 = q_94 := rfl
def q_96 : MethodName × ByteArray × Nat × Option FieldType := (⟨"DrownedRooms$History", "keep", "(LDrownedRooms$Lake;)V"⟩, prog_4_method_2_code, 2, none)
theorem mq_96 : mq 96 = q_96 := rfl
def q_97 : MethodName × ByteArray × Nat × Option FieldType := (⟨"DrownedRooms$Lake", "copyFrom", "(LDrownedRooms$Lake;)V"⟩, prog_6_method_3_code, 2, none)
theorem mq_97 : mq 97 = q_97 := rfl
def q_99 : MethodName × ByteArray × Nat × Option FieldType := (⟨"DrownedRooms$Lake", "moveIn", "(III)V"⟩, prog_6_method_15_code, 4, none)
theorem mq_99 : mq 99 = q_99 := rfl
def q_251 : MethodName × ByteArray × Nat × Option FieldType := (⟨"DrownedRoomsModel", "feed", "(IIIII)I"⟩, prog_14_method_4_code, 6, some .int)
theorem mq_251 : mq 251 = q_251 := rfl
def q_252 : MethodName × ByteArray × Nat × Option FieldType := (⟨"DrownedRoomsModel", "come", "(I)V"⟩, prog_14_method_3_code, 3, none)
theorem mq_252 : mq 252 = q_252 := rfl
def q_259 : MethodName × ByteArray × Nat × Option FieldType := (⟨"DrownedRoomsModel", "take", "()I"⟩, prog_14_method_6_code, 2, some .int)
theorem mq_259 : mq 259 = q_259 := rfl
def q_271 : MethodName × ByteArray × Nat × Option FieldType := (⟨"DrownedRoomsModel", "isIn", "(III)Z"⟩, prog_14_method_7_code, 3, some .boolean)
theorem mq_271 : mq 271 = q_271 := rfl
def q_289 : MethodName × ByteArray × Nat × Option FieldType := (⟨"DrownedRoomsModel", "isRoom", "(I)Z"⟩, prog_14_method_44_code, 2, some .boolean)
theorem mq_289 : mq 289 = q_289 := rfl
def q_291 : MethodName × ByteArray × Nat × Option FieldType := (⟨"DrownedRoomsModel", "depthOf", "(I)I"⟩, prog_14_method_46_code, 2, some .int)
theorem mq_291 : mq 291 = q_291 := rfl
def q_292 : MethodName × ByteArray × Nat × Option FieldType := (⟨"DrownedRoomsModel", "whoHas", "(I)I"⟩, prog_14_method_47_code, 3, some .int)
theorem mq_292 : mq 292 = q_292 := rfl
def q_294 : MethodName × ByteArray × Nat × Option FieldType := (⟨"DrownedRoomsModel", "isGuest", "(I)Z"⟩, prog_14_method_45_code, 2, some .boolean)
theorem mq_294 : mq 294 = q_294 := rfl
def q_297 : MethodName × ByteArray × Nat × Option FieldType := (⟨"DrownedRoomsModel", "hasRoom", "(I)Z"⟩, prog_14_method_48_code, 2, some .boolean)
theorem mq_297 : mq 297 = q_297 := rfl
def q_299 : MethodName × ByteArray × Nat × Option FieldType := (⟨"DrownedRoomsModel", "take", "(III)I"⟩, prog_14_method_59_code, 4, some .int)
theorem mq_299 : mq 299 = q_299 := rfl
def q_300 : MethodName × ByteArray × Nat × Option FieldType := (⟨"DrownedRoomsModel", "act", "(IIIIZ)I"⟩, prog_14_method_58_code, 7, some .int)
theorem mq_300 : mq 300 = q_300 := rfl
def q_301 : MethodName × ByteArray × Nat × Option FieldType := (⟨"DrownedRoomsModel", "why", "(III)I"⟩, prog_14_method_55_code, 4, some .int)
theorem mq_301 : mq 301 = q_301 := rfl
def q_302 : MethodName × ByteArray × Nat × Option FieldType := (⟨"DrownedRoomsModel", "snap", "()V"⟩, prog_14_method_54_code, 2, none)
theorem mq_302 : mq 302 = q_302 := rfl
def q_303 : MethodName × ByteArray × Nat × Option FieldType := (⟨"DrownedRoomsModel", "live", "(IIII)V"⟩, prog_14_method_57_code, 5, none)
theorem mq_303 : mq 303 = q_303 := rfl
def q_304 : MethodName × ByteArray × Nat × Option FieldType := (⟨"DrownedRoomsModel", "goAway", "(I)V"⟩, prog_14_method_56_code, 2, none)
theorem mq_304 : mq 304 = q_304 := rfl
def q_309 : MethodName × ByteArray × Nat × Option FieldType := (⟨"DrownedRoomsModel", "passDays", "(I)I"⟩, prog_14_method_66_code, 4, some .int)
theorem mq_309 : mq 309 = q_309 := rfl
def q_310 : MethodName × ByteArray × Nat × Option FieldType := (⟨"DrownedRoomsModel", "least", "(II)I"⟩, prog_14_method_10_code, 2, some .int)
theorem mq_310 : mq 310 = q_310 := rfl
def q_311 : MethodName × ByteArray × Nat × Option FieldType := (⟨"DrownedRoomsModel", "oneDay", "()V"⟩, prog_14_method_65_code, 2, none)
theorem mq_311 : mq 311 = q_311 := rfl
def q_312 : MethodName × ByteArray × Nat × Option FieldType := (⟨"DrownedRoomsModel", "levelBehind", "(III)I"⟩, prog_14_method_63_code, 5, some .int)
theorem mq_312 : mq 312 = q_312 := rfl
def q_313 : MethodName × ByteArray × Nat × Option FieldType := (⟨"DrownedRoomsModel", "night", "(I)V"⟩, prog_14_method_64_code, 3, none)
theorem mq_313 : mq 313 = q_313 := rfl
def q_314 : MethodName × ByteArray × Nat × Option FieldType := (⟨"DrownedRoomsModel", "level", "(I)I"⟩, prog_14_method_70_code, 3, some .int)
theorem mq_314 : mq 314 = q_314 := rfl
def q_315 : MethodName × ByteArray × Nat × Option FieldType := (⟨"DrownedRoomsModel", "layAside", "()V"⟩, prog_14_method_68_code, 2, none)
theorem mq_315 : mq 315 = q_315 := rfl
def q_316 : MethodName × ByteArray × Nat × Option FieldType := (⟨"DrownedRoomsModel", "takeBack", "()V"⟩, prog_14_method_69_code, 2, none)
theorem mq_316 : mq 316 = q_316 := rfl
