def q_34 : MethodName × ByteArray × Nat × Option FieldType := (⟨"java/lang/String", "length", "()I"⟩, prog_26_method_54_code, 1, some .int)
theorem mq_34 : mq 34 = q_34 := rfl
def q_35 : MethodName × ByteArray × Nat × Option FieldType := (⟨"java/lang/String", "coder", "()B"⟩, prog_26_method_152_code, 1, (Option.some Jvm.ClassFile.FieldType.byte))
theorem mq_35 : mq 35 = q_35 := rfl
def q_39 : MethodName × ByteArray × Nat × Option FieldType := (⟨"java/lang/String", "checkIndex", "(II)V"⟩, prog_26_method_155_code, 2, none)
theorem mq_39 : mq 39 = q_39 := rfl
def q_40 : MethodName × ByteArray × Nat × Option FieldType := (⟨"jdk/internal/util/Preconditions", "checkIndex", "(IILjava/util/function/BiFunction;)I"⟩, prog_37_method_11_code, 3, some .int)
theorem mq_40 : mq 40 = q_40 := rfl
def q_90 : MethodName × ByteArray × Nat × Option FieldType := (⟨"DrownedRooms", "isGuest", "(I)Z"⟩, prog_1_method_43_code, 2, some .boolean)
theorem mq_90 : mq 90 = q_90 := rfl
def q_158 : MethodName × ByteArray × Nat × Option FieldType := (⟨"DrownedRooms", "bill", "(I)I"⟩, prog_1_method_31_code, 3, some .int)
theorem mq_158 : mq 158 = q_158 := rfl
def q_159 : MethodName × ByteArray × Nat × Option FieldType := (⟨"java/lang/StringBuilder", "setLength", "(I)V"⟩, prog_27_method_89_code, 2, none)
theorem mq_159 : mq 159 = q_159 := rfl
def q_160 : MethodName × ByteArray × Nat × Option FieldType := (⟨"java/lang/AbstractStringBuilder", "setLength", "(I)V"⟩, prog_16_method_13_code, 2, none)
theorem mq_160 : mq 160 = q_160 := rfl
def q_161 : MethodName × ByteArray × Nat × Option FieldType := (⟨"java/lang/AbstractStringBuilder", "ensureCapacityInternal", "(I)V"⟩, prog_16_method_9_code, 3, none)
theorem mq_161 : mq 161 = q_161 := rfl
def q_162 : MethodName × ByteArray × Nat × Option FieldType := (⟨"java/lang/AbstractStringBuilder", "newCapacity", "(I)I"⟩, prog_16_method_10_code, 6, some .int)
theorem mq_162 : mq 162 = q_162 := rfl
def q_163 : MethodName × ByteArray × Nat × Option FieldType := (⟨"jdk/internal/util/ArraysSupport", "newLength", "(III)I"⟩, prog_36_method_27_code, 4, some .int)
theorem mq_163 : mq 163 = q_163 := rfl
def q_165 : MethodName × ByteArray × Nat × Option FieldType := (⟨"java/util/Arrays", "copyOf", "([BI)[B"⟩, prog_34_method_121_code, 3, (Option.some (Jvm.ClassFile.FieldType.array Jvm.ClassFile.FieldType.byte)))
theorem mq_165 : mq 165 = q_165 := rfl
def q_166 : MethodName × ByteArray × Nat × Option FieldType := (⟨"java/lang/AbstractStringBuilder", "isLatin1", "()Z"⟩, prog_16_method_68_code, 1, some .boolean)
theorem mq_166 : mq 166 = q_166 := rfl
def q_171 : MethodName × ByteArray × Nat × Option FieldType := (⟨"DrownedRooms", "addName", "(J)V"⟩, prog_1_method_45_code, 5, none)
theorem mq_171 : mq 171 = q_171 := rfl
def q_172 : MethodName × ByteArray × Nat × Option FieldType := (⟨"java/lang/StringBuilder", "append", "(C)Ljava/lang/StringBuilder;"⟩, prog_27_method_14_code, 2, (Option.some (Jvm.ClassFile.FieldType.object "java/lang/StringBuilder")))
theorem mq_172 : mq 172 = q_172 := rfl
def q_173 : MethodName × ByteArray × Nat × Option FieldType := (⟨"java/lang/AbstractStringBuilder", "append", "(C)Ljava/lang/AbstractStringBuilder;"⟩, prog_16_method_31_code, 2, (Option.some (Jvm.ClassFile.FieldType.object "java/lang/AbstractStringBuilder")))
theorem mq_173 : mq 173 = q_173 := rfl
def q_174 : MethodName × ByteArray × Nat × Option FieldType := (⟨"java/lang/StringLatin1", "canEncode", "(C)Z"⟩, prog_28_method_3_code, 1, some .boolean)
theorem mq_174 : mq 174 = q_174 := rfl
def q_183 : MethodName × ByteArray × Nat × Option FieldType := (⟨"java/lang/StringBuilder", "append", "(Ljava/lang/String;)Ljava/lang/StringBuilder;"⟩, prog_27_method_7_code, 2, (Option.some (Jvm.ClassFile.FieldType.object "java/lang/StringBuilder")))
theorem mq_183 : mq 183 = q_183 := rfl
def q_184 : MethodName × ByteArray × Nat × Option FieldType := (⟨"java/lang/AbstractStringBuilder", "append", "(Ljava/lang/String;)Ljava/lang/AbstractStringBuilder;"⟩, prog_16_method_22_code, 3, (Option.some (Jvm.ClassFile.FieldType.object "java/lang/AbstractStringBuilder")))
theorem mq_184 : mq 184 = q_184 := rfl
def q_190 : MethodName × ByteArray × Nat × Option FieldType := (⟨"java/lang/AbstractStringBuilder", "putStringAt", "(ILjava/lang/String;)V"⟩, prog_16_method_73_code, 3, none)
theorem mq_190 : mq 190 = q_190 := rfl
def q_191 : MethodName × ByteArray × Nat × Option FieldType := (⟨"java/lang/AbstractStringBuilder", "inflateIfNeededFor", "(Ljava/lang/String;)V"⟩, prog_16_method_71_code, 2, none)
theorem mq_191 : mq 191 = q_191 := rfl
def q_192 : MethodName × ByteArray × Nat × Option FieldType := (⟨"java/lang/String", "getBytes", "([BIB)V"⟩, prog_26_method_147_code, 4, none)
theorem mq_192 : mq 192 = q_192 := rfl
def q_193 : MethodName × ByteArray × Nat × Option FieldType := (⟨"java/lang/StringBuilder", "append", "(I)Ljava/lang/StringBuilder;"⟩, prog_27_method_15_code, 2, (Option.some (Jvm.ClassFile.FieldType.object "java/lang/StringBuilder")))
theorem mq_193 : mq 193 = q_193 := rfl
def q_194 : MethodName × ByteArray × Nat × Option FieldType := (⟨"java/lang/AbstractStringBuilder", "append", "(I)Ljava/lang/AbstractStringBuilder;"⟩, prog_16_method_32_code, 4, (Option.some (Jvm.ClassFile.FieldType.object "java/lang/AbstractStringBuilder")))
theorem mq_194 : mq 194 = q_194 := rfl
def q_195 : MethodName × ByteArray × Nat × Option FieldType := (⟨"java/lang/Integer", "stringSize", "(I)I"⟩, prog_22_method_13_code, 4, some .int)
theorem mq_195 : mq 195 = q_195 := rfl
def q_196 : MethodName × ByteArray × Nat × Option FieldType := (⟨"java/lang/Integer", "getChars", "(II[B)I"⟩, prog_22_method_12_code, 7, some .int)
theorem mq_196 : mq 196 = q_196 := rfl
def q_199 : MethodName × ByteArray × Nat × Option FieldType := (⟨"java/lang/StringBuilder", "length", "()I"⟩, prog_27_method_93_code, 1, some .int)
theorem mq_199 : mq 199 = q_199 := rfl
def q_200 : MethodName × ByteArray × Nat × Option FieldType := (⟨"java/lang/AbstractStringBuilder", "length", "()I"⟩, prog_16_method_6_code, 1, some .int)
theorem mq_200 : mq 200 = q_200 := rfl
def q_201 : MethodName × ByteArray × Nat × Option FieldType := (⟨"DrownedRooms", "byteAt", "(I)I"⟩, prog_1_method_32_code, 2, some .int)
theorem mq_201 : mq 201 = q_201 := rfl
def q_202 : MethodName × ByteArray × Nat × Option FieldType := (⟨"java/lang/StringBuilder", "charAt", "(I)C"⟩, prog_27_method_88_code, 2, (Option.some Jvm.ClassFile.FieldType.char))
theorem mq_202 : mq 202 = q_202 := rfl
def q_203 : MethodName × ByteArray × Nat × Option FieldType := (⟨"java/lang/AbstractStringBuilder", "charAt", "(I)C"⟩, prog_16_method_14_code, 5, (Option.some Jvm.ClassFile.FieldType.char))
theorem mq_203 : mq 203 = q_203 := rfl
