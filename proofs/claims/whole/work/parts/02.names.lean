def RX0 : String := "MessageCodes$BlockCipher"
def TX0 : u_T := fun k => match k with
  | 0 => ("MessageCodes$BlockCipher", "roundKeys", "[I", true)
  | _ => ("MessageCodes$BlockCipher", "turned", "[I", true)
def tyX0 : Nat → FieldType := fun k => match k with
  | 0 => .array .int
  | _ => .array .int
abbrev wsX00 : List Cond := u_ws RX0 TX0 2
theorem nmX0 : ∀ a, a < 2 → ∀ b, b < 2 → a ≠ b → (TX0 a).2.1 ≠ (TX0 b).2.1 := by decide +kernel
theorem tyX0_ok : ∀ k, k < 2 → parseFieldDescriptor (TX0 k).2.2.1 = some (tyX0 k) := by decide +kernel
abbrev cX0_init : ByteArray := prog_2_method_1_code
def yX0_init : MethodName := ⟨RX0, "<init>", "()V"⟩
abbrev cX0_useKey : ByteArray := prog_2_method_2_code
def yX0_useKey : MethodName := ⟨RX0, "useKey", "(LMessageCodes$Key;)V"⟩
abbrev cX0_putFirstWord : ByteArray := prog_2_method_3_code
def yX0_putFirstWord : MethodName := ⟨RX0, "putFirstWord", "(II)V"⟩
abbrev cX0_apply : ByteArray := prog_2_method_4_code
def yX0_apply : MethodName := ⟨RX0, "apply", "([I)V"⟩
abbrev cX0_addRoundKey : ByteArray := prog_2_method_5_code
def yX0_addRoundKey : MethodName := ⟨RX0, "addRoundKey", "([II)V"⟩
abbrev cX0_substituteAndTurnRows : ByteArray := prog_2_method_6_code
def yX0_substituteAndTurnRows : MethodName := ⟨RX0, "substituteAndTurnRows", "([I)V"⟩
abbrev cX0_mixColumns : ByteArray := prog_2_method_7_code
def yX0_mixColumns : MethodName := ⟨RX0, "mixColumns", "([I)V"⟩
def RX1 : String := "MessageCodes$Coder"
def TX1 : u_T := fun k => match k with
  | 0 => ("MessageCodes$Coder", "cipher", "LMessageCodes$BlockCipher;", true)
  | 1 => ("MessageCodes$Coder", "subkey", "[I", true)
  | 2 => ("MessageCodes$Coder", "result", "[I", true)
  | _ => ("MessageCodes$Coder", "filled", "I", false)
def tyX1 : Nat → FieldType := fun k => match k with
  | 0 => .object "MessageCodes$BlockCipher"
  | 1 => .array .int
  | 2 => .array .int
  | _ => .int
abbrev wsX10 : List Cond := u_ws RX1 TX1 4
theorem nmX1 : ∀ a, a < 4 → ∀ b, b < 4 → a ≠ b → (TX1 a).2.1 ≠ (TX1 b).2.1 := by decide +kernel
theorem tyX1_ok : ∀ k, k < 4 → parseFieldDescriptor (TX1 k).2.2.1 = some (tyX1 k) := by decide +kernel
abbrev cX1_init : ByteArray := prog_3_method_1_code
def yX1_init : MethodName := ⟨RX1, "<init>", "(LMessageCodes$BlockCipher;)V"⟩
abbrev cX1_begin : ByteArray := prog_3_method_2_code
def yX1_begin : MethodName := ⟨RX1, "begin", "(LMessageCodes$Key;)V"⟩
abbrev cX1_addOctets : ByteArray := prog_3_method_3_code
def yX1_addOctets : MethodName := ⟨RX1, "addOctets", "([II)V"⟩
abbrev cX1_addNumber : ByteArray := prog_3_method_4_code
def yX1_addNumber : MethodName := ⟨RX1, "addNumber", "(JI)V"⟩
abbrev cX1_add : ByteArray := prog_3_method_5_code
def yX1_add : MethodName := ⟨RX1, "add", "(I)V"⟩
abbrev cX1_finish : ByteArray := prog_3_method_6_code
def yX1_finish : MethodName := ⟨RX1, "finish", "()V"⟩
abbrev cX1_doubleSubkey : ByteArray := prog_3_method_7_code
def yX1_doubleSubkey : MethodName := ⟨RX1, "doubleSubkey", "()V"⟩
abbrev cX1_beginsLike : ByteArray := prog_3_method_8_code
def yX1_beginsLike : MethodName := ⟨RX1, "beginsLike", "([II)Z"⟩
def RX2 : String := "MessageCodes$Key"
def TX2 : u_T := fun k => match k with
  | 0 => ("MessageCodes$Key", "octets", "[I", true)
  | 1 => ("MessageCodes$Key", "next", "I", false)
  | _ => ("MessageCodes$Key", "counter", "J", false)
def tyX2 : Nat → FieldType := fun k => match k with
  | 0 => .array .int
  | 1 => .int
  | _ => .long
abbrev wsX20 : List Cond := u_ws RX2 TX2 3
theorem nmX2 : ∀ a, a < 3 → ∀ b, b < 3 → a ≠ b → (TX2 a).2.1 ≠ (TX2 b).2.1 := by decide +kernel
theorem tyX2_ok : ∀ k, k < 3 → parseFieldDescriptor (TX2 k).2.2.1 = some (tyX2 k) := by decide +kernel
abbrev cX2_init : ByteArray := prog_4_method_1_code
def yX2_init : MethodName := ⟨RX2, "<init>", "()V"⟩
abbrev cX2_putNext : ByteArray := prog_4_method_2_code
def yX2_putNext : MethodName := ⟨RX2, "putNext", "(I)V"⟩
def RX3 : String := "MessageCodes$Sender"
def TX3 : u_T := fun k => match k with
  | 0 => ("MessageCodes$Sender", "identity", "I", true)
  | 1 => ("MessageCodes$Sender", "counter", "J", false)
  | 2 => ("MessageCodes$Sender", "badTries", "I", false)
  | _ => ("MessageCodes$Sender", "allowedKeys", "I", false)
def tyX3 : Nat → FieldType := fun k => match k with
  | 0 => .int
  | 1 => .long
  | 2 => .int
  | _ => .int
abbrev wsX30 : List Cond := u_ws RX3 TX3 4
theorem nmX3 : ∀ a, a < 4 → ∀ b, b < 4 → a ≠ b → (TX3 a).2.1 ≠ (TX3 b).2.1 := by decide +kernel
theorem tyX3_ok : ∀ k, k < 4 → parseFieldDescriptor (TX3 k).2.2.1 = some (tyX3 k) := by decide +kernel
abbrev cX3_init : ByteArray := prog_5_method_1_code
def yX3_init : MethodName := ⟨RX3, "<init>", "(I)V"⟩
abbrev cX3_isBlocked : ByteArray := prog_5_method_2_code
def yX3_isBlocked : MethodName := ⟨RX3, "isBlocked", "()Z"⟩
abbrev cX3_stepsTo : ByteArray := prog_5_method_3_code
def yX3_stepsTo : MethodName := ⟨RX3, "stepsTo", "(I)I"⟩
abbrev cX3_endTry : ByteArray := prog_5_method_4_code
def yX3_endTry : MethodName := ⟨RX3, "endTry", "(JZ)I"⟩
abbrev cX3_mayUse : ByteArray := prog_5_method_5_code
def yX3_mayUse : MethodName := ⟨RX3, "mayUse", "(I)Z"⟩
abbrev cX3_allow : ByteArray := prog_5_method_6_code
def yX3_allow : MethodName := ⟨RX3, "allow", "(IZ)V"⟩
abbrev cX3_countOfKeys : ByteArray := prog_5_method_7_code
def yX3_countOfKeys : MethodName := ⟨RX3, "countOfKeys", "()I"⟩
abbrev cX3_beginTrip : ByteArray := prog_5_method_8_code
def yX3_beginTrip : MethodName := ⟨RX3, "beginTrip", "()V"⟩
def RX4 : String := "MessageCodes"
def TX4 : u_T := fun k => match k with
  | 0 => ("MessageCodes", "keys", "[LMessageCodes$Key;", true)
  | 1 => ("MessageCodes", "keyCount", "I", false)
  | 2 => ("MessageCodes", "senders", "[LMessageCodes$Sender;", true)
  | 3 => ("MessageCodes", "currentTrip", "J", false)
  | 4 => ("MessageCodes", "message", "[I", true)
  | 5 => ("MessageCodes", "messageLength", "I", false)
  | 6 => ("MessageCodes", "outRow", "[I", true)
  | 7 => ("MessageCodes", "outLength", "I", false)
  | 8 => ("MessageCodes", "block", "[I", true)
  | 9 => ("MessageCodes", "cipher", "LMessageCodes$BlockCipher;", true)
  | _ => ("MessageCodes", "coder", "LMessageCodes$Coder;", true)
def tyX4 : Nat → FieldType := fun k => match k with
  | 0 => .array (.object "MessageCodes$Key")
  | 1 => .int
  | 2 => .array (.object "MessageCodes$Sender")
  | 3 => .long
  | 4 => .array .int
  | 5 => .int
  | 6 => .array .int
  | 7 => .int
  | 8 => .array .int
  | 9 => .object "MessageCodes$BlockCipher"
  | _ => .object "MessageCodes$Coder"
abbrev wsX40 : List Cond := u_ws RX4 TX4 11
theorem nmX4 : ∀ a, a < 11 → ∀ b, b < 11 → a ≠ b → (TX4 a).2.1 ≠ (TX4 b).2.1 := by decide +kernel
theorem tyX4_ok : ∀ k, k < 11 → parseFieldDescriptor (TX4 k).2.2.1 = some (tyX4 k) := by decide +kernel
abbrev cX4_init : ByteArray := prog_1_method_1_code
def yX4_init : MethodName := ⟨RX4, "<init>", "()V"⟩
abbrev cX4_key : ByteArray := prog_1_method_2_code
def yX4_key : MethodName := ⟨RX4, "key", "()I"⟩
abbrev cX4_keyByte : ByteArray := prog_1_method_3_code
def yX4_keyByte : MethodName := ⟨RX4, "keyByte", "(IB)V"⟩
abbrev cX4_octet : ByteArray := prog_1_method_4_code
def yX4_octet : MethodName := ⟨RX4, "octet", "(B)V"⟩
abbrev cX4_code : ByteArray := prog_1_method_5_code
def yX4_code : MethodName := ⟨RX4, "code", "(II)I"⟩
abbrev cX4_out : ByteArray := prog_1_method_6_code
def yX4_out : MethodName := ⟨RX4, "out", "(I)B"⟩
abbrev cX4_fresh : ByteArray := prog_1_method_7_code
def yX4_fresh : MethodName := ⟨RX4, "fresh", "(IJ)I"⟩
abbrev cX4_verify : ByteArray := prog_1_method_8_code
def yX4_verify : MethodName := ⟨RX4, "verify", "(III)I"⟩
abbrev cX4_install : ByteArray := prog_1_method_9_code
def yX4_install : MethodName := ⟨RX4, "install", "(IIJ)I"⟩
abbrev cX4_check : ByteArray := prog_1_method_10_code
def yX4_check : MethodName := ⟨RX4, "check", "(I)I"⟩
abbrev cX4_trip : ByteArray := prog_1_method_11_code
def yX4_trip : MethodName := ⟨RX4, "trip", "(J)I"⟩
abbrev cX4_encipher : ByteArray := prog_1_method_12_code
def yX4_encipher : MethodName := ⟨RX4, "encipher", "(I)I"⟩
abbrev cX4_may : ByteArray := prog_1_method_13_code
def yX4_may : MethodName := ⟨RX4, "may", "(IIZ)I"⟩
abbrev cX4_findKey : ByteArray := prog_1_method_14_code
def yX4_findKey : MethodName := ⟨RX4, "findKey", "(I)LMessageCodes$Key;"⟩
abbrev cX4_findSender : ByteArray := prog_1_method_15_code
def yX4_findSender : MethodName := ⟨RX4, "findSender", "(I)LMessageCodes$Sender;"⟩
abbrev cX4_emptyMessage : ByteArray := prog_1_method_16_code
def yX4_emptyMessage : MethodName := ⟨RX4, "emptyMessage", "()V"⟩
abbrev cX4_answerBits : ByteArray := prog_1_method_17_code
def yX4_answerBits : MethodName := ⟨RX4, "answerBits", "([II)V"⟩
abbrev cX4_isCodedRow : ByteArray := prog_1_method_18_code
def yX4_isCodedRow : MethodName := ⟨RX4, "isCodedRow", "(LMessageCodes$Key;LMessageCodes$Sender;J)Z"⟩
abbrev cX4_isWrappedKey : ByteArray := prog_1_method_19_code
def yX4_isWrappedKey : MethodName := ⟨RX4, "isWrappedKey", "(LMessageCodes$Key;J)Z"⟩
abbrev cX4_unwrap : ByteArray := prog_1_method_20_code
def yX4_unwrap : MethodName := ⟨RX4, "unwrap", "(LMessageCodes$Key;LMessageCodes$Key;J)V"⟩
abbrev cX4_putNumberAtEnd : ByteArray := prog_1_method_21_code
def yX4_putNumberAtEnd : MethodName := ⟨RX4, "putNumberAtEnd", "([IJ)V"⟩
abbrev cX4_timesT : ByteArray := prog_1_method_22_code
def yX4_timesT : MethodName := ⟨RX4, "timesT", "(I)I"⟩
abbrev cX4_substitute : ByteArray := prog_1_method_23_code
def yX4_substitute : MethodName := ⟨RX4, "substitute", "(I)I"⟩
def RX5 : String := "MessageCodesModel"
def TX5 : u_T := fun k => match k with
  | 0 => ("MessageCodesModel", "code", "I", false)
  | 1 => ("MessageCodesModel", "keys", "I", false)
  | 2 => ("MessageCodesModel", "octets", "[I", true)
  | 3 => ("MessageCodesModel", "nextOctet", "[I", true)
  | 4 => ("MessageCodesModel", "installed", "[J", true)
  | 5 => ("MessageCodesModel", "message", "[I", true)
  | 6 => ("MessageCodesModel", "length", "I", false)
  | 7 => ("MessageCodesModel", "outSize", "I", false)
  | 8 => ("MessageCodesModel", "out", "[I", true)
  | 9 => ("MessageCodesModel", "trip", "J", false)
  | 10 => ("MessageCodesModel", "may", "[Z", true)
  | 11 => ("MessageCodesModel", "counter", "[J", true)
  | 12 => ("MessageCodesModel", "bad", "[I", true)
  | 13 => ("MessageCodesModel", "block", "[I", true)
  | 14 => ("MessageCodesModel", "other", "[I", true)
  | 15 => ("MessageCodesModel", "round", "[I", true)
  | 16 => ("MessageCodesModel", "mask", "[I", true)
  | 17 => ("MessageCodesModel", "row", "[I", true)
  | _ => ("MessageCodesModel", "substitutes", "[I", true)
def tyX5 : Nat → FieldType := fun k => match k with
  | 0 => .int
  | 1 => .int
  | 2 => .array .int
  | 3 => .array .int
  | 4 => .array .long
  | 5 => .array .int
  | 6 => .int
  | 7 => .int
  | 8 => .array .int
  | 9 => .long
  | 10 => .array .boolean
  | 11 => .array .long
  | 12 => .array .int
  | 13 => .array .int
  | 14 => .array .int
  | 15 => .array .int
  | 16 => .array .int
  | 17 => .array .int
  | _ => .array .int
abbrev wsX50 : List Cond := u_ws RX5 TX5 19
theorem nmX5 : ∀ a, a < 19 → ∀ b, b < 19 → a ≠ b → (TX5 a).2.1 ≠ (TX5 b).2.1 := by decide +kernel
theorem tyX5_ok : ∀ k, k < 19 → parseFieldDescriptor (TX5 k).2.2.1 = some (tyX5 k) := by decide +kernel
abbrev cX5_init : ByteArray := prog_7_method_1_code
def yX5_init : MethodName := ⟨RX5, "<init>", "()V"⟩
abbrev cX5_substitute : ByteArray := prog_7_method_2_code
def yX5_substitute : MethodName := ⟨RX5, "substitute", "(I)I"⟩
abbrev cX5_thrown : ByteArray := prog_7_method_3_code
def yX5_thrown : MethodName := ⟨RX5, "thrown", "()I"⟩
abbrev cX5_noKey : ByteArray := prog_7_method_4_code
def yX5_noKey : MethodName := ⟨RX5, "noKey", "(I)Z"⟩
abbrev cX5_product : ByteArray := prog_7_method_5_code
def yX5_product : MethodName := ⟨RX5, "product", "(II)I"⟩
abbrev cX5_substituteOf : ByteArray := prog_7_method_6_code
def yX5_substituteOf : MethodName := ⟨RX5, "substituteOf", "(I)I"⟩
abbrev cX5_makeRound : ByteArray := prog_7_method_7_code
def yX5_makeRound : MethodName := ⟨RX5, "makeRound", "(I)V"⟩
abbrev cX5_cipher : ByteArray := prog_7_method_8_code
def yX5_cipher : MethodName := ⟨RX5, "cipher", "(I)V"⟩
abbrev cX5_doubled : ByteArray := prog_7_method_9_code
def yX5_doubled : MethodName := ⟨RX5, "doubled", "()V"⟩
abbrev cX5_codeOf : ByteArray := prog_7_method_10_code
def yX5_codeOf : MethodName := ⟨RX5, "codeOf", "(II)V"⟩
abbrev cX5_key : ByteArray := prog_7_method_11_code
def yX5_key : MethodName := ⟨RX5, "key", "()I"⟩
abbrev cX5_keyByte : ByteArray := prog_7_method_12_code
def yX5_keyByte : MethodName := ⟨RX5, "keyByte", "(IB)V"⟩
abbrev cX5_octet : ByteArray := prog_7_method_13_code
def yX5_octet : MethodName := ⟨RX5, "octet", "(B)V"⟩
abbrev cX5_tell : ByteArray := prog_7_method_14_code
def yX5_tell : MethodName := ⟨RX5, "tell", "(I)I"⟩
abbrev cX5_code : ByteArray := prog_7_method_15_code
def yX5_code : MethodName := ⟨RX5, "code", "(II)I"⟩
abbrev cX5_out : ByteArray := prog_7_method_16_code
def yX5_out : MethodName := ⟨RX5, "out", "(I)B"⟩
abbrev cX5_encipher : ByteArray := prog_7_method_17_code
def yX5_encipher : MethodName := ⟨RX5, "encipher", "(I)I"⟩
abbrev cX5_check : ByteArray := prog_7_method_18_code
def yX5_check : MethodName := ⟨RX5, "check", "(I)I"⟩
abbrev cX5_noSender : ByteArray := prog_7_method_19_code
def yX5_noSender : MethodName := ⟨RX5, "noSender", "(I)Z"⟩
abbrev cX5_fresh : ByteArray := prog_7_method_20_code
def yX5_fresh : MethodName := ⟨RX5, "fresh", "(IJ)I"⟩
abbrev cX5_number : ByteArray := prog_7_method_21_code
def yX5_number : MethodName := ⟨RX5, "number", "(JII)V"⟩
abbrev cX5_fits : ByteArray := prog_7_method_22_code
def yX5_fits : MethodName := ⟨RX5, "fits", "(I)Z"⟩
abbrev cX5_verify : ByteArray := prog_7_method_23_code
def yX5_verify : MethodName := ⟨RX5, "verify", "(III)I"⟩
abbrev cX5_may : ByteArray := prog_7_method_24_code
def yX5_may : MethodName := ⟨RX5, "may", "(IIZ)I"⟩
abbrev cX5_trip : ByteArray := prog_7_method_25_code
def yX5_trip : MethodName := ⟨RX5, "trip", "(J)I"⟩
abbrev cX5_install : ByteArray := prog_7_method_26_code
def yX5_install : MethodName := ⟨RX5, "install", "(IIJ)I"⟩
def RJx00060 : String := "java/lang/ArrayIndexOutOfBoundsException"
def TJx00060 : u_T := fun k => match k with
  | 0 => ("java/lang/Throwable", "backtrace", "Ljava/lang/Object;", false)
  | 1 => ("java/lang/Throwable", "detailMessage", "Ljava/lang/String;", false)
  | 2 => ("java/lang/Throwable", "cause", "Ljava/lang/Throwable;", false)
  | 3 => ("java/lang/Throwable", "stackTrace", "[Ljava/lang/StackTraceElement;", false)
  | 4 => ("java/lang/Throwable", "depth", "I", false)
  | _ => ("java/lang/Throwable", "suppressedExceptions", "Ljava/util/List;", false)
def tyJx00060 : Nat → FieldType := fun k => match k with
  | 0 => .object "java/lang/Object"
  | 1 => .object "java/lang/String"
  | 2 => .object "java/lang/Throwable"
  | 3 => .array (.object "java/lang/StackTraceElement")
  | 4 => .int
  | _ => .object "java/util/List"
abbrev wsJx000600 : List Cond := u_ws RJx00060 TJx00060 6
theorem nmJx00060 : ∀ a, a < 6 → ∀ b, b < 6 → a ≠ b → (TJx00060 a).2.1 ≠ (TJx00060 b).2.1 := by decide +kernel
theorem tyJx00060_ok : ∀ k, k < 6 → parseFieldDescriptor (TJx00060 k).2.2.1 = some (tyJx00060 k) := by decide +kernel
abbrev cJx00060_init_a7421 : ByteArray := prog_8_method_2_code
def yJx00060_init_a7421 : MethodName := ⟨RJx00060, "<init>", "(Ljava/lang/String;)V"⟩
def RJ6 : String := "java/lang/Integer"
def TJ6 : u_T := fun k => match k with
  | _ => ("", "", "", false)
def tyJ6 : Nat → FieldType := fun k => match k with
  | _ => .int
abbrev wsJ60 : List Cond := u_ws RJ6 TJ6 0
theorem nmJ6 : ∀ a, a < 0 → ∀ b, b < 0 → a ≠ b → (TJ6 a).2.1 ≠ (TJ6 b).2.1 := by decide +kernel
theorem tyJ6_ok : ∀ k, k < 0 → parseFieldDescriptor (TJ6 k).2.2.1 = some (tyJ6 k) := by decide +kernel
abbrev cJ6_bitCount_0f7a4 : ByteArray := prog_11_method_49_code
def yJ6_bitCount_0f7a4 : MethodName := ⟨RJ6, "bitCount", "(I)I"⟩
def RJ9 : String := "java/lang/Math"
def TJ9 : u_T := fun k => match k with
  | _ => ("", "", "", false)
def tyJ9 : Nat → FieldType := fun k => match k with
  | _ => .int
abbrev wsJ90 : List Cond := u_ws RJ9 TJ9 0
theorem nmJ9 : ∀ a, a < 0 → ∀ b, b < 0 → a ≠ b → (TJ9 a).2.1 ≠ (TJ9 b).2.1 := by decide +kernel
theorem tyJ9_ok : ∀ k, k < 0 → parseFieldDescriptor (TJ9 k).2.2.1 = some (tyJ9 k) := by decide +kernel
abbrev cJ9_max_7cf53 : ByteArray := prog_12_method_65_code
def yJ9_max_7cf53 : MethodName := ⟨RJ9, "max", "(II)I"⟩
abbrev cJ9_min_7cf53 : ByteArray := prog_12_method_69_code
def yJ9_min_7cf53 : MethodName := ⟨RJ9, "min", "(II)I"⟩
def RJ0 : String := "java/lang/String"
def TJ0 : u_T := fun k => match k with
  | 0 => ("java/lang/String", "value", "[B", true)
  | _ => ("java/lang/String", "coder", "B", true)
def tyJ0 : Nat → FieldType := fun k => match k with
  | 0 => .array .byte
  | _ => .byte
abbrev wsJ00 : List Cond := u_ws RJ0 TJ0 2
theorem nmJ0 : ∀ a, a < 2 → ∀ b, b < 2 → a ≠ b → (TJ0 a).2.1 ≠ (TJ0 b).2.1 := by decide +kernel
theorem tyJ0_ok : ∀ k, k < 2 → parseFieldDescriptor (TJ0 k).2.2.1 = some (tyJ0 k) := by decide +kernel
def RJ7 : String := "java/util/Arrays"
def TJ7 : u_T := fun k => match k with
  | _ => ("", "", "", false)
def tyJ7 : Nat → FieldType := fun k => match k with
  | _ => .int
abbrev wsJ70 : List Cond := u_ws RJ7 TJ7 0
theorem nmJ7 : ∀ a, a < 0 → ∀ b, b < 0 → a ≠ b → (TJ7 a).2.1 ≠ (TJ7 b).2.1 := by decide +kernel
theorem tyJ7_ok : ∀ k, k < 0 → parseFieldDescriptor (TJ7 k).2.2.1 = some (tyJ7 k) := by decide +kernel
abbrev cJ7_fill_53178 : ByteArray := prog_16_method_103_code
def yJ7_fill_53178 : MethodName := ⟨RJ7, "fill", "([II)V"⟩
def RL : String := "MessageCodesLaw"
abbrev cL_out : ByteArray := method_3_code
def yL_out : MethodName := ⟨RL, "out", "(LMessageCodes;I[J)I"⟩
abbrev cL_law : ByteArray := code
def yL_law : MethodName := ⟨RL, "law", "([I)Z"⟩
abbrev vwCl : List vw_C := [(RJ0, TJ0, 2), (RJx00060, TJx00060, 6), (RX0, TX0, 2), (RX1, TX1, 4), (RX2, TX2, 3), (RX3, TX3, 4), (RX4, TX4, 11), (RX5, TX5, 19)]

