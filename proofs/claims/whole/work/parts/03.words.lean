/-- all the words that are handed on from a method to those that it calls: one list for all -/
def wB : List Cond := lw_tbl.filter goodWord
abbrev wM (y : MethodName) (cc : ByteArray) (n : Nat) (r : Option FieldType) : List Cond := .code y cc n r :: wB
theorem wB_mem {w : Cond} (h : w ∈ lw_tbl) (hg : goodWord w = true) : w ∈ wB := List.mem_filter.mpr ⟨h, hg⟩
theorem wB_T {w : Cond} (i : Nat) (h : tables_1[i]? = some w) (hg : goodWord w = true) : w ∈ wB := wB_mem (List.mem_append_right _ (List.mem_of_getElem? h)) hg
theorem wB_S {w : Cond} (i : Nat) (h : (k2_sels lw_privs)[i]? = some w) (hg : goodWord w = true) : w ∈ wB := wB_mem (List.mem_append_left _ (List.mem_of_getElem? h)) hg
theorem wB_good {w : Cond} (h : w ∈ wB) : (w.onTables && w.keeps) = true ∨ ∃ ty, w = .arrayClass ty := good_of_word (List.mem_filter.mp h).2
theorem wB_gi {ws : List Cond} (h : ∀ w ∈ ws, w ∈ wB) : GoodIn wB ws := fun w hw => ⟨h w hw, wB_good (h w hw)⟩
theorem wB_gM {y : MethodName} {cc : ByteArray} {n : Nat} {r : Option FieldType} (h : Cond.code y cc n r ∈ wB) : GoodIn wB (wM y cc n r) := wB_gi (fun w hw => (List.mem_cons.mp hw).elim (fun e => by rw [e]; exact h) id)
theorem wB_g4 {a b c d e : Cond} (ha : a ∈ wB) (hb : b ∈ wB) (hc : c ∈ wB) (hd : d ∈ wB) (he : e ∈ wB) : GoodIn wB (([a, b, c, d] : List Cond) ++ (e :: wB)) := wB_gi (fun w hw => by
  rcases List.mem_append.mp hw with h | h
  · rcases List.mem_cons.mp h with rfl | h
    · exact ha
    rcases List.mem_cons.mp h with rfl | h
    · exact hb
    rcases List.mem_cons.mp h with rfl | h
    · exact hc
    rcases List.mem_cons.mp h with rfl | h
    · exact hd
    · cases h
  · rcases List.mem_cons.mp h with rfl | h
    · exact he
    · exact h)
theorem wB_g3 {a b c e : Cond} (ha : a ∈ wB) (hb : b ∈ wB) (hc : c ∈ wB) (he : e ∈ wB) : GoodIn wB (([a, b, c] : List Cond) ++ (e :: wB)) := wB_gi (fun w hw => by
  rcases List.mem_append.mp hw with h | h
  · rcases List.mem_cons.mp h with rfl | h
    · exact ha
    rcases List.mem_cons.mp h with rfl | h
    · exact hb
    rcases List.mem_cons.mp h with rfl | h
    · exact hc
    · cases h
  · rcases List.mem_cons.mp h with rfl | h
    · exact he
    · exact h)
theorem wB_u {C : String} {T : u_T} {N : Nat} (ps : List Nat) (hp : u_ws C T N = ps.filterMap (fun i => tables_1[i]?)) (h : (u_ws C T N).all goodWord = true) : ∀ w ∈ u_ws C T N, w ∈ wB := by
  intro w hw
  have h1 := List.all_eq_true.mp h w hw
  rw [hp] at hw
  obtain ⟨i, -, hi⟩ := List.mem_filterMap.mp hw
  exact wB_T i hi h1
theorem m_0 : (Jvm.Cond.initialized "MessageCodesLaw") ∈ wB := wB_T 0 (by decide +kernel) (by decide +kernel)
theorem m_1 : (Jvm.Cond.initialized "MessageCodes") ∈ wB := wB_T 1 (by decide +kernel) (by decide +kernel)
theorem m_2 : (Jvm.Cond.initialized "MessageCodes$BlockCipher") ∈ wB := wB_T 2 (by decide +kernel) (by decide +kernel)
theorem m_3 : (Jvm.Cond.initialized "MessageCodes$Coder") ∈ wB := wB_T 3 (by decide +kernel) (by decide +kernel)
theorem m_4 : (Jvm.Cond.initialized "MessageCodes$Sender") ∈ wB := wB_T 4 (by decide +kernel) (by decide +kernel)
theorem m_5 : (Jvm.Cond.initialized "MessageCodesModel") ∈ wB := wB_T 5 (by decide +kernel) (by decide +kernel)
theorem m_6 : (Jvm.Cond.initialized "MessageCodes$Key") ∈ wB := wB_T 6 (by decide +kernel) (by decide +kernel)
theorem m_7 : (Jvm.Cond.initialized "java/util/Arrays") ∈ wB := wB_T 7 (by decide +kernel) (by decide +kernel)
theorem m_8 : (Jvm.Cond.initialized "java/lang/Math") ∈ wB := wB_T 8 (by decide +kernel) (by decide +kernel)
theorem m_9 : (Jvm.Cond.initialized "java/lang/Throwable") ∈ wB := wB_T 9 (by decide +kernel) (by decide +kernel)
theorem m_10 : (Jvm.Cond.initialized "java/lang/Exception") ∈ wB := wB_T 10 (by decide +kernel) (by decide +kernel)
theorem m_11 : (Jvm.Cond.initialized "java/lang/RuntimeException") ∈ wB := wB_T 11 (by decide +kernel) (by decide +kernel)
theorem m_12 : (Jvm.Cond.initialized "java/lang/IndexOutOfBoundsException") ∈ wB := wB_T 12 (by decide +kernel) (by decide +kernel)
theorem m_13 : (Jvm.Cond.initialized "java/lang/ArrayIndexOutOfBoundsException") ∈ wB := wB_T 13 (by decide +kernel) (by decide +kernel)
theorem m_14 : (Jvm.Cond.initialized "java/lang/String") ∈ wB := wB_T 14 (by decide +kernel) (by decide +kernel)
theorem m_15 : (Jvm.Cond.initialized "java/lang/Integer") ∈ wB := wB_T 15 (by decide +kernel) (by decide +kernel)
theorem m_16 : (Jvm.Cond.classLink "MessageCodesLaw" (8 : Nat) "MessageCodes") ∈ wB := wB_T 16 (by decide +kernel) (by decide +kernel)
theorem m_17 : (Jvm.Cond.instantiable "MessageCodes" (11 : Nat)) ∈ wB := wB_T 17 (by decide +kernel) (by decide +kernel)
theorem m_18 : (Jvm.Cond.methodLink "MessageCodesLaw" (15 : Nat) ({ cls := "MessageCodes", name := "<init>", desc := "()V" } : Jvm.MethodName)) ∈ wB := wB_T 18 (by decide +kernel) (by decide +kernel)
theorem m_19 : (Jvm.Cond.instanceMethod ({ cls := "MessageCodes", name := "<init>", desc := "()V" } : Jvm.MethodName)) ∈ wB := wB_T 19 (by decide +kernel) (by decide +kernel)
theorem m_20 : (Jvm.Cond.code ({ cls := "MessageCodes", name := "<init>", desc := "()V" } : Jvm.MethodName) prog_1_method_1_code (2 : Nat) (Option.none : Option Jvm.ClassFile.FieldType)) ∈ wB := wB_T 20 (by decide +kernel) (by decide +kernel)
theorem m_21 : (Jvm.Cond.methodLink "MessageCodes" (3 : Nat) ({ cls := "java/lang/Object", name := "<init>", desc := "()V" } : Jvm.MethodName)) ∈ wB := wB_T 21 (by decide +kernel) (by decide +kernel)
theorem m_22 : (Jvm.Cond.instanceMethod ({ cls := "java/lang/Object", name := "<init>", desc := "()V" } : Jvm.MethodName)) ∈ wB := wB_T 22 (by decide +kernel) (by decide +kernel)
theorem m_23 : (Jvm.Cond.code ({ cls := "java/lang/Object", name := "<init>", desc := "()V" } : Jvm.MethodName) object_method_1_code (1 : Nat) (Option.none : Option Jvm.ClassFile.FieldType)) ∈ wB := wB_T 23 (by decide +kernel) (by decide +kernel)
theorem m_24 : (Jvm.Cond.classLink "MessageCodes" (9 : Nat) "MessageCodes$Key") ∈ wB := wB_T 24 (by decide +kernel) (by decide +kernel)
theorem m_26 : (Jvm.Cond.classLink "MessageCodes" (15 : Nat) "MessageCodes$Sender") ∈ wB := wB_T 26 (by decide +kernel) (by decide +kernel)
theorem m_28 : (Jvm.Cond.classLink "MessageCodes" (31 : Nat) "MessageCodes$BlockCipher") ∈ wB := wB_T 28 (by decide +kernel) (by decide +kernel)
theorem m_29 : (Jvm.Cond.instantiable "MessageCodes$BlockCipher" (2 : Nat)) ∈ wB := wB_T 29 (by decide +kernel) (by decide +kernel)
theorem m_31 : (Jvm.Cond.instanceMethod ({ cls := "MessageCodes$BlockCipher", name := "<init>", desc := "()V" } : Jvm.MethodName)) ∈ wB := wB_T 31 (by decide +kernel) (by decide +kernel)
theorem m_32 : (Jvm.Cond.code ({ cls := "MessageCodes$BlockCipher", name := "<init>", desc := "()V" } : Jvm.MethodName) prog_2_method_1_code (1 : Nat) (Option.none : Option Jvm.ClassFile.FieldType)) ∈ wB := wB_T 32 (by decide +kernel) (by decide +kernel)
theorem m_33 : (Jvm.Cond.methodLink "MessageCodes$BlockCipher" (3 : Nat) ({ cls := "java/lang/Object", name := "<init>", desc := "()V" } : Jvm.MethodName)) ∈ wB := wB_T 33 (by decide +kernel) (by decide +kernel)
theorem m_34 : (Jvm.Cond.fieldLink "MessageCodes$BlockCipher" (9 : Nat) "MessageCodes$BlockCipher" "roundKeys" "[I") ∈ wB := wB_T 34 (by decide +kernel) (by decide +kernel)
theorem m_35 : (Jvm.Cond.fieldLink "MessageCodes$BlockCipher" (15 : Nat) "MessageCodes$BlockCipher" "turned" "[I") ∈ wB := wB_T 35 (by decide +kernel) (by decide +kernel)
theorem m_40 : (Jvm.Cond.superclass "MessageCodes$BlockCipher" "java/lang/Object") ∈ wB := wB_T 40 (by decide +kernel) (by decide +kernel)
theorem m_41 : (Jvm.Cond.arrayClass Jvm.ClassFile.FieldType.int) ∈ wB := wB_T 41 (by decide +kernel) (by decide +kernel)
theorem m_42 : (Jvm.Cond.classLink "MessageCodes" (38 : Nat) "MessageCodes$Coder") ∈ wB := wB_T 42 (by decide +kernel) (by decide +kernel)
theorem m_43 : (Jvm.Cond.instantiable "MessageCodes$Coder" (4 : Nat)) ∈ wB := wB_T 43 (by decide +kernel) (by decide +kernel)
theorem m_44 : (Jvm.Cond.methodLink "MessageCodes" (40 : Nat) ({ cls := "MessageCodes$Coder", name := "<init>", desc := "(LMessageCodes$BlockCipher;)V" } : Jvm.MethodName)) ∈ wB := wB_T 44 (by decide +kernel) (by decide +kernel)
theorem m_45 : (Jvm.Cond.instanceMethod ({ cls := "MessageCodes$Coder", name := "<init>", desc := "(LMessageCodes$BlockCipher;)V" } : Jvm.MethodName)) ∈ wB := wB_T 45 (by decide +kernel) (by decide +kernel)
theorem m_46 : (Jvm.Cond.code ({ cls := "MessageCodes$Coder", name := "<init>", desc := "(LMessageCodes$BlockCipher;)V" } : Jvm.MethodName) prog_3_method_1_code (2 : Nat) (Option.none : Option Jvm.ClassFile.FieldType)) ∈ wB := wB_T 46 (by decide +kernel) (by decide +kernel)
theorem m_47 : (Jvm.Cond.methodLink "MessageCodes$Coder" (3 : Nat) ({ cls := "java/lang/Object", name := "<init>", desc := "()V" } : Jvm.MethodName)) ∈ wB := wB_T 47 (by decide +kernel) (by decide +kernel)
theorem m_48 : (Jvm.Cond.fieldLink "MessageCodes$Coder" (18 : Nat) "MessageCodes$Coder" "cipher" "LMessageCodes$BlockCipher;") ∈ wB := wB_T 48 (by decide +kernel) (by decide +kernel)
theorem m_49 : (Jvm.Cond.fieldLink "MessageCodes$Coder" (9 : Nat) "MessageCodes$Coder" "subkey" "[I") ∈ wB := wB_T 49 (by decide +kernel) (by decide +kernel)
theorem m_50 : (Jvm.Cond.fieldLink "MessageCodes$Coder" (15 : Nat) "MessageCodes$Coder" "result" "[I") ∈ wB := wB_T 50 (by decide +kernel) (by decide +kernel)
theorem m_51 : (Jvm.Cond.fieldLink "MessageCodes" (79 : Nat) "MessageCodes$Coder" "result" "[I") ∈ wB := wB_T 51 (by decide +kernel) (by decide +kernel)
theorem m_52 : (Jvm.Cond.fieldLink "MessageCodes$Coder" (34 : Nat) "MessageCodes$Coder" "filled" "I") ∈ wB := wB_T 52 (by decide +kernel) (by decide +kernel)
theorem m_61 : (Jvm.Cond.superclass "MessageCodes$Coder" "java/lang/Object") ∈ wB := wB_T 61 (by decide +kernel) (by decide +kernel)
theorem m_62 : (Jvm.Cond.instantiable "MessageCodes$Sender" (4 : Nat)) ∈ wB := wB_T 62 (by decide +kernel) (by decide +kernel)
theorem m_63 : (Jvm.Cond.methodLink "MessageCodes" (47 : Nat) ({ cls := "MessageCodes$Sender", name := "<init>", desc := "(I)V" } : Jvm.MethodName)) ∈ wB := wB_T 63 (by decide +kernel) (by decide +kernel)
theorem m_64 : (Jvm.Cond.instanceMethod ({ cls := "MessageCodes$Sender", name := "<init>", desc := "(I)V" } : Jvm.MethodName)) ∈ wB := wB_T 64 (by decide +kernel) (by decide +kernel)
theorem m_65 : (Jvm.Cond.code ({ cls := "MessageCodes$Sender", name := "<init>", desc := "(I)V" } : Jvm.MethodName) prog_5_method_1_code (2 : Nat) (Option.none : Option Jvm.ClassFile.FieldType)) ∈ wB := wB_T 65 (by decide +kernel) (by decide +kernel)
theorem m_66 : (Jvm.Cond.methodLink "MessageCodes$Sender" (3 : Nat) ({ cls := "java/lang/Object", name := "<init>", desc := "()V" } : Jvm.MethodName)) ∈ wB := wB_T 66 (by decide +kernel) (by decide +kernel)
theorem m_67 : (Jvm.Cond.fieldLink "MessageCodes$Sender" (9 : Nat) "MessageCodes$Sender" "identity" "I") ∈ wB := wB_T 67 (by decide +kernel) (by decide +kernel)
theorem m_68 : (Jvm.Cond.fieldLink "MessageCodes" (172 : Nat) "MessageCodes$Sender" "identity" "I") ∈ wB := wB_T 68 (by decide +kernel) (by decide +kernel)
theorem m_69 : (Jvm.Cond.fieldLink "MessageCodes$Sender" (18 : Nat) "MessageCodes$Sender" "counter" "J") ∈ wB := wB_T 69 (by decide +kernel) (by decide +kernel)
theorem m_70 : (Jvm.Cond.fieldLink "MessageCodes" (101 : Nat) "MessageCodes$Sender" "counter" "J") ∈ wB := wB_T 70 (by decide +kernel) (by decide +kernel)
theorem m_71 : (Jvm.Cond.fieldLink "MessageCodes$Sender" (15 : Nat) "MessageCodes$Sender" "badTries" "I") ∈ wB := wB_T 71 (by decide +kernel) (by decide +kernel)
theorem m_72 : (Jvm.Cond.fieldLink "MessageCodes$Sender" (24 : Nat) "MessageCodes$Sender" "allowedKeys" "I") ∈ wB := wB_T 72 (by decide +kernel) (by decide +kernel)
theorem m_81 : (Jvm.Cond.superclass "MessageCodes$Sender" "java/lang/Object") ∈ wB := wB_T 81 (by decide +kernel) (by decide +kernel)
theorem m_82 : (Jvm.Cond.fieldLink "MessageCodes" (11 : Nat) "MessageCodes" "keys" "[LMessageCodes$Key;") ∈ wB := wB_T 82 (by decide +kernel) (by decide +kernel)
theorem m_83 : (Jvm.Cond.fieldLink "MessageCodes" (50 : Nat) "MessageCodes" "keyCount" "I") ∈ wB := wB_T 83 (by decide +kernel) (by decide +kernel)
theorem m_84 : (Jvm.Cond.fieldLink "MessageCodes" (17 : Nat) "MessageCodes" "senders" "[LMessageCodes$Sender;") ∈ wB := wB_T 84 (by decide +kernel) (by decide +kernel)
theorem m_85 : (Jvm.Cond.fieldLink "MessageCodes" (148 : Nat) "MessageCodes" "currentTrip" "J") ∈ wB := wB_T 85 (by decide +kernel) (by decide +kernel)
theorem m_86 : (Jvm.Cond.fieldLink "MessageCodes" (21 : Nat) "MessageCodes" "message" "[I") ∈ wB := wB_T 86 (by decide +kernel) (by decide +kernel)
theorem m_87 : (Jvm.Cond.fieldLink "MessageCodes" (62 : Nat) "MessageCodes" "messageLength" "I") ∈ wB := wB_T 87 (by decide +kernel) (by decide +kernel)
theorem m_88 : (Jvm.Cond.fieldLink "MessageCodes" (25 : Nat) "MessageCodes" "outRow" "[I") ∈ wB := wB_T 88 (by decide +kernel) (by decide +kernel)
theorem m_89 : (Jvm.Cond.fieldLink "MessageCodes" (85 : Nat) "MessageCodes" "outLength" "I") ∈ wB := wB_T 89 (by decide +kernel) (by decide +kernel)
theorem m_90 : (Jvm.Cond.fieldLink "MessageCodes" (28 : Nat) "MessageCodes" "block" "[I") ∈ wB := wB_T 90 (by decide +kernel) (by decide +kernel)
theorem m_91 : (Jvm.Cond.fieldLink "MessageCodes" (34 : Nat) "MessageCodes" "cipher" "LMessageCodes$BlockCipher;") ∈ wB := wB_T 91 (by decide +kernel) (by decide +kernel)
theorem m_92 : (Jvm.Cond.fieldLink "MessageCodes" (43 : Nat) "MessageCodes" "coder" "LMessageCodes$Coder;") ∈ wB := wB_T 92 (by decide +kernel) (by decide +kernel)
theorem m_115 : (Jvm.Cond.superclass "MessageCodes" "java/lang/Object") ∈ wB := wB_T 115 (by decide +kernel) (by decide +kernel)
theorem m_116 : (Jvm.Cond.methodLink "MessageCodesLaw" (19 : Nat) ({ cls := "MessageCodes", name := "key", desc := "()I" } : Jvm.MethodName)) ∈ wB := wB_T 116 (by decide +kernel) (by decide +kernel)
theorem m_117 : (Jvm.Cond.instanceMethod ({ cls := "MessageCodes", name := "key", desc := "()I" } : Jvm.MethodName)) ∈ wB := wB_T 117 (by decide +kernel) (by decide +kernel)
theorem m_118 : (Jvm.Cond.selects "MessageCodes" ({ cls := "MessageCodes", name := "key", desc := "()I" } : Jvm.MethodName) ({ cls := "MessageCodes", name := "key", desc := "()I" } : Jvm.MethodName)) ∈ wB := wB_T 118 (by decide +kernel) (by decide +kernel)
theorem m_119 : (Jvm.Cond.code ({ cls := "MessageCodes", name := "key", desc := "()I" } : Jvm.MethodName) prog_1_method_2_code (1 : Nat) (Option.some Jvm.ClassFile.FieldType.int)) ∈ wB := wB_T 119 (by decide +kernel) (by decide +kernel)
theorem m_120 : (Jvm.Cond.instantiable "MessageCodes$Key" (3 : Nat)) ∈ wB := wB_T 120 (by decide +kernel) (by decide +kernel)
theorem m_122 : (Jvm.Cond.instanceMethod ({ cls := "MessageCodes$Key", name := "<init>", desc := "()V" } : Jvm.MethodName)) ∈ wB := wB_T 122 (by decide +kernel) (by decide +kernel)
theorem m_123 : (Jvm.Cond.code ({ cls := "MessageCodes$Key", name := "<init>", desc := "()V" } : Jvm.MethodName) prog_4_method_1_code (1 : Nat) (Option.none : Option Jvm.ClassFile.FieldType)) ∈ wB := wB_T 123 (by decide +kernel) (by decide +kernel)
theorem m_124 : (Jvm.Cond.methodLink "MessageCodes$Key" (3 : Nat) ({ cls := "java/lang/Object", name := "<init>", desc := "()V" } : Jvm.MethodName)) ∈ wB := wB_T 124 (by decide +kernel) (by decide +kernel)
theorem m_125 : (Jvm.Cond.fieldLink "MessageCodes$Key" (9 : Nat) "MessageCodes$Key" "octets" "[I") ∈ wB := wB_T 125 (by decide +kernel) (by decide +kernel)
theorem m_126 : (Jvm.Cond.fieldLink "MessageCodes$BlockCipher" (18 : Nat) "MessageCodes$Key" "octets" "[I") ∈ wB := wB_T 126 (by decide +kernel) (by decide +kernel)
theorem m_127 : (Jvm.Cond.fieldLink "MessageCodes" (187 : Nat) "MessageCodes$Key" "octets" "[I") ∈ wB := wB_T 127 (by decide +kernel) (by decide +kernel)
theorem m_128 : (Jvm.Cond.fieldLink "MessageCodes$Key" (15 : Nat) "MessageCodes$Key" "next" "I") ∈ wB := wB_T 128 (by decide +kernel) (by decide +kernel)
theorem m_129 : (Jvm.Cond.fieldLink "MessageCodes" (190 : Nat) "MessageCodes$Key" "next" "I") ∈ wB := wB_T 129 (by decide +kernel) (by decide +kernel)
theorem m_130 : (Jvm.Cond.fieldLink "MessageCodes" (125 : Nat) "MessageCodes$Key" "counter" "J") ∈ wB := wB_T 130 (by decide +kernel) (by decide +kernel)
theorem m_137 : (Jvm.Cond.superclass "MessageCodes$Key" "java/lang/Object") ∈ wB := wB_T 137 (by decide +kernel) (by decide +kernel)
theorem m_138 : (Jvm.Cond.methodLink "MessageCodesLaw" (24 : Nat) ({ cls := "MessageCodes", name := "keyByte", desc := "(IB)V" } : Jvm.MethodName)) ∈ wB := wB_T 138 (by decide +kernel) (by decide +kernel)
theorem m_139 : (Jvm.Cond.instanceMethod ({ cls := "MessageCodes", name := "keyByte", desc := "(IB)V" } : Jvm.MethodName)) ∈ wB := wB_T 139 (by decide +kernel) (by decide +kernel)
theorem m_140 : (Jvm.Cond.selects "MessageCodes" ({ cls := "MessageCodes", name := "keyByte", desc := "(IB)V" } : Jvm.MethodName) ({ cls := "MessageCodes", name := "keyByte", desc := "(IB)V" } : Jvm.MethodName)) ∈ wB := wB_T 140 (by decide +kernel) (by decide +kernel)
theorem m_141 : (Jvm.Cond.code ({ cls := "MessageCodes", name := "keyByte", desc := "(IB)V" } : Jvm.MethodName) prog_1_method_3_code (4 : Nat) (Option.none : Option Jvm.ClassFile.FieldType)) ∈ wB := wB_T 141 (by decide +kernel) (by decide +kernel)
theorem m_142 : (Jvm.Cond.methodLink "MessageCodes" (55 : Nat) ({ cls := "MessageCodes", name := "findKey", desc := "(I)LMessageCodes$Key;" } : Jvm.MethodName)) ∈ wB := wB_T 142 (by decide +kernel) (by decide +kernel)
theorem m_144 : (Jvm.Cond.instanceMethod ({ cls := "MessageCodes", name := "findKey", desc := "(I)LMessageCodes$Key;" } : Jvm.MethodName)) ∈ wB := wB_T 144 (by decide +kernel) (by decide +kernel)
theorem m_145 : (Jvm.Cond.code ({ cls := "MessageCodes", name := "findKey", desc := "(I)LMessageCodes$Key;" } : Jvm.MethodName) prog_1_method_14_code (2 : Nat) (Option.some (Jvm.ClassFile.FieldType.object "MessageCodes$Key"))) ∈ wB := wB_T 145 (by decide +kernel) (by decide +kernel)
theorem m_146 : (Jvm.Cond.methodLink "MessageCodes" (59 : Nat) ({ cls := "MessageCodes$Key", name := "putNext", desc := "(I)V" } : Jvm.MethodName)) ∈ wB := wB_T 146 (by decide +kernel) (by decide +kernel)
theorem m_147 : (Jvm.Cond.instanceMethod ({ cls := "MessageCodes$Key", name := "putNext", desc := "(I)V" } : Jvm.MethodName)) ∈ wB := wB_T 147 (by decide +kernel) (by decide +kernel)
theorem m_148 : (Jvm.Cond.selects "MessageCodes$Key" ({ cls := "MessageCodes$Key", name := "putNext", desc := "(I)V" } : Jvm.MethodName) ({ cls := "MessageCodes$Key", name := "putNext", desc := "(I)V" } : Jvm.MethodName)) ∈ wB := wB_T 148 (by decide +kernel) (by decide +kernel)
theorem m_149 : (Jvm.Cond.code ({ cls := "MessageCodes$Key", name := "putNext", desc := "(I)V" } : Jvm.MethodName) prog_4_method_2_code (2 : Nat) (Option.none : Option Jvm.ClassFile.FieldType)) ∈ wB := wB_T 149 (by decide +kernel) (by decide +kernel)
theorem m_150 : (Jvm.Cond.methodLink "MessageCodesLaw" (29 : Nat) ({ cls := "MessageCodes", name := "octet", desc := "(B)V" } : Jvm.MethodName)) ∈ wB := wB_T 150 (by decide +kernel) (by decide +kernel)
theorem m_151 : (Jvm.Cond.instanceMethod ({ cls := "MessageCodes", name := "octet", desc := "(B)V" } : Jvm.MethodName)) ∈ wB := wB_T 151 (by decide +kernel) (by decide +kernel)
theorem m_152 : (Jvm.Cond.selects "MessageCodes" ({ cls := "MessageCodes", name := "octet", desc := "(B)V" } : Jvm.MethodName) ({ cls := "MessageCodes", name := "octet", desc := "(B)V" } : Jvm.MethodName)) ∈ wB := wB_T 152 (by decide +kernel) (by decide +kernel)
theorem m_153 : (Jvm.Cond.code ({ cls := "MessageCodes", name := "octet", desc := "(B)V" } : Jvm.MethodName) prog_1_method_4_code (2 : Nat) (Option.none : Option Jvm.ClassFile.FieldType)) ∈ wB := wB_T 153 (by decide +kernel) (by decide +kernel)
theorem m_154 : (Jvm.Cond.methodLink "MessageCodesLaw" (34 : Nat) ({ cls := "MessageCodes", name := "code", desc := "(II)I" } : Jvm.MethodName)) ∈ wB := wB_T 154 (by decide +kernel) (by decide +kernel)
theorem m_155 : (Jvm.Cond.instanceMethod ({ cls := "MessageCodes", name := "code", desc := "(II)I" } : Jvm.MethodName)) ∈ wB := wB_T 155 (by decide +kernel) (by decide +kernel)
theorem m_156 : (Jvm.Cond.selects "MessageCodes" ({ cls := "MessageCodes", name := "code", desc := "(II)I" } : Jvm.MethodName) ({ cls := "MessageCodes", name := "code", desc := "(II)I" } : Jvm.MethodName)) ∈ wB := wB_T 156 (by decide +kernel) (by decide +kernel)
theorem m_157 : (Jvm.Cond.code ({ cls := "MessageCodes", name := "code", desc := "(II)I" } : Jvm.MethodName) prog_1_method_5_code (4 : Nat) (Option.some Jvm.ClassFile.FieldType.int)) ∈ wB := wB_T 157 (by decide +kernel) (by decide +kernel)
theorem m_158 : (Jvm.Cond.methodLink "MessageCodes" (65 : Nat) ({ cls := "MessageCodes$Coder", name := "begin", desc := "(LMessageCodes$Key;)V" } : Jvm.MethodName)) ∈ wB := wB_T 158 (by decide +kernel) (by decide +kernel)
theorem m_159 : (Jvm.Cond.instanceMethod ({ cls := "MessageCodes$Coder", name := "begin", desc := "(LMessageCodes$Key;)V" } : Jvm.MethodName)) ∈ wB := wB_T 159 (by decide +kernel) (by decide +kernel)
theorem m_160 : (Jvm.Cond.selects "MessageCodes$Coder" ({ cls := "MessageCodes$Coder", name := "begin", desc := "(LMessageCodes$Key;)V" } : Jvm.MethodName) ({ cls := "MessageCodes$Coder", name := "begin", desc := "(LMessageCodes$Key;)V" } : Jvm.MethodName)) ∈ wB := wB_T 160 (by decide +kernel) (by decide +kernel)
theorem m_161 : (Jvm.Cond.code ({ cls := "MessageCodes$Coder", name := "begin", desc := "(LMessageCodes$Key;)V" } : Jvm.MethodName) prog_3_method_2_code (2 : Nat) (Option.none : Option Jvm.ClassFile.FieldType)) ∈ wB := wB_T 161 (by decide +kernel) (by decide +kernel)
theorem m_162 : (Jvm.Cond.methodLink "MessageCodes$Coder" (22 : Nat) ({ cls := "MessageCodes$BlockCipher", name := "useKey", desc := "(LMessageCodes$Key;)V" } : Jvm.MethodName)) ∈ wB := wB_T 162 (by decide +kernel) (by decide +kernel)
theorem m_163 : (Jvm.Cond.instanceMethod ({ cls := "MessageCodes$BlockCipher", name := "useKey", desc := "(LMessageCodes$Key;)V" } : Jvm.MethodName)) ∈ wB := wB_T 163 (by decide +kernel) (by decide +kernel)
theorem m_164 : (Jvm.Cond.selects "MessageCodes$BlockCipher" ({ cls := "MessageCodes$BlockCipher", name := "useKey", desc := "(LMessageCodes$Key;)V" } : Jvm.MethodName) ({ cls := "MessageCodes$BlockCipher", name := "useKey", desc := "(LMessageCodes$Key;)V" } : Jvm.MethodName)) ∈ wB := wB_T 164 (by decide +kernel) (by decide +kernel)
theorem m_165 : (Jvm.Cond.code ({ cls := "MessageCodes$BlockCipher", name := "useKey", desc := "(LMessageCodes$Key;)V" } : Jvm.MethodName) prog_2_method_2_code (5 : Nat) (Option.none : Option Jvm.ClassFile.FieldType)) ∈ wB := wB_T 165 (by decide +kernel) (by decide +kernel)
theorem m_166 : (Jvm.Cond.methodLink "MessageCodes$BlockCipher" (23 : Nat) ({ cls := "MessageCodes$BlockCipher", name := "putFirstWord", desc := "(II)V" } : Jvm.MethodName)) ∈ wB := wB_T 166 (by decide +kernel) (by decide +kernel)
theorem m_168 : (Jvm.Cond.instanceMethod ({ cls := "MessageCodes$BlockCipher", name := "putFirstWord", desc := "(II)V" } : Jvm.MethodName)) ∈ wB := wB_T 168 (by decide +kernel) (by decide +kernel)
theorem m_169 : (Jvm.Cond.code ({ cls := "MessageCodes$BlockCipher", name := "putFirstWord", desc := "(II)V" } : Jvm.MethodName) prog_2_method_3_code (5 : Nat) (Option.none : Option Jvm.ClassFile.FieldType)) ∈ wB := wB_T 169 (by decide +kernel) (by decide +kernel)
theorem m_171 : (Jvm.Cond.static ({ cls := "MessageCodes", name := "substitute", desc := "(I)I" } : Jvm.MethodName)) ∈ wB := wB_T 171 (by decide +kernel) (by decide +kernel)
theorem m_172 : (Jvm.Cond.code ({ cls := "MessageCodes", name := "substitute", desc := "(I)I" } : Jvm.MethodName) prog_1_method_23_code (1 : Nat) (Option.some Jvm.ClassFile.FieldType.int)) ∈ wB := wB_T 172 (by decide +kernel) (by decide +kernel)
theorem m_173 : (Jvm.Cond.fieldLink "MessageCodes" (195 : Nat) "MessageCodes" "SUBSTITUTES" "[I") ∈ wB := wB_T 173 (by decide +kernel) (by decide +kernel)
theorem m_176 : (Jvm.Cond.static ({ cls := "MessageCodes", name := "timesT", desc := "(I)I" } : Jvm.MethodName)) ∈ wB := wB_T 176 (by decide +kernel) (by decide +kernel)
theorem m_177 : (Jvm.Cond.code ({ cls := "MessageCodes", name := "timesT", desc := "(I)I" } : Jvm.MethodName) prog_1_method_22_code (2 : Nat) (Option.some Jvm.ClassFile.FieldType.int)) ∈ wB := wB_T 177 (by decide +kernel) (by decide +kernel)
theorem m_178 : (Jvm.Cond.methodLink "MessageCodes$Coder" (28 : Nat) ({ cls := "java/util/Arrays", name := "fill", desc := "([II)V" } : Jvm.MethodName)) ∈ wB := wB_T 178 (by decide +kernel) (by decide +kernel)
theorem m_179 : (Jvm.Cond.static ({ cls := "java/util/Arrays", name := "fill", desc := "([II)V" } : Jvm.MethodName)) ∈ wB := wB_T 179 (by decide +kernel) (by decide +kernel)
theorem m_180 : (Jvm.Cond.code ({ cls := "java/util/Arrays", name := "fill", desc := "([II)V" } : Jvm.MethodName) prog_16_method_103_code (4 : Nat) (Option.none : Option Jvm.ClassFile.FieldType)) ∈ wB := wB_T 180 (by decide +kernel) (by decide +kernel)
theorem m_181 : (Jvm.Cond.methodLink "MessageCodes" (69 : Nat) ({ cls := "MessageCodes$Coder", name := "addOctets", desc := "([II)V" } : Jvm.MethodName)) ∈ wB := wB_T 181 (by decide +kernel) (by decide +kernel)
theorem m_182 : (Jvm.Cond.instanceMethod ({ cls := "MessageCodes$Coder", name := "addOctets", desc := "([II)V" } : Jvm.MethodName)) ∈ wB := wB_T 182 (by decide +kernel) (by decide +kernel)
theorem m_183 : (Jvm.Cond.selects "MessageCodes$Coder" ({ cls := "MessageCodes$Coder", name := "addOctets", desc := "([II)V" } : Jvm.MethodName) ({ cls := "MessageCodes$Coder", name := "addOctets", desc := "([II)V" } : Jvm.MethodName)) ∈ wB := wB_T 183 (by decide +kernel) (by decide +kernel)
theorem m_184 : (Jvm.Cond.code ({ cls := "MessageCodes$Coder", name := "addOctets", desc := "([II)V" } : Jvm.MethodName) prog_3_method_3_code (4 : Nat) (Option.none : Option Jvm.ClassFile.FieldType)) ∈ wB := wB_T 184 (by decide +kernel) (by decide +kernel)
theorem m_185 : (Jvm.Cond.methodLink "MessageCodes$Coder" (38 : Nat) ({ cls := "MessageCodes$Coder", name := "add", desc := "(I)V" } : Jvm.MethodName)) ∈ wB := wB_T 185 (by decide +kernel) (by decide +kernel)
theorem m_187 : (Jvm.Cond.instanceMethod ({ cls := "MessageCodes$Coder", name := "add", desc := "(I)V" } : Jvm.MethodName)) ∈ wB := wB_T 187 (by decide +kernel) (by decide +kernel)
theorem m_188 : (Jvm.Cond.code ({ cls := "MessageCodes$Coder", name := "add", desc := "(I)V" } : Jvm.MethodName) prog_3_method_5_code (2 : Nat) (Option.none : Option Jvm.ClassFile.FieldType)) ∈ wB := wB_T 188 (by decide +kernel) (by decide +kernel)
theorem m_189 : (Jvm.Cond.methodLink "MessageCodes$Coder" (44 : Nat) ({ cls := "MessageCodes$BlockCipher", name := "apply", desc := "([I)V" } : Jvm.MethodName)) ∈ wB := wB_T 189 (by decide +kernel) (by decide +kernel)
theorem m_190 : (Jvm.Cond.instanceMethod ({ cls := "MessageCodes$BlockCipher", name := "apply", desc := "([I)V" } : Jvm.MethodName)) ∈ wB := wB_T 190 (by decide +kernel) (by decide +kernel)
theorem m_191 : (Jvm.Cond.selects "MessageCodes$BlockCipher" ({ cls := "MessageCodes$BlockCipher", name := "apply", desc := "([I)V" } : Jvm.MethodName) ({ cls := "MessageCodes$BlockCipher", name := "apply", desc := "([I)V" } : Jvm.MethodName)) ∈ wB := wB_T 191 (by decide +kernel) (by decide +kernel)
theorem m_192 : (Jvm.Cond.code ({ cls := "MessageCodes$BlockCipher", name := "apply", desc := "([I)V" } : Jvm.MethodName) prog_2_method_4_code (3 : Nat) (Option.none : Option Jvm.ClassFile.FieldType)) ∈ wB := wB_T 192 (by decide +kernel) (by decide +kernel)
theorem m_193 : (Jvm.Cond.methodLink "MessageCodes$BlockCipher" (34 : Nat) ({ cls := "MessageCodes$BlockCipher", name := "addRoundKey", desc := "([II)V" } : Jvm.MethodName)) ∈ wB := wB_T 193 (by decide +kernel) (by decide +kernel)
theorem m_195 : (Jvm.Cond.instanceMethod ({ cls := "MessageCodes$BlockCipher", name := "addRoundKey", desc := "([II)V" } : Jvm.MethodName)) ∈ wB := wB_T 195 (by decide +kernel) (by decide +kernel)
theorem m_196 : (Jvm.Cond.code ({ cls := "MessageCodes$BlockCipher", name := "addRoundKey", desc := "([II)V" } : Jvm.MethodName) prog_2_method_5_code (4 : Nat) (Option.none : Option Jvm.ClassFile.FieldType)) ∈ wB := wB_T 196 (by decide +kernel) (by decide +kernel)
theorem m_197 : (Jvm.Cond.methodLink "MessageCodes$BlockCipher" (38 : Nat) ({ cls := "MessageCodes$BlockCipher", name := "substituteAndTurnRows", desc := "([I)V" } : Jvm.MethodName)) ∈ wB := wB_T 197 (by decide +kernel) (by decide +kernel)
theorem m_199 : (Jvm.Cond.instanceMethod ({ cls := "MessageCodes$BlockCipher", name := "substituteAndTurnRows", desc := "([I)V" } : Jvm.MethodName)) ∈ wB := wB_T 199 (by decide +kernel) (by decide +kernel)
theorem m_200 : (Jvm.Cond.code ({ cls := "MessageCodes$BlockCipher", name := "substituteAndTurnRows", desc := "([I)V" } : Jvm.MethodName) prog_2_method_6_code (4 : Nat) (Option.none : Option Jvm.ClassFile.FieldType)) ∈ wB := wB_T 200 (by decide +kernel) (by decide +kernel)
theorem m_201 : (Jvm.Cond.methodLink "MessageCodes$BlockCipher" (42 : Nat) ({ cls := "MessageCodes$BlockCipher", name := "mixColumns", desc := "([I)V" } : Jvm.MethodName)) ∈ wB := wB_T 201 (by decide +kernel) (by decide +kernel)
theorem m_202 : (Jvm.Cond.static ({ cls := "MessageCodes$BlockCipher", name := "mixColumns", desc := "([I)V" } : Jvm.MethodName)) ∈ wB := wB_T 202 (by decide +kernel) (by decide +kernel)
theorem m_203 : (Jvm.Cond.code ({ cls := "MessageCodes$BlockCipher", name := "mixColumns", desc := "([I)V" } : Jvm.MethodName) prog_2_method_7_code (7 : Nat) (Option.none : Option Jvm.ClassFile.FieldType)) ∈ wB := wB_T 203 (by decide +kernel) (by decide +kernel)
theorem m_204 : (Jvm.Cond.methodLink "MessageCodes" (73 : Nat) ({ cls := "MessageCodes$Coder", name := "finish", desc := "()V" } : Jvm.MethodName)) ∈ wB := wB_T 204 (by decide +kernel) (by decide +kernel)
theorem m_205 : (Jvm.Cond.instanceMethod ({ cls := "MessageCodes$Coder", name := "finish", desc := "()V" } : Jvm.MethodName)) ∈ wB := wB_T 205 (by decide +kernel) (by decide +kernel)
theorem m_206 : (Jvm.Cond.selects "MessageCodes$Coder" ({ cls := "MessageCodes$Coder", name := "finish", desc := "()V" } : Jvm.MethodName) ({ cls := "MessageCodes$Coder", name := "finish", desc := "()V" } : Jvm.MethodName)) ∈ wB := wB_T 206 (by decide +kernel) (by decide +kernel)
theorem m_207 : (Jvm.Cond.code ({ cls := "MessageCodes$Coder", name := "finish", desc := "()V" } : Jvm.MethodName) prog_3_method_6_code (2 : Nat) (Option.none : Option Jvm.ClassFile.FieldType)) ∈ wB := wB_T 207 (by decide +kernel) (by decide +kernel)
theorem m_208 : (Jvm.Cond.methodLink "MessageCodes$Coder" (48 : Nat) ({ cls := "MessageCodes$Coder", name := "doubleSubkey", desc := "()V" } : Jvm.MethodName)) ∈ wB := wB_T 208 (by decide +kernel) (by decide +kernel)
theorem m_210 : (Jvm.Cond.instanceMethod ({ cls := "MessageCodes$Coder", name := "doubleSubkey", desc := "()V" } : Jvm.MethodName)) ∈ wB := wB_T 210 (by decide +kernel) (by decide +kernel)
theorem m_211 : (Jvm.Cond.code ({ cls := "MessageCodes$Coder", name := "doubleSubkey", desc := "()V" } : Jvm.MethodName) prog_3_method_7_code (3 : Nat) (Option.none : Option Jvm.ClassFile.FieldType)) ∈ wB := wB_T 211 (by decide +kernel) (by decide +kernel)
theorem m_212 : (Jvm.Cond.methodLink "MessageCodes" (76 : Nat) ({ cls := "MessageCodes", name := "emptyMessage", desc := "()V" } : Jvm.MethodName)) ∈ wB := wB_T 212 (by decide +kernel) (by decide +kernel)
theorem m_214 : (Jvm.Cond.instanceMethod ({ cls := "MessageCodes", name := "emptyMessage", desc := "()V" } : Jvm.MethodName)) ∈ wB := wB_T 214 (by decide +kernel) (by decide +kernel)
theorem m_215 : (Jvm.Cond.code ({ cls := "MessageCodes", name := "emptyMessage", desc := "()V" } : Jvm.MethodName) prog_1_method_16_code (1 : Nat) (Option.none : Option Jvm.ClassFile.FieldType)) ∈ wB := wB_T 215 (by decide +kernel) (by decide +kernel)
theorem m_216 : (Jvm.Cond.methodLink "MessageCodes" (82 : Nat) ({ cls := "MessageCodes", name := "answerBits", desc := "([II)V" } : Jvm.MethodName)) ∈ wB := wB_T 216 (by decide +kernel) (by decide +kernel)
theorem m_218 : (Jvm.Cond.instanceMethod ({ cls := "MessageCodes", name := "answerBits", desc := "([II)V" } : Jvm.MethodName)) ∈ wB := wB_T 218 (by decide +kernel) (by decide +kernel)
theorem m_219 : (Jvm.Cond.code ({ cls := "MessageCodes", name := "answerBits", desc := "([II)V" } : Jvm.MethodName) prog_1_method_17_code (5 : Nat) (Option.none : Option Jvm.ClassFile.FieldType)) ∈ wB := wB_T 219 (by decide +kernel) (by decide +kernel)
theorem m_220 : (Jvm.Cond.methodLink "MessageCodes" (162 : Nat) ({ cls := "java/lang/Math", name := "min", desc := "(II)I" } : Jvm.MethodName)) ∈ wB := wB_T 220 (by decide +kernel) (by decide +kernel)
theorem m_221 : (Jvm.Cond.static ({ cls := "java/lang/Math", name := "min", desc := "(II)I" } : Jvm.MethodName)) ∈ wB := wB_T 221 (by decide +kernel) (by decide +kernel)
theorem m_222 : (Jvm.Cond.code ({ cls := "java/lang/Math", name := "min", desc := "(II)I" } : Jvm.MethodName) prog_12_method_69_code (2 : Nat) (Option.some Jvm.ClassFile.FieldType.int)) ∈ wB := wB_T 222 (by decide +kernel) (by decide +kernel)
theorem m_223 : (Jvm.Cond.methodLink "MessageCodes" (168 : Nat) ({ cls := "java/lang/Math", name := "max", desc := "(II)I" } : Jvm.MethodName)) ∈ wB := wB_T 223 (by decide +kernel) (by decide +kernel)
theorem m_224 : (Jvm.Cond.static ({ cls := "java/lang/Math", name := "max", desc := "(II)I" } : Jvm.MethodName)) ∈ wB := wB_T 224 (by decide +kernel) (by decide +kernel)
theorem m_225 : (Jvm.Cond.code ({ cls := "java/lang/Math", name := "max", desc := "(II)I" } : Jvm.MethodName) prog_12_method_65_code (2 : Nat) (Option.some Jvm.ClassFile.FieldType.int)) ∈ wB := wB_T 225 (by decide +kernel) (by decide +kernel)
theorem m_226 : (Jvm.Cond.constant "MessageCodes" (171 : Nat) (65280 : Int32)) ∈ wB := wB_T 226 (by decide +kernel) (by decide +kernel)
theorem m_227 : (Jvm.Cond.methodLink "MessageCodesLaw" (50 : Nat) ({ cls := "MessageCodes", name := "fresh", desc := "(IJ)I" } : Jvm.MethodName)) ∈ wB := wB_T 227 (by decide +kernel) (by decide +kernel)
theorem m_228 : (Jvm.Cond.instanceMethod ({ cls := "MessageCodes", name := "fresh", desc := "(IJ)I" } : Jvm.MethodName)) ∈ wB := wB_T 228 (by decide +kernel) (by decide +kernel)
theorem m_229 : (Jvm.Cond.selects "MessageCodes" ({ cls := "MessageCodes", name := "fresh", desc := "(IJ)I" } : Jvm.MethodName) ({ cls := "MessageCodes", name := "fresh", desc := "(IJ)I" } : Jvm.MethodName)) ∈ wB := wB_T 229 (by decide +kernel) (by decide +kernel)
theorem m_230 : (Jvm.Cond.code ({ cls := "MessageCodes", name := "fresh", desc := "(IJ)I" } : Jvm.MethodName) prog_1_method_7_code (5 : Nat) (Option.some Jvm.ClassFile.FieldType.int)) ∈ wB := wB_T 230 (by decide +kernel) (by decide +kernel)
theorem m_231 : (Jvm.Cond.methodLink "MessageCodes" (95 : Nat) ({ cls := "MessageCodes", name := "findSender", desc := "(I)LMessageCodes$Sender;" } : Jvm.MethodName)) ∈ wB := wB_T 231 (by decide +kernel) (by decide +kernel)
theorem m_233 : (Jvm.Cond.instanceMethod ({ cls := "MessageCodes", name := "findSender", desc := "(I)LMessageCodes$Sender;" } : Jvm.MethodName)) ∈ wB := wB_T 233 (by decide +kernel) (by decide +kernel)
theorem m_234 : (Jvm.Cond.code ({ cls := "MessageCodes", name := "findSender", desc := "(I)LMessageCodes$Sender;" } : Jvm.MethodName) prog_1_method_15_code (2 : Nat) (Option.some (Jvm.ClassFile.FieldType.object "MessageCodes$Sender"))) ∈ wB := wB_T 234 (by decide +kernel) (by decide +kernel)
theorem m_235 : (Jvm.Cond.constantLong "MessageCodes" (99 : Nat) (4611686018427387904 : Int64)) ∈ wB := wB_T 235 (by decide +kernel) (by decide +kernel)
theorem m_236 : (Jvm.Cond.methodLink "MessageCodesLaw" (55 : Nat) ({ cls := "MessageCodes", name := "verify", desc := "(III)I" } : Jvm.MethodName)) ∈ wB := wB_T 236 (by decide +kernel) (by decide +kernel)
theorem m_237 : (Jvm.Cond.instanceMethod ({ cls := "MessageCodes", name := "verify", desc := "(III)I" } : Jvm.MethodName)) ∈ wB := wB_T 237 (by decide +kernel) (by decide +kernel)
theorem m_238 : (Jvm.Cond.selects "MessageCodes" ({ cls := "MessageCodes", name := "verify", desc := "(III)I" } : Jvm.MethodName) ({ cls := "MessageCodes", name := "verify", desc := "(III)I" } : Jvm.MethodName)) ∈ wB := wB_T 238 (by decide +kernel) (by decide +kernel)
theorem m_239 : (Jvm.Cond.code ({ cls := "MessageCodes", name := "verify", desc := "(III)I" } : Jvm.MethodName) prog_1_method_8_code (10 : Nat) (Option.some Jvm.ClassFile.FieldType.int)) ∈ wB := wB_T 239 (by decide +kernel) (by decide +kernel)
theorem m_240 : (Jvm.Cond.methodLink "MessageCodes" (105 : Nat) ({ cls := "MessageCodes$Sender", name := "mayUse", desc := "(I)Z" } : Jvm.MethodName)) ∈ wB := wB_T 240 (by decide +kernel) (by decide +kernel)
theorem m_241 : (Jvm.Cond.instanceMethod ({ cls := "MessageCodes$Sender", name := "mayUse", desc := "(I)Z" } : Jvm.MethodName)) ∈ wB := wB_T 241 (by decide +kernel) (by decide +kernel)
theorem m_242 : (Jvm.Cond.selects "MessageCodes$Sender" ({ cls := "MessageCodes$Sender", name := "mayUse", desc := "(I)Z" } : Jvm.MethodName) ({ cls := "MessageCodes$Sender", name := "mayUse", desc := "(I)Z" } : Jvm.MethodName)) ∈ wB := wB_T 242 (by decide +kernel) (by decide +kernel)
theorem m_243 : (Jvm.Cond.code ({ cls := "MessageCodes$Sender", name := "mayUse", desc := "(I)Z" } : Jvm.MethodName) prog_5_method_5_code (2 : Nat) (Option.some Jvm.ClassFile.FieldType.boolean)) ∈ wB := wB_T 243 (by decide +kernel) (by decide +kernel)
theorem m_244 : (Jvm.Cond.methodLink "MessageCodes" (109 : Nat) ({ cls := "MessageCodes$Sender", name := "isBlocked", desc := "()Z" } : Jvm.MethodName)) ∈ wB := wB_T 244 (by decide +kernel) (by decide +kernel)
theorem m_245 : (Jvm.Cond.instanceMethod ({ cls := "MessageCodes$Sender", name := "isBlocked", desc := "()Z" } : Jvm.MethodName)) ∈ wB := wB_T 245 (by decide +kernel) (by decide +kernel)
theorem m_246 : (Jvm.Cond.selects "MessageCodes$Sender" ({ cls := "MessageCodes$Sender", name := "isBlocked", desc := "()Z" } : Jvm.MethodName) ({ cls := "MessageCodes$Sender", name := "isBlocked", desc := "()Z" } : Jvm.MethodName)) ∈ wB := wB_T 246 (by decide +kernel) (by decide +kernel)
theorem m_247 : (Jvm.Cond.code ({ cls := "MessageCodes$Sender", name := "isBlocked", desc := "()Z" } : Jvm.MethodName) prog_5_method_2_code (1 : Nat) (Option.some Jvm.ClassFile.FieldType.boolean)) ∈ wB := wB_T 247 (by decide +kernel) (by decide +kernel)
theorem m_248 : (Jvm.Cond.methodLink "MessageCodes" (113 : Nat) ({ cls := "MessageCodes$Sender", name := "stepsTo", desc := "(I)I" } : Jvm.MethodName)) ∈ wB := wB_T 248 (by decide +kernel) (by decide +kernel)
theorem m_249 : (Jvm.Cond.instanceMethod ({ cls := "MessageCodes$Sender", name := "stepsTo", desc := "(I)I" } : Jvm.MethodName)) ∈ wB := wB_T 249 (by decide +kernel) (by decide +kernel)
theorem m_250 : (Jvm.Cond.selects "MessageCodes$Sender" ({ cls := "MessageCodes$Sender", name := "stepsTo", desc := "(I)I" } : Jvm.MethodName) ({ cls := "MessageCodes$Sender", name := "stepsTo", desc := "(I)I" } : Jvm.MethodName)) ∈ wB := wB_T 250 (by decide +kernel) (by decide +kernel)
theorem m_251 : (Jvm.Cond.code ({ cls := "MessageCodes$Sender", name := "stepsTo", desc := "(I)I" } : Jvm.MethodName) prog_5_method_3_code (2 : Nat) (Option.some Jvm.ClassFile.FieldType.int)) ∈ wB := wB_T 251 (by decide +kernel) (by decide +kernel)
theorem m_252 : (Jvm.Cond.constantLong "MessageCodes$Sender" (22 : Nat) (255 : Int64)) ∈ wB := wB_T 252 (by decide +kernel) (by decide +kernel)
theorem m_253 : (Jvm.Cond.methodLink "MessageCodes" (117 : Nat) ({ cls := "MessageCodes", name := "isCodedRow", desc := "(LMessageCodes$Key;LMessageCodes$Sender;J)Z" } : Jvm.MethodName)) ∈ wB := wB_T 253 (by decide +kernel) (by decide +kernel)
theorem m_255 : (Jvm.Cond.instanceMethod ({ cls := "MessageCodes", name := "isCodedRow", desc := "(LMessageCodes$Key;LMessageCodes$Sender;J)Z" } : Jvm.MethodName)) ∈ wB := wB_T 255 (by decide +kernel) (by decide +kernel)
theorem m_256 : (Jvm.Cond.code ({ cls := "MessageCodes", name := "isCodedRow", desc := "(LMessageCodes$Key;LMessageCodes$Sender;J)Z" } : Jvm.MethodName) prog_1_method_18_code (6 : Nat) (Option.some Jvm.ClassFile.FieldType.boolean)) ∈ wB := wB_T 256 (by decide +kernel) (by decide +kernel)
theorem m_257 : (Jvm.Cond.methodLink "MessageCodes" (175 : Nat) ({ cls := "MessageCodes$Coder", name := "addNumber", desc := "(JI)V" } : Jvm.MethodName)) ∈ wB := wB_T 257 (by decide +kernel) (by decide +kernel)
theorem m_258 : (Jvm.Cond.instanceMethod ({ cls := "MessageCodes$Coder", name := "addNumber", desc := "(JI)V" } : Jvm.MethodName)) ∈ wB := wB_T 258 (by decide +kernel) (by decide +kernel)
theorem m_259 : (Jvm.Cond.selects "MessageCodes$Coder" ({ cls := "MessageCodes$Coder", name := "addNumber", desc := "(JI)V" } : Jvm.MethodName) ({ cls := "MessageCodes$Coder", name := "addNumber", desc := "(JI)V" } : Jvm.MethodName)) ∈ wB := wB_T 259 (by decide +kernel) (by decide +kernel)
theorem m_260 : (Jvm.Cond.code ({ cls := "MessageCodes$Coder", name := "addNumber", desc := "(JI)V" } : Jvm.MethodName) prog_3_method_4_code (5 : Nat) (Option.none : Option Jvm.ClassFile.FieldType)) ∈ wB := wB_T 260 (by decide +kernel) (by decide +kernel)
theorem m_261 : (Jvm.Cond.constantLong "MessageCodes$Coder" (42 : Nat) (255 : Int64)) ∈ wB := wB_T 261 (by decide +kernel) (by decide +kernel)
theorem m_262 : (Jvm.Cond.methodLink "MessageCodes" (179 : Nat) ({ cls := "MessageCodes$Coder", name := "beginsLike", desc := "([II)Z" } : Jvm.MethodName)) ∈ wB := wB_T 262 (by decide +kernel) (by decide +kernel)
theorem m_263 : (Jvm.Cond.instanceMethod ({ cls := "MessageCodes$Coder", name := "beginsLike", desc := "([II)Z" } : Jvm.MethodName)) ∈ wB := wB_T 263 (by decide +kernel) (by decide +kernel)
theorem m_264 : (Jvm.Cond.selects "MessageCodes$Coder" ({ cls := "MessageCodes$Coder", name := "beginsLike", desc := "([II)Z" } : Jvm.MethodName) ({ cls := "MessageCodes$Coder", name := "beginsLike", desc := "([II)Z" } : Jvm.MethodName)) ∈ wB := wB_T 264 (by decide +kernel) (by decide +kernel)
theorem m_265 : (Jvm.Cond.code ({ cls := "MessageCodes$Coder", name := "beginsLike", desc := "([II)Z" } : Jvm.MethodName) prog_3_method_8_code (4 : Nat) (Option.some Jvm.ClassFile.FieldType.boolean)) ∈ wB := wB_T 265 (by decide +kernel) (by decide +kernel)
theorem m_266 : (Jvm.Cond.methodLink "MessageCodes" (121 : Nat) ({ cls := "MessageCodes$Sender", name := "endTry", desc := "(JZ)I" } : Jvm.MethodName)) ∈ wB := wB_T 266 (by decide +kernel) (by decide +kernel)
theorem m_267 : (Jvm.Cond.instanceMethod ({ cls := "MessageCodes$Sender", name := "endTry", desc := "(JZ)I" } : Jvm.MethodName)) ∈ wB := wB_T 267 (by decide +kernel) (by decide +kernel)
theorem m_268 : (Jvm.Cond.selects "MessageCodes$Sender" ({ cls := "MessageCodes$Sender", name := "endTry", desc := "(JZ)I" } : Jvm.MethodName) ({ cls := "MessageCodes$Sender", name := "endTry", desc := "(JZ)I" } : Jvm.MethodName)) ∈ wB := wB_T 268 (by decide +kernel) (by decide +kernel)
theorem m_269 : (Jvm.Cond.code ({ cls := "MessageCodes$Sender", name := "endTry", desc := "(JZ)I" } : Jvm.MethodName) prog_5_method_4_code (4 : Nat) (Option.some Jvm.ClassFile.FieldType.int)) ∈ wB := wB_T 269 (by decide +kernel) (by decide +kernel)
theorem m_270 : (Jvm.Cond.methodLink "MessageCodesLaw" (60 : Nat) ({ cls := "MessageCodes", name := "install", desc := "(IIJ)I" } : Jvm.MethodName)) ∈ wB := wB_T 270 (by decide +kernel) (by decide +kernel)
theorem m_271 : (Jvm.Cond.instanceMethod ({ cls := "MessageCodes", name := "install", desc := "(IIJ)I" } : Jvm.MethodName)) ∈ wB := wB_T 271 (by decide +kernel) (by decide +kernel)
theorem m_272 : (Jvm.Cond.selects "MessageCodes" ({ cls := "MessageCodes", name := "install", desc := "(IIJ)I" } : Jvm.MethodName) ({ cls := "MessageCodes", name := "install", desc := "(IIJ)I" } : Jvm.MethodName)) ∈ wB := wB_T 272 (by decide +kernel) (by decide +kernel)
theorem m_273 : (Jvm.Cond.code ({ cls := "MessageCodes", name := "install", desc := "(IIJ)I" } : Jvm.MethodName) prog_1_method_9_code (8 : Nat) (Option.some Jvm.ClassFile.FieldType.int)) ∈ wB := wB_T 273 (by decide +kernel) (by decide +kernel)
theorem m_274 : (Jvm.Cond.methodLink "MessageCodes" (126 : Nat) ({ cls := "MessageCodes", name := "isWrappedKey", desc := "(LMessageCodes$Key;J)Z" } : Jvm.MethodName)) ∈ wB := wB_T 274 (by decide +kernel) (by decide +kernel)
theorem m_276 : (Jvm.Cond.instanceMethod ({ cls := "MessageCodes", name := "isWrappedKey", desc := "(LMessageCodes$Key;J)Z" } : Jvm.MethodName)) ∈ wB := wB_T 276 (by decide +kernel) (by decide +kernel)
theorem m_277 : (Jvm.Cond.code ({ cls := "MessageCodes", name := "isWrappedKey", desc := "(LMessageCodes$Key;J)Z" } : Jvm.MethodName) prog_1_method_19_code (4 : Nat) (Option.some Jvm.ClassFile.FieldType.boolean)) ∈ wB := wB_T 277 (by decide +kernel) (by decide +kernel)
theorem m_278 : (Jvm.Cond.methodLink "MessageCodes" (130 : Nat) ({ cls := "MessageCodes", name := "unwrap", desc := "(LMessageCodes$Key;LMessageCodes$Key;J)V" } : Jvm.MethodName)) ∈ wB := wB_T 278 (by decide +kernel) (by decide +kernel)
theorem m_280 : (Jvm.Cond.instanceMethod ({ cls := "MessageCodes", name := "unwrap", desc := "(LMessageCodes$Key;LMessageCodes$Key;J)V" } : Jvm.MethodName)) ∈ wB := wB_T 280 (by decide +kernel) (by decide +kernel)
theorem m_281 : (Jvm.Cond.code ({ cls := "MessageCodes", name := "unwrap", desc := "(LMessageCodes$Key;LMessageCodes$Key;J)V" } : Jvm.MethodName) prog_1_method_20_code (6 : Nat) (Option.none : Option Jvm.ClassFile.FieldType)) ∈ wB := wB_T 281 (by decide +kernel) (by decide +kernel)
theorem m_282 : (Jvm.Cond.methodLink "MessageCodes" (134 : Nat) ({ cls := "java/util/Arrays", name := "fill", desc := "([II)V" } : Jvm.MethodName)) ∈ wB := wB_T 282 (by decide +kernel) (by decide +kernel)
theorem m_283 : (Jvm.Cond.methodLink "MessageCodes" (183 : Nat) ({ cls := "MessageCodes", name := "putNumberAtEnd", desc := "([IJ)V" } : Jvm.MethodName)) ∈ wB := wB_T 283 (by decide +kernel) (by decide +kernel)
theorem m_284 : (Jvm.Cond.static ({ cls := "MessageCodes", name := "putNumberAtEnd", desc := "([IJ)V" } : Jvm.MethodName)) ∈ wB := wB_T 284 (by decide +kernel) (by decide +kernel)
theorem m_285 : (Jvm.Cond.code ({ cls := "MessageCodes", name := "putNumberAtEnd", desc := "([IJ)V" } : Jvm.MethodName) prog_1_method_21_code (4 : Nat) (Option.none : Option Jvm.ClassFile.FieldType)) ∈ wB := wB_T 285 (by decide +kernel) (by decide +kernel)
theorem m_286 : (Jvm.Cond.constantLong "MessageCodes" (193 : Nat) (255 : Int64)) ∈ wB := wB_T 286 (by decide +kernel) (by decide +kernel)
theorem m_287 : (Jvm.Cond.methodLink "MessageCodes" (139 : Nat) ({ cls := "MessageCodes$BlockCipher", name := "useKey", desc := "(LMessageCodes$Key;)V" } : Jvm.MethodName)) ∈ wB := wB_T 287 (by decide +kernel) (by decide +kernel)
theorem m_288 : (Jvm.Cond.methodLink "MessageCodes" (142 : Nat) ({ cls := "MessageCodes$BlockCipher", name := "apply", desc := "([I)V" } : Jvm.MethodName)) ∈ wB := wB_T 288 (by decide +kernel) (by decide +kernel)
theorem m_289 : (Jvm.Cond.methodLink "MessageCodesLaw" (65 : Nat) ({ cls := "MessageCodes", name := "check", desc := "(I)I" } : Jvm.MethodName)) ∈ wB := wB_T 289 (by decide +kernel) (by decide +kernel)
theorem m_290 : (Jvm.Cond.instanceMethod ({ cls := "MessageCodes", name := "check", desc := "(I)I" } : Jvm.MethodName)) ∈ wB := wB_T 290 (by decide +kernel) (by decide +kernel)
theorem m_291 : (Jvm.Cond.selects "MessageCodes" ({ cls := "MessageCodes", name := "check", desc := "(I)I" } : Jvm.MethodName) ({ cls := "MessageCodes", name := "check", desc := "(I)I" } : Jvm.MethodName)) ∈ wB := wB_T 291 (by decide +kernel) (by decide +kernel)
theorem m_292 : (Jvm.Cond.code ({ cls := "MessageCodes", name := "check", desc := "(I)I" } : Jvm.MethodName) prog_1_method_10_code (3 : Nat) (Option.some Jvm.ClassFile.FieldType.int)) ∈ wB := wB_T 292 (by decide +kernel) (by decide +kernel)
theorem m_293 : (Jvm.Cond.methodLink "MessageCodesLaw" (70 : Nat) ({ cls := "MessageCodes", name := "trip", desc := "(J)I" } : Jvm.MethodName)) ∈ wB := wB_T 293 (by decide +kernel) (by decide +kernel)
theorem m_294 : (Jvm.Cond.instanceMethod ({ cls := "MessageCodes", name := "trip", desc := "(J)I" } : Jvm.MethodName)) ∈ wB := wB_T 294 (by decide +kernel) (by decide +kernel)
theorem m_295 : (Jvm.Cond.selects "MessageCodes" ({ cls := "MessageCodes", name := "trip", desc := "(J)I" } : Jvm.MethodName) ({ cls := "MessageCodes", name := "trip", desc := "(J)I" } : Jvm.MethodName)) ∈ wB := wB_T 295 (by decide +kernel) (by decide +kernel)
theorem m_296 : (Jvm.Cond.code ({ cls := "MessageCodes", name := "trip", desc := "(J)I" } : Jvm.MethodName) prog_1_method_11_code (5 : Nat) (Option.some Jvm.ClassFile.FieldType.int)) ∈ wB := wB_T 296 (by decide +kernel) (by decide +kernel)
theorem m_297 : (Jvm.Cond.constantLong "MessageCodes" (146 : Nat) (4294967295 : Int64)) ∈ wB := wB_T 297 (by decide +kernel) (by decide +kernel)
theorem m_298 : (Jvm.Cond.methodLink "MessageCodes" (151 : Nat) ({ cls := "MessageCodes$Sender", name := "beginTrip", desc := "()V" } : Jvm.MethodName)) ∈ wB := wB_T 298 (by decide +kernel) (by decide +kernel)
theorem m_299 : (Jvm.Cond.instanceMethod ({ cls := "MessageCodes$Sender", name := "beginTrip", desc := "()V" } : Jvm.MethodName)) ∈ wB := wB_T 299 (by decide +kernel) (by decide +kernel)
theorem m_300 : (Jvm.Cond.selects "MessageCodes$Sender" ({ cls := "MessageCodes$Sender", name := "beginTrip", desc := "()V" } : Jvm.MethodName) ({ cls := "MessageCodes$Sender", name := "beginTrip", desc := "()V" } : Jvm.MethodName)) ∈ wB := wB_T 300 (by decide +kernel) (by decide +kernel)
theorem m_301 : (Jvm.Cond.code ({ cls := "MessageCodes$Sender", name := "beginTrip", desc := "()V" } : Jvm.MethodName) prog_5_method_8_code (1 : Nat) (Option.none : Option Jvm.ClassFile.FieldType)) ∈ wB := wB_T 301 (by decide +kernel) (by decide +kernel)
theorem m_302 : (Jvm.Cond.methodLink "MessageCodesLaw" (75 : Nat) ({ cls := "MessageCodes", name := "encipher", desc := "(I)I" } : Jvm.MethodName)) ∈ wB := wB_T 302 (by decide +kernel) (by decide +kernel)
theorem m_303 : (Jvm.Cond.instanceMethod ({ cls := "MessageCodes", name := "encipher", desc := "(I)I" } : Jvm.MethodName)) ∈ wB := wB_T 303 (by decide +kernel) (by decide +kernel)
theorem m_304 : (Jvm.Cond.selects "MessageCodes" ({ cls := "MessageCodes", name := "encipher", desc := "(I)I" } : Jvm.MethodName) ({ cls := "MessageCodes", name := "encipher", desc := "(I)I" } : Jvm.MethodName)) ∈ wB := wB_T 304 (by decide +kernel) (by decide +kernel)
theorem m_305 : (Jvm.Cond.code ({ cls := "MessageCodes", name := "encipher", desc := "(I)I" } : Jvm.MethodName) prog_1_method_12_code (4 : Nat) (Option.some Jvm.ClassFile.FieldType.int)) ∈ wB := wB_T 305 (by decide +kernel) (by decide +kernel)
theorem m_306 : (Jvm.Cond.methodLink "MessageCodesLaw" (79 : Nat) ({ cls := "MessageCodes", name := "may", desc := "(IIZ)I" } : Jvm.MethodName)) ∈ wB := wB_T 306 (by decide +kernel) (by decide +kernel)
theorem m_307 : (Jvm.Cond.instanceMethod ({ cls := "MessageCodes", name := "may", desc := "(IIZ)I" } : Jvm.MethodName)) ∈ wB := wB_T 307 (by decide +kernel) (by decide +kernel)
theorem m_308 : (Jvm.Cond.selects "MessageCodes" ({ cls := "MessageCodes", name := "may", desc := "(IIZ)I" } : Jvm.MethodName) ({ cls := "MessageCodes", name := "may", desc := "(IIZ)I" } : Jvm.MethodName)) ∈ wB := wB_T 308 (by decide +kernel) (by decide +kernel)
theorem m_309 : (Jvm.Cond.code ({ cls := "MessageCodes", name := "may", desc := "(IIZ)I" } : Jvm.MethodName) prog_1_method_13_code (5 : Nat) (Option.some Jvm.ClassFile.FieldType.int)) ∈ wB := wB_T 309 (by decide +kernel) (by decide +kernel)
theorem m_310 : (Jvm.Cond.methodLink "MessageCodes" (154 : Nat) ({ cls := "MessageCodes$Sender", name := "allow", desc := "(IZ)V" } : Jvm.MethodName)) ∈ wB := wB_T 310 (by decide +kernel) (by decide +kernel)
theorem m_311 : (Jvm.Cond.instanceMethod ({ cls := "MessageCodes$Sender", name := "allow", desc := "(IZ)V" } : Jvm.MethodName)) ∈ wB := wB_T 311 (by decide +kernel) (by decide +kernel)
theorem m_312 : (Jvm.Cond.selects "MessageCodes$Sender" ({ cls := "MessageCodes$Sender", name := "allow", desc := "(IZ)V" } : Jvm.MethodName) ({ cls := "MessageCodes$Sender", name := "allow", desc := "(IZ)V" } : Jvm.MethodName)) ∈ wB := wB_T 312 (by decide +kernel) (by decide +kernel)
theorem m_313 : (Jvm.Cond.code ({ cls := "MessageCodes$Sender", name := "allow", desc := "(IZ)V" } : Jvm.MethodName) prog_5_method_6_code (3 : Nat) (Option.none : Option Jvm.ClassFile.FieldType)) ∈ wB := wB_T 313 (by decide +kernel) (by decide +kernel)
theorem m_314 : (Jvm.Cond.methodLink "MessageCodes" (158 : Nat) ({ cls := "MessageCodes$Sender", name := "countOfKeys", desc := "()I" } : Jvm.MethodName)) ∈ wB := wB_T 314 (by decide +kernel) (by decide +kernel)
theorem m_315 : (Jvm.Cond.instanceMethod ({ cls := "MessageCodes$Sender", name := "countOfKeys", desc := "()I" } : Jvm.MethodName)) ∈ wB := wB_T 315 (by decide +kernel) (by decide +kernel)
theorem m_316 : (Jvm.Cond.selects "MessageCodes$Sender" ({ cls := "MessageCodes$Sender", name := "countOfKeys", desc := "()I" } : Jvm.MethodName) ({ cls := "MessageCodes$Sender", name := "countOfKeys", desc := "()I" } : Jvm.MethodName)) ∈ wB := wB_T 316 (by decide +kernel) (by decide +kernel)
theorem m_317 : (Jvm.Cond.code ({ cls := "MessageCodes$Sender", name := "countOfKeys", desc := "()I" } : Jvm.MethodName) prog_5_method_7_code (1 : Nat) (Option.some Jvm.ClassFile.FieldType.int)) ∈ wB := wB_T 317 (by decide +kernel) (by decide +kernel)
theorem m_318 : (Jvm.Cond.methodLink "MessageCodes$Sender" (27 : Nat) ({ cls := "java/lang/Integer", name := "bitCount", desc := "(I)I" } : Jvm.MethodName)) ∈ wB := wB_T 318 (by decide +kernel) (by decide +kernel)
theorem m_319 : (Jvm.Cond.static ({ cls := "java/lang/Integer", name := "bitCount", desc := "(I)I" } : Jvm.MethodName)) ∈ wB := wB_T 319 (by decide +kernel) (by decide +kernel)
theorem m_320 : (Jvm.Cond.code ({ cls := "java/lang/Integer", name := "bitCount", desc := "(I)I" } : Jvm.MethodName) prog_11_method_49_code (1 : Nat) (Option.some Jvm.ClassFile.FieldType.int)) ∈ wB := wB_T 320 (by decide +kernel) (by decide +kernel)
theorem m_321 : (Jvm.Cond.constant "java/lang/Integer" (265 : Nat) (1431655765 : Int32)) ∈ wB := wB_T 321 (by decide +kernel) (by decide +kernel)
theorem m_322 : (Jvm.Cond.constant "java/lang/Integer" (266 : Nat) (858993459 : Int32)) ∈ wB := wB_T 322 (by decide +kernel) (by decide +kernel)
theorem m_323 : (Jvm.Cond.constant "java/lang/Integer" (267 : Nat) (252645135 : Int32)) ∈ wB := wB_T 323 (by decide +kernel) (by decide +kernel)
theorem m_328 : (Jvm.Cond.instantiable "java/lang/ArrayIndexOutOfBoundsException" (6 : Nat)) ∈ wB := wB_T 328 (by decide +kernel) (by decide +kernel)
theorem m_329 : (Jvm.Cond.instanceMethod ({ cls := "java/lang/ArrayIndexOutOfBoundsException", name := "<init>", desc := "(Ljava/lang/String;)V" } : Jvm.MethodName)) ∈ wB := wB_T 329 (by decide +kernel) (by decide +kernel)
theorem m_330 : (Jvm.Cond.code ({ cls := "java/lang/ArrayIndexOutOfBoundsException", name := "<init>", desc := "(Ljava/lang/String;)V" } : Jvm.MethodName) prog_8_method_2_code (2 : Nat) (Option.none : Option Jvm.ClassFile.FieldType)) ∈ wB := wB_T 330 (by decide +kernel) (by decide +kernel)
theorem m_356 : (Jvm.Cond.instantiable "java/lang/Throwable" (6 : Nat)) ∈ wB := wB_T 356 (by decide +kernel) (by decide +kernel)
theorem m_375 : (Jvm.Cond.superclass "java/lang/ArrayIndexOutOfBoundsException" "java/lang/IndexOutOfBoundsException") ∈ wB := wB_T 375 (by decide +kernel) (by decide +kernel)
theorem m_392 : (Jvm.Cond.superclass "java/lang/Throwable" "java/lang/Object") ∈ wB := wB_T 392 (by decide +kernel) (by decide +kernel)
theorem m_395 : (Jvm.Cond.instantiable "java/lang/String" (4 : Nat)) ∈ wB := wB_T 395 (by decide +kernel) (by decide +kernel)
theorem m_396 : (Jvm.Cond.arrayClass Jvm.ClassFile.FieldType.byte) ∈ wB := wB_T 396 (by decide +kernel) (by decide +kernel)
theorem m_401 : (Jvm.Cond.methodLink "MessageCodesLaw" (7 : Nat) ({ cls := "MessageCodes", name := "out", desc := "(I)B" } : Jvm.MethodName)) ∈ wB := wB_T 401 (by decide +kernel) (by decide +kernel)
theorem m_402 : (Jvm.Cond.instanceMethod ({ cls := "MessageCodes", name := "out", desc := "(I)B" } : Jvm.MethodName)) ∈ wB := wB_T 402 (by decide +kernel) (by decide +kernel)
theorem m_403 : (Jvm.Cond.selects "MessageCodes" ({ cls := "MessageCodes", name := "out", desc := "(I)B" } : Jvm.MethodName) ({ cls := "MessageCodes", name := "out", desc := "(I)B" } : Jvm.MethodName)) ∈ wB := wB_T 403 (by decide +kernel) (by decide +kernel)
theorem m_404 : (Jvm.Cond.code ({ cls := "MessageCodes", name := "out", desc := "(I)B" } : Jvm.MethodName) prog_1_method_6_code (2 : Nat) (Option.some Jvm.ClassFile.FieldType.byte)) ∈ wB := wB_T 404 (by decide +kernel) (by decide +kernel)
theorem m_405 : (Jvm.Cond.classLink "MessageCodes" (88 : Nat) "java/lang/ArrayIndexOutOfBoundsException") ∈ wB := wB_T 405 (by decide +kernel) (by decide +kernel)
theorem m_407 : (Jvm.Cond.methodLink "MessageCodes" (92 : Nat) ({ cls := "java/lang/ArrayIndexOutOfBoundsException", name := "<init>", desc := "(Ljava/lang/String;)V" } : Jvm.MethodName)) ∈ wB := wB_T 407 (by decide +kernel) (by decide +kernel)
theorem m_408 : (Jvm.Cond.classLink "MessageCodesLaw" (16 : Nat) "MessageCodesModel") ∈ wB := wB_T 408 (by decide +kernel) (by decide +kernel)
theorem m_409 : (Jvm.Cond.instantiable "MessageCodesModel" (19 : Nat)) ∈ wB := wB_T 409 (by decide +kernel) (by decide +kernel)
theorem m_410 : (Jvm.Cond.methodLink "MessageCodesLaw" (18 : Nat) ({ cls := "MessageCodesModel", name := "<init>", desc := "()V" } : Jvm.MethodName)) ∈ wB := wB_T 410 (by decide +kernel) (by decide +kernel)
theorem m_411 : (Jvm.Cond.instanceMethod ({ cls := "MessageCodesModel", name := "<init>", desc := "()V" } : Jvm.MethodName)) ∈ wB := wB_T 411 (by decide +kernel) (by decide +kernel)
theorem m_412 : (Jvm.Cond.code ({ cls := "MessageCodesModel", name := "<init>", desc := "()V" } : Jvm.MethodName) prog_7_method_1_code (2 : Nat) (Option.none : Option Jvm.ClassFile.FieldType)) ∈ wB := wB_T 412 (by decide +kernel) (by decide +kernel)
theorem m_413 : (Jvm.Cond.methodLink "MessageCodesModel" (1 : Nat) ({ cls := "java/lang/Object", name := "<init>", desc := "()V" } : Jvm.MethodName)) ∈ wB := wB_T 413 (by decide +kernel) (by decide +kernel)
theorem m_414 : (Jvm.Cond.methodLink "MessageCodesModel" (54 : Nat) ({ cls := "MessageCodesModel", name := "substituteOf", desc := "(I)I" } : Jvm.MethodName)) ∈ wB := wB_T 414 (by decide +kernel) (by decide +kernel)
theorem m_415 : (Jvm.Cond.static ({ cls := "MessageCodesModel", name := "substituteOf", desc := "(I)I" } : Jvm.MethodName)) ∈ wB := wB_T 415 (by decide +kernel) (by decide +kernel)
theorem m_416 : (Jvm.Cond.code ({ cls := "MessageCodesModel", name := "substituteOf", desc := "(I)I" } : Jvm.MethodName) prog_7_method_6_code (4 : Nat) (Option.some Jvm.ClassFile.FieldType.int)) ∈ wB := wB_T 416 (by decide +kernel) (by decide +kernel)
theorem m_417 : (Jvm.Cond.methodLink "MessageCodesModel" (65 : Nat) ({ cls := "MessageCodesModel", name := "product", desc := "(II)I" } : Jvm.MethodName)) ∈ wB := wB_T 417 (by decide +kernel) (by decide +kernel)
theorem m_418 : (Jvm.Cond.static ({ cls := "MessageCodesModel", name := "product", desc := "(II)I" } : Jvm.MethodName)) ∈ wB := wB_T 418 (by decide +kernel) (by decide +kernel)
theorem m_419 : (Jvm.Cond.code ({ cls := "MessageCodesModel", name := "product", desc := "(II)I" } : Jvm.MethodName) prog_7_method_5_code (5 : Nat) (Option.some Jvm.ClassFile.FieldType.int)) ∈ wB := wB_T 419 (by decide +kernel) (by decide +kernel)
theorem m_420 : (Jvm.Cond.fieldLink "MessageCodesModel" (58 : Nat) "MessageCodesModel" "code" "I") ∈ wB := wB_T 420 (by decide +kernel) (by decide +kernel)
theorem m_421 : (Jvm.Cond.fieldLink "MessageCodesModel" (62 : Nat) "MessageCodesModel" "keys" "I") ∈ wB := wB_T 421 (by decide +kernel) (by decide +kernel)
theorem m_422 : (Jvm.Cond.fieldLink "MessageCodesModel" (7 : Nat) "MessageCodesModel" "octets" "[I") ∈ wB := wB_T 422 (by decide +kernel) (by decide +kernel)
theorem m_423 : (Jvm.Cond.fieldLink "MessageCodesModel" (13 : Nat) "MessageCodesModel" "nextOctet" "[I") ∈ wB := wB_T 423 (by decide +kernel) (by decide +kernel)
theorem m_424 : (Jvm.Cond.fieldLink "MessageCodesModel" (16 : Nat) "MessageCodesModel" "installed" "[J") ∈ wB := wB_T 424 (by decide +kernel) (by decide +kernel)
theorem m_425 : (Jvm.Cond.fieldLink "MessageCodesModel" (20 : Nat) "MessageCodesModel" "message" "[I") ∈ wB := wB_T 425 (by decide +kernel) (by decide +kernel)
theorem m_426 : (Jvm.Cond.fieldLink "MessageCodesModel" (86 : Nat) "MessageCodesModel" "length" "I") ∈ wB := wB_T 426 (by decide +kernel) (by decide +kernel)
theorem m_427 : (Jvm.Cond.fieldLink "MessageCodesModel" (89 : Nat) "MessageCodesModel" "outSize" "I") ∈ wB := wB_T 427 (by decide +kernel) (by decide +kernel)
theorem m_428 : (Jvm.Cond.fieldLink "MessageCodesModel" (23 : Nat) "MessageCodesModel" "out" "[I") ∈ wB := wB_T 428 (by decide +kernel) (by decide +kernel)
theorem m_429 : (Jvm.Cond.fieldLink "MessageCodesModel" (112 : Nat) "MessageCodesModel" "trip" "J") ∈ wB := wB_T 429 (by decide +kernel) (by decide +kernel)
theorem m_430 : (Jvm.Cond.fieldLink "MessageCodesModel" (26 : Nat) "MessageCodesModel" "may" "[Z") ∈ wB := wB_T 430 (by decide +kernel) (by decide +kernel)
theorem m_431 : (Jvm.Cond.fieldLink "MessageCodesModel" (30 : Nat) "MessageCodesModel" "counter" "[J") ∈ wB := wB_T 431 (by decide +kernel) (by decide +kernel)
theorem m_432 : (Jvm.Cond.fieldLink "MessageCodesModel" (33 : Nat) "MessageCodesModel" "bad" "[I") ∈ wB := wB_T 432 (by decide +kernel) (by decide +kernel)
theorem m_433 : (Jvm.Cond.fieldLink "MessageCodesModel" (36 : Nat) "MessageCodesModel" "block" "[I") ∈ wB := wB_T 433 (by decide +kernel) (by decide +kernel)
theorem m_434 : (Jvm.Cond.fieldLink "MessageCodesModel" (39 : Nat) "MessageCodesModel" "other" "[I") ∈ wB := wB_T 434 (by decide +kernel) (by decide +kernel)
theorem m_435 : (Jvm.Cond.fieldLink "MessageCodesModel" (42 : Nat) "MessageCodesModel" "round" "[I") ∈ wB := wB_T 435 (by decide +kernel) (by decide +kernel)
theorem m_436 : (Jvm.Cond.fieldLink "MessageCodesModel" (45 : Nat) "MessageCodesModel" "mask" "[I") ∈ wB := wB_T 436 (by decide +kernel) (by decide +kernel)
theorem m_437 : (Jvm.Cond.fieldLink "MessageCodesModel" (48 : Nat) "MessageCodesModel" "row" "[I") ∈ wB := wB_T 437 (by decide +kernel) (by decide +kernel)
theorem m_438 : (Jvm.Cond.fieldLink "MessageCodesModel" (51 : Nat) "MessageCodesModel" "substitutes" "[I") ∈ wB := wB_T 438 (by decide +kernel) (by decide +kernel)
theorem m_477 : (Jvm.Cond.superclass "MessageCodesModel" "java/lang/Object") ∈ wB := wB_T 477 (by decide +kernel) (by decide +kernel)
theorem m_478 : (Jvm.Cond.arrayClass Jvm.ClassFile.FieldType.long) ∈ wB := wB_T 478 (by decide +kernel) (by decide +kernel)
theorem m_479 : (Jvm.Cond.arrayClass Jvm.ClassFile.FieldType.boolean) ∈ wB := wB_T 479 (by decide +kernel) (by decide +kernel)
theorem m_480 : (Jvm.Cond.methodLink "MessageCodesLaw" (45 : Nat) ({ cls := "MessageCodesModel", name := "thrown", desc := "()I" } : Jvm.MethodName)) ∈ wB := wB_T 480 (by decide +kernel) (by decide +kernel)
theorem m_481 : (Jvm.Cond.instanceMethod ({ cls := "MessageCodesModel", name := "thrown", desc := "()I" } : Jvm.MethodName)) ∈ wB := wB_T 481 (by decide +kernel) (by decide +kernel)
theorem m_482 : (Jvm.Cond.selects "MessageCodesModel" ({ cls := "MessageCodesModel", name := "thrown", desc := "()I" } : Jvm.MethodName) ({ cls := "MessageCodesModel", name := "thrown", desc := "()I" } : Jvm.MethodName)) ∈ wB := wB_T 482 (by decide +kernel) (by decide +kernel)
theorem m_483 : (Jvm.Cond.code ({ cls := "MessageCodesModel", name := "thrown", desc := "()I" } : Jvm.MethodName) prog_7_method_3_code (1 : Nat) (Option.some Jvm.ClassFile.FieldType.int)) ∈ wB := wB_T 483 (by decide +kernel) (by decide +kernel)
theorem m_484 : (Jvm.Cond.methodLink "MessageCodesLaw" (23 : Nat) ({ cls := "MessageCodesModel", name := "key", desc := "()I" } : Jvm.MethodName)) ∈ wB := wB_T 484 (by decide +kernel) (by decide +kernel)
theorem m_485 : (Jvm.Cond.instanceMethod ({ cls := "MessageCodesModel", name := "key", desc := "()I" } : Jvm.MethodName)) ∈ wB := wB_T 485 (by decide +kernel) (by decide +kernel)
theorem m_486 : (Jvm.Cond.selects "MessageCodesModel" ({ cls := "MessageCodesModel", name := "key", desc := "()I" } : Jvm.MethodName) ({ cls := "MessageCodesModel", name := "key", desc := "()I" } : Jvm.MethodName)) ∈ wB := wB_T 486 (by decide +kernel) (by decide +kernel)
theorem m_487 : (Jvm.Cond.code ({ cls := "MessageCodesModel", name := "key", desc := "()I" } : Jvm.MethodName) prog_7_method_11_code (1 : Nat) (Option.some Jvm.ClassFile.FieldType.int)) ∈ wB := wB_T 487 (by decide +kernel) (by decide +kernel)
theorem m_488 : (Jvm.Cond.methodLink "MessageCodesLaw" (28 : Nat) ({ cls := "MessageCodesModel", name := "keyByte", desc := "(IB)V" } : Jvm.MethodName)) ∈ wB := wB_T 488 (by decide +kernel) (by decide +kernel)
theorem m_489 : (Jvm.Cond.instanceMethod ({ cls := "MessageCodesModel", name := "keyByte", desc := "(IB)V" } : Jvm.MethodName)) ∈ wB := wB_T 489 (by decide +kernel) (by decide +kernel)
theorem m_490 : (Jvm.Cond.selects "MessageCodesModel" ({ cls := "MessageCodesModel", name := "keyByte", desc := "(IB)V" } : Jvm.MethodName) ({ cls := "MessageCodesModel", name := "keyByte", desc := "(IB)V" } : Jvm.MethodName)) ∈ wB := wB_T 490 (by decide +kernel) (by decide +kernel)
theorem m_491 : (Jvm.Cond.code ({ cls := "MessageCodesModel", name := "keyByte", desc := "(IB)V" } : Jvm.MethodName) prog_7_method_12_code (3 : Nat) (Option.none : Option Jvm.ClassFile.FieldType)) ∈ wB := wB_T 491 (by decide +kernel) (by decide +kernel)
theorem m_492 : (Jvm.Cond.methodLink "MessageCodesModel" (82 : Nat) ({ cls := "MessageCodesModel", name := "noKey", desc := "(I)Z" } : Jvm.MethodName)) ∈ wB := wB_T 492 (by decide +kernel) (by decide +kernel)
theorem m_494 : (Jvm.Cond.instanceMethod ({ cls := "MessageCodesModel", name := "noKey", desc := "(I)Z" } : Jvm.MethodName)) ∈ wB := wB_T 494 (by decide +kernel) (by decide +kernel)
theorem m_495 : (Jvm.Cond.code ({ cls := "MessageCodesModel", name := "noKey", desc := "(I)Z" } : Jvm.MethodName) prog_7_method_4_code (2 : Nat) (Option.some Jvm.ClassFile.FieldType.boolean)) ∈ wB := wB_T 495 (by decide +kernel) (by decide +kernel)
theorem m_496 : (Jvm.Cond.methodLink "MessageCodesLaw" (33 : Nat) ({ cls := "MessageCodesModel", name := "octet", desc := "(B)V" } : Jvm.MethodName)) ∈ wB := wB_T 496 (by decide +kernel) (by decide +kernel)
theorem m_497 : (Jvm.Cond.instanceMethod ({ cls := "MessageCodesModel", name := "octet", desc := "(B)V" } : Jvm.MethodName)) ∈ wB := wB_T 497 (by decide +kernel) (by decide +kernel)
theorem m_498 : (Jvm.Cond.selects "MessageCodesModel" ({ cls := "MessageCodesModel", name := "octet", desc := "(B)V" } : Jvm.MethodName) ({ cls := "MessageCodesModel", name := "octet", desc := "(B)V" } : Jvm.MethodName)) ∈ wB := wB_T 498 (by decide +kernel) (by decide +kernel)
theorem m_499 : (Jvm.Cond.code ({ cls := "MessageCodesModel", name := "octet", desc := "(B)V" } : Jvm.MethodName) prog_7_method_13_code (2 : Nat) (Option.none : Option Jvm.ClassFile.FieldType)) ∈ wB := wB_T 499 (by decide +kernel) (by decide +kernel)
theorem m_500 : (Jvm.Cond.methodLink "MessageCodesLaw" (38 : Nat) ({ cls := "MessageCodesModel", name := "code", desc := "(II)I" } : Jvm.MethodName)) ∈ wB := wB_T 500 (by decide +kernel) (by decide +kernel)
theorem m_501 : (Jvm.Cond.instanceMethod ({ cls := "MessageCodesModel", name := "code", desc := "(II)I" } : Jvm.MethodName)) ∈ wB := wB_T 501 (by decide +kernel) (by decide +kernel)
theorem m_502 : (Jvm.Cond.selects "MessageCodesModel" ({ cls := "MessageCodesModel", name := "code", desc := "(II)I" } : Jvm.MethodName) ({ cls := "MessageCodesModel", name := "code", desc := "(II)I" } : Jvm.MethodName)) ∈ wB := wB_T 502 (by decide +kernel) (by decide +kernel)
theorem m_503 : (Jvm.Cond.code ({ cls := "MessageCodesModel", name := "code", desc := "(II)I" } : Jvm.MethodName) prog_7_method_15_code (5 : Nat) (Option.some Jvm.ClassFile.FieldType.int)) ∈ wB := wB_T 503 (by decide +kernel) (by decide +kernel)
theorem m_504 : (Jvm.Cond.methodLink "MessageCodesModel" (92 : Nat) ({ cls := "MessageCodesModel", name := "codeOf", desc := "(II)V" } : Jvm.MethodName)) ∈ wB := wB_T 504 (by decide +kernel) (by decide +kernel)
theorem m_506 : (Jvm.Cond.instanceMethod ({ cls := "MessageCodesModel", name := "codeOf", desc := "(II)V" } : Jvm.MethodName)) ∈ wB := wB_T 506 (by decide +kernel) (by decide +kernel)
theorem m_507 : (Jvm.Cond.code ({ cls := "MessageCodesModel", name := "codeOf", desc := "(II)V" } : Jvm.MethodName) prog_7_method_10_code (8 : Nat) (Option.none : Option Jvm.ClassFile.FieldType)) ∈ wB := wB_T 507 (by decide +kernel) (by decide +kernel)
theorem m_508 : (Jvm.Cond.methodLink "MessageCodesModel" (76 : Nat) ({ cls := "MessageCodesModel", name := "cipher", desc := "(I)V" } : Jvm.MethodName)) ∈ wB := wB_T 508 (by decide +kernel) (by decide +kernel)
theorem m_510 : (Jvm.Cond.instanceMethod ({ cls := "MessageCodesModel", name := "cipher", desc := "(I)V" } : Jvm.MethodName)) ∈ wB := wB_T 510 (by decide +kernel) (by decide +kernel)
theorem m_511 : (Jvm.Cond.code ({ cls := "MessageCodesModel", name := "cipher", desc := "(I)V" } : Jvm.MethodName) prog_7_method_8_code (6 : Nat) (Option.none : Option Jvm.ClassFile.FieldType)) ∈ wB := wB_T 511 (by decide +kernel) (by decide +kernel)
theorem m_512 : (Jvm.Cond.methodLink "MessageCodesModel" (72 : Nat) ({ cls := "MessageCodesModel", name := "makeRound", desc := "(I)V" } : Jvm.MethodName)) ∈ wB := wB_T 512 (by decide +kernel) (by decide +kernel)
theorem m_514 : (Jvm.Cond.instanceMethod ({ cls := "MessageCodesModel", name := "makeRound", desc := "(I)V" } : Jvm.MethodName)) ∈ wB := wB_T 514 (by decide +kernel) (by decide +kernel)
theorem m_515 : (Jvm.Cond.code ({ cls := "MessageCodesModel", name := "makeRound", desc := "(I)V" } : Jvm.MethodName) prog_7_method_7_code (7 : Nat) (Option.none : Option Jvm.ClassFile.FieldType)) ∈ wB := wB_T 515 (by decide +kernel) (by decide +kernel)
theorem m_516 : (Jvm.Cond.methodLink "MessageCodesModel" (69 : Nat) ({ cls := "MessageCodesModel", name := "substitute", desc := "(I)I" } : Jvm.MethodName)) ∈ wB := wB_T 516 (by decide +kernel) (by decide +kernel)
theorem m_518 : (Jvm.Cond.instanceMethod ({ cls := "MessageCodesModel", name := "substitute", desc := "(I)I" } : Jvm.MethodName)) ∈ wB := wB_T 518 (by decide +kernel) (by decide +kernel)
theorem m_519 : (Jvm.Cond.code ({ cls := "MessageCodesModel", name := "substitute", desc := "(I)I" } : Jvm.MethodName) prog_7_method_2_code (2 : Nat) (Option.some Jvm.ClassFile.FieldType.int)) ∈ wB := wB_T 519 (by decide +kernel) (by decide +kernel)
theorem m_520 : (Jvm.Cond.methodLink "MessageCodesModel" (79 : Nat) ({ cls := "MessageCodesModel", name := "doubled", desc := "()V" } : Jvm.MethodName)) ∈ wB := wB_T 520 (by decide +kernel) (by decide +kernel)
theorem m_522 : (Jvm.Cond.instanceMethod ({ cls := "MessageCodesModel", name := "doubled", desc := "()V" } : Jvm.MethodName)) ∈ wB := wB_T 522 (by decide +kernel) (by decide +kernel)
theorem m_523 : (Jvm.Cond.code ({ cls := "MessageCodesModel", name := "doubled", desc := "()V" } : Jvm.MethodName) prog_7_method_9_code (4 : Nat) (Option.none : Option Jvm.ClassFile.FieldType)) ∈ wB := wB_T 523 (by decide +kernel) (by decide +kernel)
theorem m_524 : (Jvm.Cond.methodLink "MessageCodesModel" (96 : Nat) ({ cls := "MessageCodesModel", name := "tell", desc := "(I)I" } : Jvm.MethodName)) ∈ wB := wB_T 524 (by decide +kernel) (by decide +kernel)
theorem m_526 : (Jvm.Cond.instanceMethod ({ cls := "MessageCodesModel", name := "tell", desc := "(I)I" } : Jvm.MethodName)) ∈ wB := wB_T 526 (by decide +kernel) (by decide +kernel)
theorem m_527 : (Jvm.Cond.code ({ cls := "MessageCodesModel", name := "tell", desc := "(I)I" } : Jvm.MethodName) prog_7_method_14_code (3 : Nat) (Option.some Jvm.ClassFile.FieldType.int)) ∈ wB := wB_T 527 (by decide +kernel) (by decide +kernel)
theorem m_528 : (Jvm.Cond.methodLink "MessageCodesLaw" (44 : Nat) ({ cls := "MessageCodesModel", name := "out", desc := "(I)B" } : Jvm.MethodName)) ∈ wB := wB_T 528 (by decide +kernel) (by decide +kernel)
theorem m_529 : (Jvm.Cond.instanceMethod ({ cls := "MessageCodesModel", name := "out", desc := "(I)B" } : Jvm.MethodName)) ∈ wB := wB_T 529 (by decide +kernel) (by decide +kernel)
theorem m_530 : (Jvm.Cond.selects "MessageCodesModel" ({ cls := "MessageCodesModel", name := "out", desc := "(I)B" } : Jvm.MethodName) ({ cls := "MessageCodesModel", name := "out", desc := "(I)B" } : Jvm.MethodName)) ∈ wB := wB_T 530 (by decide +kernel) (by decide +kernel)
theorem m_531 : (Jvm.Cond.code ({ cls := "MessageCodesModel", name := "out", desc := "(I)B" } : Jvm.MethodName) prog_7_method_16_code (2 : Nat) (Option.some Jvm.ClassFile.FieldType.byte)) ∈ wB := wB_T 531 (by decide +kernel) (by decide +kernel)
theorem m_532 : (Jvm.Cond.methodLink "MessageCodesLaw" (78 : Nat) ({ cls := "MessageCodesModel", name := "encipher", desc := "(I)I" } : Jvm.MethodName)) ∈ wB := wB_T 532 (by decide +kernel) (by decide +kernel)
theorem m_533 : (Jvm.Cond.instanceMethod ({ cls := "MessageCodesModel", name := "encipher", desc := "(I)I" } : Jvm.MethodName)) ∈ wB := wB_T 533 (by decide +kernel) (by decide +kernel)
theorem m_534 : (Jvm.Cond.selects "MessageCodesModel" ({ cls := "MessageCodesModel", name := "encipher", desc := "(I)I" } : Jvm.MethodName) ({ cls := "MessageCodesModel", name := "encipher", desc := "(I)I" } : Jvm.MethodName)) ∈ wB := wB_T 534 (by decide +kernel) (by decide +kernel)
theorem m_535 : (Jvm.Cond.code ({ cls := "MessageCodesModel", name := "encipher", desc := "(I)I" } : Jvm.MethodName) prog_7_method_17_code (3 : Nat) (Option.some Jvm.ClassFile.FieldType.int)) ∈ wB := wB_T 535 (by decide +kernel) (by decide +kernel)
theorem m_536 : (Jvm.Cond.methodLink "MessageCodesLaw" (69 : Nat) ({ cls := "MessageCodesModel", name := "check", desc := "(I)I" } : Jvm.MethodName)) ∈ wB := wB_T 536 (by decide +kernel) (by decide +kernel)
theorem m_537 : (Jvm.Cond.instanceMethod ({ cls := "MessageCodesModel", name := "check", desc := "(I)I" } : Jvm.MethodName)) ∈ wB := wB_T 537 (by decide +kernel) (by decide +kernel)
theorem m_538 : (Jvm.Cond.selects "MessageCodesModel" ({ cls := "MessageCodesModel", name := "check", desc := "(I)I" } : Jvm.MethodName) ({ cls := "MessageCodesModel", name := "check", desc := "(I)I" } : Jvm.MethodName)) ∈ wB := wB_T 538 (by decide +kernel) (by decide +kernel)
theorem m_539 : (Jvm.Cond.code ({ cls := "MessageCodesModel", name := "check", desc := "(I)I" } : Jvm.MethodName) prog_7_method_18_code (3 : Nat) (Option.some Jvm.ClassFile.FieldType.int)) ∈ wB := wB_T 539 (by decide +kernel) (by decide +kernel)
theorem m_540 : (Jvm.Cond.methodLink "MessageCodesLaw" (54 : Nat) ({ cls := "MessageCodesModel", name := "fresh", desc := "(IJ)I" } : Jvm.MethodName)) ∈ wB := wB_T 540 (by decide +kernel) (by decide +kernel)
theorem m_541 : (Jvm.Cond.instanceMethod ({ cls := "MessageCodesModel", name := "fresh", desc := "(IJ)I" } : Jvm.MethodName)) ∈ wB := wB_T 541 (by decide +kernel) (by decide +kernel)
theorem m_542 : (Jvm.Cond.selects "MessageCodesModel" ({ cls := "MessageCodesModel", name := "fresh", desc := "(IJ)I" } : Jvm.MethodName) ({ cls := "MessageCodesModel", name := "fresh", desc := "(IJ)I" } : Jvm.MethodName)) ∈ wB := wB_T 542 (by decide +kernel) (by decide +kernel)
theorem m_543 : (Jvm.Cond.code ({ cls := "MessageCodesModel", name := "fresh", desc := "(IJ)I" } : Jvm.MethodName) prog_7_method_20_code (5 : Nat) (Option.some Jvm.ClassFile.FieldType.int)) ∈ wB := wB_T 543 (by decide +kernel) (by decide +kernel)
theorem m_544 : (Jvm.Cond.methodLink "MessageCodesModel" (99 : Nat) ({ cls := "MessageCodesModel", name := "noSender", desc := "(I)Z" } : Jvm.MethodName)) ∈ wB := wB_T 544 (by decide +kernel) (by decide +kernel)
theorem m_545 : (Jvm.Cond.static ({ cls := "MessageCodesModel", name := "noSender", desc := "(I)Z" } : Jvm.MethodName)) ∈ wB := wB_T 545 (by decide +kernel) (by decide +kernel)
theorem m_546 : (Jvm.Cond.code ({ cls := "MessageCodesModel", name := "noSender", desc := "(I)Z" } : Jvm.MethodName) prog_7_method_19_code (1 : Nat) (Option.some Jvm.ClassFile.FieldType.boolean)) ∈ wB := wB_T 546 (by decide +kernel) (by decide +kernel)
theorem m_547 : (Jvm.Cond.constantLong "MessageCodesModel" (102 : Nat) (4611686018427387904 : Int64)) ∈ wB := wB_T 547 (by decide +kernel) (by decide +kernel)
theorem m_548 : (Jvm.Cond.methodLink "MessageCodesLaw" (59 : Nat) ({ cls := "MessageCodesModel", name := "verify", desc := "(III)I" } : Jvm.MethodName)) ∈ wB := wB_T 548 (by decide +kernel) (by decide +kernel)
theorem m_549 : (Jvm.Cond.instanceMethod ({ cls := "MessageCodesModel", name := "verify", desc := "(III)I" } : Jvm.MethodName)) ∈ wB := wB_T 549 (by decide +kernel) (by decide +kernel)
theorem m_550 : (Jvm.Cond.selects "MessageCodesModel" ({ cls := "MessageCodesModel", name := "verify", desc := "(III)I" } : Jvm.MethodName) ({ cls := "MessageCodesModel", name := "verify", desc := "(III)I" } : Jvm.MethodName)) ∈ wB := wB_T 550 (by decide +kernel) (by decide +kernel)
theorem m_551 : (Jvm.Cond.code ({ cls := "MessageCodesModel", name := "verify", desc := "(III)I" } : Jvm.MethodName) prog_7_method_23_code (7 : Nat) (Option.some Jvm.ClassFile.FieldType.int)) ∈ wB := wB_T 551 (by decide +kernel) (by decide +kernel)
theorem m_552 : (Jvm.Cond.constantLong "MessageCodesModel" (104 : Nat) (255 : Int64)) ∈ wB := wB_T 552 (by decide +kernel) (by decide +kernel)
theorem m_553 : (Jvm.Cond.constantLong "MessageCodesModel" (106 : Nat) (256 : Int64)) ∈ wB := wB_T 553 (by decide +kernel) (by decide +kernel)
theorem m_554 : (Jvm.Cond.methodLink "MessageCodesModel" (108 : Nat) ({ cls := "MessageCodesModel", name := "number", desc := "(JII)V" } : Jvm.MethodName)) ∈ wB := wB_T 554 (by decide +kernel) (by decide +kernel)
theorem m_556 : (Jvm.Cond.instanceMethod ({ cls := "MessageCodesModel", name := "number", desc := "(JII)V" } : Jvm.MethodName)) ∈ wB := wB_T 556 (by decide +kernel) (by decide +kernel)
theorem m_557 : (Jvm.Cond.code ({ cls := "MessageCodesModel", name := "number", desc := "(JII)V" } : Jvm.MethodName) prog_7_method_21_code (6 : Nat) (Option.none : Option Jvm.ClassFile.FieldType)) ∈ wB := wB_T 557 (by decide +kernel) (by decide +kernel)
theorem m_558 : (Jvm.Cond.methodLink "MessageCodesModel" (116 : Nat) ({ cls := "MessageCodesModel", name := "fits", desc := "(I)Z" } : Jvm.MethodName)) ∈ wB := wB_T 558 (by decide +kernel) (by decide +kernel)
theorem m_560 : (Jvm.Cond.instanceMethod ({ cls := "MessageCodesModel", name := "fits", desc := "(I)Z" } : Jvm.MethodName)) ∈ wB := wB_T 560 (by decide +kernel) (by decide +kernel)
theorem m_561 : (Jvm.Cond.code ({ cls := "MessageCodesModel", name := "fits", desc := "(I)Z" } : Jvm.MethodName) prog_7_method_22_code (4 : Nat) (Option.some Jvm.ClassFile.FieldType.boolean)) ∈ wB := wB_T 561 (by decide +kernel) (by decide +kernel)
theorem m_562 : (Jvm.Cond.methodLink "MessageCodesLaw" (83 : Nat) ({ cls := "MessageCodesModel", name := "may", desc := "(IIZ)I" } : Jvm.MethodName)) ∈ wB := wB_T 562 (by decide +kernel) (by decide +kernel)
theorem m_563 : (Jvm.Cond.instanceMethod ({ cls := "MessageCodesModel", name := "may", desc := "(IIZ)I" } : Jvm.MethodName)) ∈ wB := wB_T 563 (by decide +kernel) (by decide +kernel)
theorem m_564 : (Jvm.Cond.selects "MessageCodesModel" ({ cls := "MessageCodesModel", name := "may", desc := "(IIZ)I" } : Jvm.MethodName) ({ cls := "MessageCodesModel", name := "may", desc := "(IIZ)I" } : Jvm.MethodName)) ∈ wB := wB_T 564 (by decide +kernel) (by decide +kernel)
theorem m_565 : (Jvm.Cond.code ({ cls := "MessageCodesModel", name := "may", desc := "(IIZ)I" } : Jvm.MethodName) prog_7_method_24_code (6 : Nat) (Option.some Jvm.ClassFile.FieldType.int)) ∈ wB := wB_T 565 (by decide +kernel) (by decide +kernel)
theorem m_566 : (Jvm.Cond.methodLink "MessageCodesLaw" (74 : Nat) ({ cls := "MessageCodesModel", name := "trip", desc := "(J)I" } : Jvm.MethodName)) ∈ wB := wB_T 566 (by decide +kernel) (by decide +kernel)
theorem m_567 : (Jvm.Cond.instanceMethod ({ cls := "MessageCodesModel", name := "trip", desc := "(J)I" } : Jvm.MethodName)) ∈ wB := wB_T 567 (by decide +kernel) (by decide +kernel)
theorem m_568 : (Jvm.Cond.selects "MessageCodesModel" ({ cls := "MessageCodesModel", name := "trip", desc := "(J)I" } : Jvm.MethodName) ({ cls := "MessageCodesModel", name := "trip", desc := "(J)I" } : Jvm.MethodName)) ∈ wB := wB_T 568 (by decide +kernel) (by decide +kernel)
theorem m_569 : (Jvm.Cond.code ({ cls := "MessageCodesModel", name := "trip", desc := "(J)I" } : Jvm.MethodName) prog_7_method_25_code (4 : Nat) (Option.some Jvm.ClassFile.FieldType.int)) ∈ wB := wB_T 569 (by decide +kernel) (by decide +kernel)
theorem m_570 : (Jvm.Cond.constantLong "MessageCodesModel" (119 : Nat) (4294967295 : Int64)) ∈ wB := wB_T 570 (by decide +kernel) (by decide +kernel)
theorem m_571 : (Jvm.Cond.methodLink "MessageCodesLaw" (64 : Nat) ({ cls := "MessageCodesModel", name := "install", desc := "(IIJ)I" } : Jvm.MethodName)) ∈ wB := wB_T 571 (by decide +kernel) (by decide +kernel)
theorem m_572 : (Jvm.Cond.instanceMethod ({ cls := "MessageCodesModel", name := "install", desc := "(IIJ)I" } : Jvm.MethodName)) ∈ wB := wB_T 572 (by decide +kernel) (by decide +kernel)
theorem m_573 : (Jvm.Cond.selects "MessageCodesModel" ({ cls := "MessageCodesModel", name := "install", desc := "(IIJ)I" } : Jvm.MethodName) ({ cls := "MessageCodesModel", name := "install", desc := "(IIJ)I" } : Jvm.MethodName)) ∈ wB := wB_T 573 (by decide +kernel) (by decide +kernel)
theorem m_574 : (Jvm.Cond.code ({ cls := "MessageCodesModel", name := "install", desc := "(IIJ)I" } : Jvm.MethodName) prog_7_method_26_code (6 : Nat) (Option.some Jvm.ClassFile.FieldType.int)) ∈ wB := wB_T 574 (by decide +kernel) (by decide +kernel)
theorem m_575 : (Jvm.Cond.constantLong "MessageCodesLaw" (48 : Nat) (4294967295 : Int64)) ∈ wB := wB_T 575 (by decide +kernel) (by decide +kernel)
theorem ms_0 : Cond.selects "MessageCodes" (⟨"MessageCodes", "findKey", "(I)LMessageCodes$Key;"⟩ : MethodName) (⟨"MessageCodes", "findKey", "(I)LMessageCodes$Key;"⟩ : MethodName) ∈ wB := wB_S 0 (by decide +kernel) (by decide +kernel)
theorem ms_1 : Cond.selects "MessageCodes$BlockCipher" (⟨"MessageCodes$BlockCipher", "putFirstWord", "(II)V"⟩ : MethodName) (⟨"MessageCodes$BlockCipher", "putFirstWord", "(II)V"⟩ : MethodName) ∈ wB := wB_S 1 (by decide +kernel) (by decide +kernel)
theorem ms_2 : Cond.selects "MessageCodes$Coder" (⟨"MessageCodes$Coder", "add", "(I)V"⟩ : MethodName) (⟨"MessageCodes$Coder", "add", "(I)V"⟩ : MethodName) ∈ wB := wB_S 2 (by decide +kernel) (by decide +kernel)
theorem ms_3 : Cond.selects "MessageCodes$BlockCipher" (⟨"MessageCodes$BlockCipher", "addRoundKey", "([II)V"⟩ : MethodName) (⟨"MessageCodes$BlockCipher", "addRoundKey", "([II)V"⟩ : MethodName) ∈ wB := wB_S 3 (by decide +kernel) (by decide +kernel)
theorem ms_4 : Cond.selects "MessageCodes$BlockCipher" (⟨"MessageCodes$BlockCipher", "substituteAndTurnRows", "([I)V"⟩ : MethodName) (⟨"MessageCodes$BlockCipher", "substituteAndTurnRows", "([I)V"⟩ : MethodName) ∈ wB := wB_S 4 (by decide +kernel) (by decide +kernel)
theorem ms_5 : Cond.selects "MessageCodes$Coder" (⟨"MessageCodes$Coder", "doubleSubkey", "()V"⟩ : MethodName) (⟨"MessageCodes$Coder", "doubleSubkey", "()V"⟩ : MethodName) ∈ wB := wB_S 5 (by decide +kernel) (by decide +kernel)
theorem ms_6 : Cond.selects "MessageCodes" (⟨"MessageCodes", "emptyMessage", "()V"⟩ : MethodName) (⟨"MessageCodes", "emptyMessage", "()V"⟩ : MethodName) ∈ wB := wB_S 6 (by decide +kernel) (by decide +kernel)
theorem ms_7 : Cond.selects "MessageCodes" (⟨"MessageCodes", "answerBits", "([II)V"⟩ : MethodName) (⟨"MessageCodes", "answerBits", "([II)V"⟩ : MethodName) ∈ wB := wB_S 7 (by decide +kernel) (by decide +kernel)
theorem ms_8 : Cond.selects "MessageCodes" (⟨"MessageCodes", "findSender", "(I)LMessageCodes$Sender;"⟩ : MethodName) (⟨"MessageCodes", "findSender", "(I)LMessageCodes$Sender;"⟩ : MethodName) ∈ wB := wB_S 8 (by decide +kernel) (by decide +kernel)
theorem ms_9 : Cond.selects "MessageCodes" (⟨"MessageCodes", "isCodedRow", "(LMessageCodes$Key;LMessageCodes$Sender;J)Z"⟩ : MethodName) (⟨"MessageCodes", "isCodedRow", "(LMessageCodes$Key;LMessageCodes$Sender;J)Z"⟩ : MethodName) ∈ wB := wB_S 9 (by decide +kernel) (by decide +kernel)
theorem ms_10 : Cond.selects "MessageCodes" (⟨"MessageCodes", "isWrappedKey", "(LMessageCodes$Key;J)Z"⟩ : MethodName) (⟨"MessageCodes", "isWrappedKey", "(LMessageCodes$Key;J)Z"⟩ : MethodName) ∈ wB := wB_S 10 (by decide +kernel) (by decide +kernel)
theorem ms_11 : Cond.selects "MessageCodes" (⟨"MessageCodes", "unwrap", "(LMessageCodes$Key;LMessageCodes$Key;J)V"⟩ : MethodName) (⟨"MessageCodes", "unwrap", "(LMessageCodes$Key;LMessageCodes$Key;J)V"⟩ : MethodName) ∈ wB := wB_S 11 (by decide +kernel) (by decide +kernel)
theorem ms_13 : Cond.selects "MessageCodesModel" (⟨"MessageCodesModel", "noKey", "(I)Z"⟩ : MethodName) (⟨"MessageCodesModel", "noKey", "(I)Z"⟩ : MethodName) ∈ wB := wB_S 13 (by decide +kernel) (by decide +kernel)
theorem ms_14 : Cond.selects "MessageCodesModel" (⟨"MessageCodesModel", "codeOf", "(II)V"⟩ : MethodName) (⟨"MessageCodesModel", "codeOf", "(II)V"⟩ : MethodName) ∈ wB := wB_S 14 (by decide +kernel) (by decide +kernel)
theorem ms_15 : Cond.selects "MessageCodesModel" (⟨"MessageCodesModel", "cipher", "(I)V"⟩ : MethodName) (⟨"MessageCodesModel", "cipher", "(I)V"⟩ : MethodName) ∈ wB := wB_S 15 (by decide +kernel) (by decide +kernel)
theorem ms_16 : Cond.selects "MessageCodesModel" (⟨"MessageCodesModel", "makeRound", "(I)V"⟩ : MethodName) (⟨"MessageCodesModel", "makeRound", "(I)V"⟩ : MethodName) ∈ wB := wB_S 16 (by decide +kernel) (by decide +kernel)
theorem ms_17 : Cond.selects "MessageCodesModel" (⟨"MessageCodesModel", "substitute", "(I)I"⟩ : MethodName) (⟨"MessageCodesModel", "substitute", "(I)I"⟩ : MethodName) ∈ wB := wB_S 17 (by decide +kernel) (by decide +kernel)
theorem ms_18 : Cond.selects "MessageCodesModel" (⟨"MessageCodesModel", "doubled", "()V"⟩ : MethodName) (⟨"MessageCodesModel", "doubled", "()V"⟩ : MethodName) ∈ wB := wB_S 18 (by decide +kernel) (by decide +kernel)
theorem ms_19 : Cond.selects "MessageCodesModel" (⟨"MessageCodesModel", "tell", "(I)I"⟩ : MethodName) (⟨"MessageCodesModel", "tell", "(I)I"⟩ : MethodName) ∈ wB := wB_S 19 (by decide +kernel) (by decide +kernel)
theorem ms_20 : Cond.selects "MessageCodesModel" (⟨"MessageCodesModel", "number", "(JII)V"⟩ : MethodName) (⟨"MessageCodesModel", "number", "(JII)V"⟩ : MethodName) ∈ wB := wB_S 20 (by decide +kernel) (by decide +kernel)
theorem ms_21 : Cond.selects "MessageCodesModel" (⟨"MessageCodesModel", "fits", "(I)Z"⟩ : MethodName) (⟨"MessageCodesModel", "fits", "(I)Z"⟩ : MethodName) ∈ wB := wB_S 21 (by decide +kernel) (by decide +kernel)
theorem inX0 : ∀ w ∈ u_ws RX0 TX0 2, w ∈ wB := wB_u [36, 38] (by decide +kernel) (by decide +kernel)
theorem inX1 : ∀ w ∈ u_ws RX1 TX1 4, w ∈ wB := wB_u [53, 55, 57, 59] (by decide +kernel) (by decide +kernel)
theorem inX2 : ∀ w ∈ u_ws RX2 TX2 3, w ∈ wB := wB_u [131, 133, 135] (by decide +kernel) (by decide +kernel)
theorem inX3 : ∀ w ∈ u_ws RX3 TX3 4, w ∈ wB := wB_u [73, 75, 77, 79] (by decide +kernel) (by decide +kernel)
theorem inX4 : ∀ w ∈ u_ws RX4 TX4 11, w ∈ wB := wB_u [93, 95, 97, 99, 101, 103, 105, 107, 109, 111, 113] (by decide +kernel) (by decide +kernel)
theorem inX5 : ∀ w ∈ u_ws RX5 TX5 19, w ∈ wB := wB_u [439, 441, 443, 445, 447, 449, 451, 453, 455, 457, 459, 461, 463, 465, 467, 469, 471, 473, 475] (by decide +kernel) (by decide +kernel)
theorem gi_X0_23 : GoodIn wB (wsV RX0 23 RX0 yX0_putFirstWord (wM yX0_putFirstWord cX0_putFirstWord 5 none)) := wB_g4 m_166 m_168 ms_1 m_2 m_169
theorem gi_X0_27 : GoodIn wB (wM yX4_timesT cX4_timesT 2 (some .int)) := wB_gM m_177
theorem gi_X0_27_s : Cond.static yX4_timesT ∈ wB := m_176
theorem gi_X0_27_i : Cond.initialized yX4_timesT.cls ∈ wB := m_1
theorem gi_X0_31 : GoodIn wB (wM yX4_substitute cX4_substitute 1 (some .int)) := wB_gM m_172
theorem gi_X0_31_s : Cond.static yX4_substitute ∈ wB := m_171
theorem gi_X0_31_i : Cond.initialized yX4_substitute.cls ∈ wB := m_1
theorem gi_X0_34 : GoodIn wB (wsV RX0 34 RX0 yX0_addRoundKey (wM yX0_addRoundKey cX0_addRoundKey 4 none)) := wB_g4 m_193 m_195 ms_3 m_2 m_196
theorem gi_X0_38 : GoodIn wB (wsV RX0 38 RX0 yX0_substituteAndTurnRows (wM yX0_substituteAndTurnRows cX0_substituteAndTurnRows 4 none)) := wB_g4 m_197 m_199 ms_4 m_2 m_200
theorem gi_X0_42 : GoodIn wB (va_wsS RX0 42 yX0_mixColumns (wM yX0_mixColumns cX0_mixColumns 7 none)) := wB_g3 m_201 m_202 m_2 m_203
theorem gi_X1_22 : GoodIn wB (wsV RX1 22 RX0 yX0_useKey (wM yX0_useKey cX0_useKey 5 none)) := wB_g4 m_162 m_163 m_164 m_2 m_165
theorem gi_X1_28 : GoodIn wB (va_wsS RX1 28 yJ7_fill_53178 (wM yJ7_fill_53178 cJ7_fill_53178 4 none)) := wB_g3 m_178 m_179 m_7 m_180
theorem gi_X1_38 : GoodIn wB (wsV RX1 38 RX1 yX1_add (wM yX1_add cX1_add 2 none)) := wB_g4 m_185 m_187 ms_2 m_3 m_188
theorem gi_X1_44 : GoodIn wB (wsV RX1 44 RX0 yX0_apply (wM yX0_apply cX0_apply 3 none)) := wB_g4 m_189 m_190 m_191 m_2 m_192
theorem gi_X1_48 : GoodIn wB (wsV RX1 48 RX1 yX1_doubleSubkey (wM yX1_doubleSubkey cX1_doubleSubkey 3 none)) := wB_g4 m_208 m_210 ms_5 m_3 m_211
theorem gi_X3_27 : GoodIn wB (va_wsS RX3 27 yJ6_bitCount_0f7a4 (wM yJ6_bitCount_0f7a4 cJ6_bitCount_0f7a4 1 (some .int))) := wB_g3 m_318 m_319 m_15 m_320
theorem gi_X4_33 : GoodIn wB (wM yX0_init cX0_init 1 none) := wB_gM m_32
theorem gi_X4_33_n : Cond.instanceMethod yX0_init ∈ wB := m_31
theorem gi_X4_33_i : Cond.initialized yX0_init.cls ∈ wB := m_2
theorem gi_X4_40 : GoodIn wB (wM yX1_init cX1_init 2 none) := wB_gM m_46
theorem gi_X4_40_n : Cond.instanceMethod yX1_init ∈ wB := m_45
theorem gi_X4_40_i : Cond.initialized yX1_init.cls ∈ wB := m_3
theorem gi_X4_40_l : Cond.methodLink RX4 40 yX1_init ∈ wB := m_44
theorem gi_X4_47 : GoodIn wB (wM yX3_init cX3_init 2 none) := wB_gM m_65
theorem gi_X4_47_n : Cond.instanceMethod yX3_init ∈ wB := m_64
theorem gi_X4_47_i : Cond.initialized yX3_init.cls ∈ wB := m_4
theorem gi_X4_47_l : Cond.methodLink RX4 47 yX3_init ∈ wB := m_63
theorem gi_X4_54 : GoodIn wB (wM yX2_init cX2_init 1 none) := wB_gM m_123
theorem gi_X4_54_n : Cond.instanceMethod yX2_init ∈ wB := m_122
theorem gi_X4_54_i : Cond.initialized yX2_init.cls ∈ wB := m_6
theorem gi_X4_55 : GoodIn wB (wsV RX4 55 RX4 yX4_findKey (wM yX4_findKey cX4_findKey 2 (some (.object "MessageCodes$Key")))) := wB_g4 m_142 m_144 ms_0 m_1 m_145
theorem gi_X4_59 : GoodIn wB (wsV RX4 59 RX2 yX2_putNext (wM yX2_putNext cX2_putNext 2 none)) := wB_g4 m_146 m_147 m_148 m_6 m_149
theorem gi_X4_65 : GoodIn wB (wsV RX4 65 RX1 yX1_begin (wM yX1_begin cX1_begin 2 none)) := wB_g4 m_158 m_159 m_160 m_3 m_161
theorem gi_X4_69 : GoodIn wB (wsV RX4 69 RX1 yX1_addOctets (wM yX1_addOctets cX1_addOctets 4 none)) := wB_g4 m_181 m_182 m_183 m_3 m_184
theorem gi_X4_73 : GoodIn wB (wsV RX4 73 RX1 yX1_finish (wM yX1_finish cX1_finish 2 none)) := wB_g4 m_204 m_205 m_206 m_3 m_207
theorem gi_X4_76 : GoodIn wB (wsV RX4 76 RX4 yX4_emptyMessage (wM yX4_emptyMessage cX4_emptyMessage 1 none)) := wB_g4 m_212 m_214 ms_6 m_1 m_215
theorem gi_X4_82 : GoodIn wB (wsV RX4 82 RX4 yX4_answerBits (wM yX4_answerBits cX4_answerBits 5 none)) := wB_g4 m_216 m_218 ms_7 m_1 m_219
theorem gi_X4_92 : GoodIn wB (wM yJx00060_init_a7421 cJx00060_init_a7421 2 none) := wB_gM m_330
theorem gi_X4_92_n : Cond.instanceMethod yJx00060_init_a7421 ∈ wB := m_329
theorem gi_X4_92_i : Cond.initialized yJx00060_init_a7421.cls ∈ wB := m_13
theorem gi_X4_92_l : Cond.methodLink RX4 92 yJx00060_init_a7421 ∈ wB := m_407
theorem gi_X4_95 : GoodIn wB (wsV RX4 95 RX4 yX4_findSender (wM yX4_findSender cX4_findSender 2 (some (.object "MessageCodes$Sender")))) := wB_g4 m_231 m_233 ms_8 m_1 m_234
theorem gi_X4_105 : GoodIn wB (wsV RX4 105 RX3 yX3_mayUse (wM yX3_mayUse cX3_mayUse 2 (some .boolean))) := wB_g4 m_240 m_241 m_242 m_4 m_243
theorem gi_X4_109 : GoodIn wB (wsV RX4 109 RX3 yX3_isBlocked (wM yX3_isBlocked cX3_isBlocked 1 (some .boolean))) := wB_g4 m_244 m_245 m_246 m_4 m_247
theorem gi_X4_113 : GoodIn wB (wsV RX4 113 RX3 yX3_stepsTo (wM yX3_stepsTo cX3_stepsTo 2 (some .int))) := wB_g4 m_248 m_249 m_250 m_4 m_251
theorem gi_X4_117 : GoodIn wB (wsV RX4 117 RX4 yX4_isCodedRow (wM yX4_isCodedRow cX4_isCodedRow 6 (some .boolean))) := wB_g4 m_253 m_255 ms_9 m_1 m_256
theorem gi_X4_121 : GoodIn wB (wsV RX4 121 RX3 yX3_endTry (wM yX3_endTry cX3_endTry 4 (some .int))) := wB_g4 m_266 m_267 m_268 m_4 m_269
theorem gi_X4_126 : GoodIn wB (wsV RX4 126 RX4 yX4_isWrappedKey (wM yX4_isWrappedKey cX4_isWrappedKey 4 (some .boolean))) := wB_g4 m_274 m_276 ms_10 m_1 m_277
theorem gi_X4_130 : GoodIn wB (wsV RX4 130 RX4 yX4_unwrap (wM yX4_unwrap cX4_unwrap 6 none)) := wB_g4 m_278 m_280 ms_11 m_1 m_281
theorem gi_X4_134 : GoodIn wB (va_wsS RX4 134 yJ7_fill_53178 (wM yJ7_fill_53178 cJ7_fill_53178 4 none)) := wB_g3 m_282 m_179 m_7 m_180
theorem gi_X4_139 : GoodIn wB (wsV RX4 139 RX0 yX0_useKey (wM yX0_useKey cX0_useKey 5 none)) := wB_g4 m_287 m_163 m_164 m_2 m_165
theorem gi_X4_142 : GoodIn wB (wsV RX4 142 RX0 yX0_apply (wM yX0_apply cX0_apply 3 none)) := wB_g4 m_288 m_190 m_191 m_2 m_192
theorem gi_X4_151 : GoodIn wB (wsV RX4 151 RX3 yX3_beginTrip (wM yX3_beginTrip cX3_beginTrip 1 none)) := wB_g4 m_298 m_299 m_300 m_4 m_301
theorem gi_X4_154 : GoodIn wB (wsV RX4 154 RX3 yX3_allow (wM yX3_allow cX3_allow 3 none)) := wB_g4 m_310 m_311 m_312 m_4 m_313
theorem gi_X4_158 : GoodIn wB (wsV RX4 158 RX3 yX3_countOfKeys (wM yX3_countOfKeys cX3_countOfKeys 1 (some .int))) := wB_g4 m_314 m_315 m_316 m_4 m_317
theorem gi_X4_162 : GoodIn wB (va_wsS RX4 162 yJ9_min_7cf53 (wM yJ9_min_7cf53 cJ9_min_7cf53 2 (some .int))) := wB_g3 m_220 m_221 m_8 m_222
theorem gi_X4_168 : GoodIn wB (va_wsS RX4 168 yJ9_max_7cf53 (wM yJ9_max_7cf53 cJ9_max_7cf53 2 (some .int))) := wB_g3 m_223 m_224 m_8 m_225
theorem gi_X4_175 : GoodIn wB (wsV RX4 175 RX1 yX1_addNumber (wM yX1_addNumber cX1_addNumber 5 none)) := wB_g4 m_257 m_258 m_259 m_3 m_260
theorem gi_X4_179 : GoodIn wB (wsV RX4 179 RX1 yX1_beginsLike (wM yX1_beginsLike cX1_beginsLike 4 (some .boolean))) := wB_g4 m_262 m_263 m_264 m_3 m_265
theorem gi_X4_183 : GoodIn wB (va_wsS RX4 183 yX4_putNumberAtEnd (wM yX4_putNumberAtEnd cX4_putNumberAtEnd 4 none)) := wB_g3 m_283 m_284 m_1 m_285
theorem gi_X5_54 : GoodIn wB (va_wsS RX5 54 yX5_substituteOf (wM yX5_substituteOf cX5_substituteOf 4 (some .int))) := wB_g3 m_414 m_415 m_5 m_416
theorem gi_X5_65 : GoodIn wB (va_wsS RX5 65 yX5_product (wM yX5_product cX5_product 5 (some .int))) := wB_g3 m_417 m_418 m_5 m_419
theorem gi_X5_69 : GoodIn wB (wsV RX5 69 RX5 yX5_substitute (wM yX5_substitute cX5_substitute 2 (some .int))) := wB_g4 m_516 m_518 ms_17 m_5 m_519
theorem gi_X5_72 : GoodIn wB (wsV RX5 72 RX5 yX5_makeRound (wM yX5_makeRound cX5_makeRound 7 none)) := wB_g4 m_512 m_514 ms_16 m_5 m_515
theorem gi_X5_76 : GoodIn wB (wsV RX5 76 RX5 yX5_cipher (wM yX5_cipher cX5_cipher 6 none)) := wB_g4 m_508 m_510 ms_15 m_5 m_511
theorem gi_X5_79 : GoodIn wB (wsV RX5 79 RX5 yX5_doubled (wM yX5_doubled cX5_doubled 4 none)) := wB_g4 m_520 m_522 ms_18 m_5 m_523
theorem gi_X5_82 : GoodIn wB (wsV RX5 82 RX5 yX5_noKey (wM yX5_noKey cX5_noKey 2 (some .boolean))) := wB_g4 m_492 m_494 ms_13 m_5 m_495
theorem gi_X5_92 : GoodIn wB (wsV RX5 92 RX5 yX5_codeOf (wM yX5_codeOf cX5_codeOf 8 none)) := wB_g4 m_504 m_506 ms_14 m_5 m_507
theorem gi_X5_96 : GoodIn wB (wsV RX5 96 RX5 yX5_tell (wM yX5_tell cX5_tell 3 (some .int))) := wB_g4 m_524 m_526 ms_19 m_5 m_527
theorem gi_X5_99 : GoodIn wB (va_wsS RX5 99 yX5_noSender (wM yX5_noSender cX5_noSender 1 (some .boolean))) := wB_g3 m_544 m_545 m_5 m_546
theorem gi_X5_108 : GoodIn wB (wsV RX5 108 RX5 yX5_number (wM yX5_number cX5_number 6 none)) := wB_g4 m_554 m_556 ms_20 m_5 m_557
theorem gi_X5_116 : GoodIn wB (wsV RX5 116 RX5 yX5_fits (wM yX5_fits cX5_fits 4 (some .boolean))) := wB_g4 m_558 m_560 ms_21 m_5 m_561
theorem gi_L_7 : GoodIn wB (wsV RL 7 RX4 yX4_out (wM yX4_out cX4_out 2 (some .byte))) := wB_g4 m_401 m_402 m_403 m_1 m_404
theorem gi_L_15 : GoodIn wB (wM yX4_init cX4_init 2 none) := wB_gM m_20
theorem gi_L_15_n : Cond.instanceMethod yX4_init ∈ wB := m_19
theorem gi_L_15_i : Cond.initialized yX4_init.cls ∈ wB := m_1
theorem gi_L_15_l : Cond.methodLink RL 15 yX4_init ∈ wB := m_18
theorem gi_L_18 : GoodIn wB (wM yX5_init cX5_init 2 none) := wB_gM m_412
theorem gi_L_18_n : Cond.instanceMethod yX5_init ∈ wB := m_411
theorem gi_L_18_i : Cond.initialized yX5_init.cls ∈ wB := m_5
theorem gi_L_18_l : Cond.methodLink RL 18 yX5_init ∈ wB := m_410
theorem gi_L_19 : GoodIn wB (wsV RL 19 RX4 yX4_key (wM yX4_key cX4_key 1 (some .int))) := wB_g4 m_116 m_117 m_118 m_1 m_119
theorem gi_L_23 : GoodIn wB (wsV RL 23 RX5 yX5_key (wM yX5_key cX5_key 1 (some .int))) := wB_g4 m_484 m_485 m_486 m_5 m_487
theorem gi_L_24 : GoodIn wB (wsV RL 24 RX4 yX4_keyByte (wM yX4_keyByte cX4_keyByte 4 none)) := wB_g4 m_138 m_139 m_140 m_1 m_141
theorem gi_L_28 : GoodIn wB (wsV RL 28 RX5 yX5_keyByte (wM yX5_keyByte cX5_keyByte 3 none)) := wB_g4 m_488 m_489 m_490 m_5 m_491
theorem gi_L_29 : GoodIn wB (wsV RL 29 RX4 yX4_octet (wM yX4_octet cX4_octet 2 none)) := wB_g4 m_150 m_151 m_152 m_1 m_153
theorem gi_L_33 : GoodIn wB (wsV RL 33 RX5 yX5_octet (wM yX5_octet cX5_octet 2 none)) := wB_g4 m_496 m_497 m_498 m_5 m_499
theorem gi_L_34 : GoodIn wB (wsV RL 34 RX4 yX4_code (wM yX4_code cX4_code 4 (some .int))) := wB_g4 m_154 m_155 m_156 m_1 m_157
theorem gi_L_38 : GoodIn wB (wsV RL 38 RX5 yX5_code (wM yX5_code cX5_code 5 (some .int))) := wB_g4 m_500 m_501 m_502 m_5 m_503
theorem gi_L_44 : GoodIn wB (wsV RL 44 RX5 yX5_out (wM yX5_out cX5_out 2 (some .byte))) := wB_g4 m_528 m_529 m_530 m_5 m_531
theorem gi_L_45 : GoodIn wB (wsV RL 45 RX5 yX5_thrown (wM yX5_thrown cX5_thrown 1 (some .int))) := wB_g4 m_480 m_481 m_482 m_5 m_483
theorem gi_L_50 : GoodIn wB (wsV RL 50 RX4 yX4_fresh (wM yX4_fresh cX4_fresh 5 (some .int))) := wB_g4 m_227 m_228 m_229 m_1 m_230
theorem gi_L_54 : GoodIn wB (wsV RL 54 RX5 yX5_fresh (wM yX5_fresh cX5_fresh 5 (some .int))) := wB_g4 m_540 m_541 m_542 m_5 m_543
theorem gi_L_55 : GoodIn wB (wsV RL 55 RX4 yX4_verify (wM yX4_verify cX4_verify 10 (some .int))) := wB_g4 m_236 m_237 m_238 m_1 m_239
theorem gi_L_59 : GoodIn wB (wsV RL 59 RX5 yX5_verify (wM yX5_verify cX5_verify 7 (some .int))) := wB_g4 m_548 m_549 m_550 m_5 m_551
theorem gi_L_60 : GoodIn wB (wsV RL 60 RX4 yX4_install (wM yX4_install cX4_install 8 (some .int))) := wB_g4 m_270 m_271 m_272 m_1 m_273
theorem gi_L_64 : GoodIn wB (wsV RL 64 RX5 yX5_install (wM yX5_install cX5_install 6 (some .int))) := wB_g4 m_571 m_572 m_573 m_5 m_574
theorem gi_L_65 : GoodIn wB (wsV RL 65 RX4 yX4_check (wM yX4_check cX4_check 3 (some .int))) := wB_g4 m_289 m_290 m_291 m_1 m_292
theorem gi_L_69 : GoodIn wB (wsV RL 69 RX5 yX5_check (wM yX5_check cX5_check 3 (some .int))) := wB_g4 m_536 m_537 m_538 m_5 m_539
theorem gi_L_70 : GoodIn wB (wsV RL 70 RX4 yX4_trip (wM yX4_trip cX4_trip 5 (some .int))) := wB_g4 m_293 m_294 m_295 m_1 m_296
theorem gi_L_74 : GoodIn wB (wsV RL 74 RX5 yX5_trip (wM yX5_trip cX5_trip 4 (some .int))) := wB_g4 m_566 m_567 m_568 m_5 m_569
theorem gi_L_75 : GoodIn wB (wsV RL 75 RX4 yX4_encipher (wM yX4_encipher cX4_encipher 4 (some .int))) := wB_g4 m_302 m_303 m_304 m_1 m_305
theorem gi_L_78 : GoodIn wB (wsV RL 78 RX5 yX5_encipher (wM yX5_encipher cX5_encipher 3 (some .int))) := wB_g4 m_532 m_533 m_534 m_5 m_535
theorem gi_L_79 : GoodIn wB (wsV RL 79 RX4 yX4_may (wM yX4_may cX4_may 5 (some .int))) := wB_g4 m_306 m_307 m_308 m_1 m_309
theorem gi_L_83 : GoodIn wB (wsV RL 83 RX5 yX5_may (wM yX5_may cX5_may 6 (some .int))) := wB_g4 m_562 m_563 m_564 m_5 m_565
