abbrev cM_S_init : ByteArray := prog_9_method_1_code
def yM_S_init : MethodName := ⟨"NoteDocument$State", "<init>", "()V"⟩
theorem dM_S_init_0 : decode cM_S_init 0 = .ok (.aload_n 0, 1) := by decide +kernel
theorem dM_S_init_1 : decode cM_S_init 1 = .ok (.invokespecial 3, 3) := by decide +kernel
theorem wd_50 : (Jvm.Cond.methodLink "NoteDocument$State" (3 : Nat) ({ cls := "java/lang/Object", name := "<init>", desc := "()V" } : Jvm.MethodName)) ∈ BIG := big_t (List.mem_of_getElem? (i := 50) (by decide +kernel)) (by decide +kernel)
theorem wd_43 : (Jvm.Cond.instanceMethod ({ cls := "java/lang/Object", name := "<init>", desc := "()V" } : Jvm.MethodName)) ∈ BIG := big_t (List.mem_of_getElem? (i := 43) (by decide +kernel)) (by decide +kernel)
theorem wd_44 : (Jvm.Cond.code ({ cls := "java/lang/Object", name := "<init>", desc := "()V" } : Jvm.MethodName) object_method_1_code (1 : Nat) (Option.none : Option Jvm.ClassFile.FieldType)) ∈ BIG := big_t (List.mem_of_getElem? (i := 44) (by decide +kernel)) (by decide +kernel)
theorem dM_S_init_4 : decode cM_S_init 4 = .ok (.aload_n 0, 1) := by decide +kernel
theorem dM_S_init_5 : decode cM_S_init 5 = .ok (.iconst 4, 1) := by decide +kernel
theorem dM_S_init_6 : decode cM_S_init 6 = .ok (.newarray .int, 2) := by decide +kernel
theorem wd_169 : (Jvm.Cond.arrayClass Jvm.ClassFile.FieldType.int) ∈ BIG := big_t (List.mem_of_getElem? (i := 169) (by decide +kernel)) (by decide +kernel)
theorem dM_S_init_8 : decode cM_S_init 8 = .ok (.putfield 9, 3) := by decide +kernel
theorem wd_66 : (Jvm.Cond.fieldLink "NoteDocument$State" (9 : Nat) "NoteDocument$State" "columns" "[I") ∈ BIG := big_t (List.mem_of_getElem? (i := 66) (by decide +kernel)) (by decide +kernel)
theorem dM_S_init_11 : decode cM_S_init 11 = .ok (.aload_n 0, 1) := by decide +kernel
theorem dM_S_init_12 : decode cM_S_init 12 = .ok (.iconst 4, 1) := by decide +kernel
theorem dM_S_init_13 : decode cM_S_init 13 = .ok (.newarray .int, 2) := by decide +kernel
theorem dM_S_init_15 : decode cM_S_init 15 = .ok (.putfield 15, 3) := by decide +kernel
theorem wd_69 : (Jvm.Cond.fieldLink "NoteDocument$State" (15 : Nat) "NoteDocument$State" "rows" "[I") ∈ BIG := big_t (List.mem_of_getElem? (i := 69) (by decide +kernel)) (by decide +kernel)
theorem dM_S_init_18 : decode cM_S_init 18 = .ok (.aload_n 0, 1) := by decide +kernel
theorem dM_S_init_19 : decode cM_S_init 19 = .ok (.sipush 200, 3) := by decide +kernel
theorem dM_S_init_22 : decode cM_S_init 22 = .ok (.newarray .long, 2) := by decide +kernel
theorem wd_170 : (Jvm.Cond.arrayClass Jvm.ClassFile.FieldType.long) ∈ BIG := big_t (List.mem_of_getElem? (i := 170) (by decide +kernel)) (by decide +kernel)
theorem dM_S_init_24 : decode cM_S_init 24 = .ok (.putfield 18, 3) := by decide +kernel
theorem wd_74 : (Jvm.Cond.fieldLink "NoteDocument$State" (18 : Nat) "NoteDocument$State" "content" "[J") ∈ BIG := big_t (List.mem_of_getElem? (i := 74) (by decide +kernel)) (by decide +kernel)
theorem dM_S_init_27 : decode cM_S_init 27 = .ok (.aload_n 0, 1) := by decide +kernel
theorem dM_S_init_28 : decode cM_S_init 28 = .ok (.sipush 200, 3) := by decide +kernel
theorem dM_S_init_31 : decode cM_S_init 31 = .ok (.newarray .long, 2) := by decide +kernel
theorem dM_S_init_33 : decode cM_S_init 33 = .ok (.putfield 22, 3) := by decide +kernel
theorem wd_79 : (Jvm.Cond.fieldLink "NoteDocument$State" (22 : Nat) "NoteDocument$State" "held" "[J") ∈ BIG := big_t (List.mem_of_getElem? (i := 79) (by decide +kernel)) (by decide +kernel)
theorem dM_S_init_36 : decode cM_S_init 36 = .ok (.aload_n 0, 1) := by decide +kernel
theorem dM_S_init_37 : decode cM_S_init 37 = .ok (.sipush 600, 3) := by decide +kernel
theorem dM_S_init_40 : decode cM_S_init 40 = .ok (.newarray .long, 2) := by decide +kernel
theorem dM_S_init_42 : decode cM_S_init 42 = .ok (.putfield 25, 3) := by decide +kernel
theorem wd_84 : (Jvm.Cond.fieldLink "NoteDocument$State" (25 : Nat) "NoteDocument$State" "othe\x72" "[J") ∈ BIG := big_t (List.mem_of_getElem? (i := 84) (by decide +kernel)) (by decide +kernel)
theorem dM_S_init_45 : decode cM_S_init 45 = .ok (.aload_n 0, 1) := by decide +kernel
theorem dM_S_init_46 : decode cM_S_init 46 = .ok (.bipush 6, 2) := by decide +kernel
theorem dM_S_init_48 : decode cM_S_init 48 = .ok (.newarray .int, 2) := by decide +kernel
theorem dM_S_init_50 : decode cM_S_init 50 = .ok (.putfield 28, 3) := by decide +kernel
theorem wd_88 : (Jvm.Cond.fieldLink "NoteDocument$State" (28 : Nat) "NoteDocument$State" "named" "[I") ∈ BIG := big_t (List.mem_of_getElem? (i := 88) (by decide +kernel)) (by decide +kernel)
theorem dM_S_init_53 : decode cM_S_init 53 = .ok (.aload_n 0, 1) := by decide +kernel
theorem dM_S_init_54 : decode cM_S_init 54 = .ok (.iconst 4, 1) := by decide +kernel
theorem dM_S_init_55 : decode cM_S_init 55 = .ok (.newarray .int, 2) := by decide +kernel
theorem dM_S_init_57 : decode cM_S_init 57 = .ok (.putfield 31, 3) := by decide +kernel
theorem wd_91 : (Jvm.Cond.fieldLink "NoteDocument$State" (31 : Nat) "NoteDocument$State" "body" "[I") ∈ BIG := big_t (List.mem_of_getElem? (i := 91) (by decide +kernel)) (by decide +kernel)
theorem dM_S_init_60 : decode cM_S_init 60 = .ok (.aload_n 0, 1) := by decide +kernel
theorem dM_S_init_61 : decode cM_S_init 61 = .ok (.bipush 24, 2) := by decide +kernel
theorem dM_S_init_63 : decode cM_S_init 63 = .ok (.newarray .int, 2) := by decide +kernel
theorem dM_S_init_65 : decode cM_S_init 65 = .ok (.putfield 34, 3) := by decide +kernel
theorem wd_94 : (Jvm.Cond.fieldLink "NoteDocument$State" (34 : Nat) "NoteDocument$State" "parts" "[I") ∈ BIG := big_t (List.mem_of_getElem? (i := 94) (by decide +kernel)) (by decide +kernel)
theorem dM_S_init_68 : decode cM_S_init 68 = .ok (.aload_n 0, 1) := by decide +kernel
theorem dM_S_init_69 : decode cM_S_init 69 = .ok (.iconst 3, 1) := by decide +kernel
theorem dM_S_init_70 : decode cM_S_init 70 = .ok (.newarray .int, 2) := by decide +kernel
theorem dM_S_init_72 : decode cM_S_init 72 = .ok (.putfield 37, 3) := by decide +kernel
theorem wd_97 : (Jvm.Cond.fieldLink "NoteDocument$State" (37 : Nat) "NoteDocument$State" "partCount" "[I") ∈ BIG := big_t (List.mem_of_getElem? (i := 97) (by decide +kernel)) (by decide +kernel)
theorem dM_S_init_75 : decode cM_S_init 75 = .ok (.aload_n 0, 1) := by decide +kernel
theorem dM_S_init_76 : decode cM_S_init 76 = .ok (.sipush 150, 3) := by decide +kernel
theorem dM_S_init_79 : decode cM_S_init 79 = .ok (.newarray .int, 2) := by decide +kernel
theorem dM_S_init_81 : decode cM_S_init 81 = .ok (.putfield 40, 3) := by decide +kernel
theorem wd_101 : (Jvm.Cond.fieldLink "NoteDocument$State" (40 : Nat) "NoteDocument$State" "refRow" "[I") ∈ BIG := big_t (List.mem_of_getElem? (i := 101) (by decide +kernel)) (by decide +kernel)
theorem dM_S_init_84 : decode cM_S_init 84 = .ok (.aload_n 0, 1) := by decide +kernel
theorem dM_S_init_85 : decode cM_S_init 85 = .ok (.sipush 150, 3) := by decide +kernel
theorem dM_S_init_88 : decode cM_S_init 88 = .ok (.newarray .int, 2) := by decide +kernel
theorem dM_S_init_90 : decode cM_S_init 90 = .ok (.putfield 43, 3) := by decide +kernel
theorem wd_105 : (Jvm.Cond.fieldLink "NoteDocument$State" (43 : Nat) "NoteDocument$State" "refColumn" "[I") ∈ BIG := big_t (List.mem_of_getElem? (i := 105) (by decide +kernel)) (by decide +kernel)
theorem dM_S_init_93 : decode cM_S_init 93 = .ok (.aload_n 0, 1) := by decide +kernel
theorem dM_S_init_94 : decode cM_S_init 94 = .ok (.sipush 150, 3) := by decide +kernel
theorem dM_S_init_97 : decode cM_S_init 97 = .ok (.newarray .int, 2) := by decide +kernel
theorem dM_S_init_99 : decode cM_S_init 99 = .ok (.putfield 46, 3) := by decide +kernel
theorem wd_109 : (Jvm.Cond.fieldLink "NoteDocument$State" (46 : Nat) "NoteDocument$State" "refToRow" "[I") ∈ BIG := big_t (List.mem_of_getElem? (i := 109) (by decide +kernel)) (by decide +kernel)
theorem dM_S_init_102 : decode cM_S_init 102 = .ok (.aload_n 0, 1) := by decide +kernel
theorem dM_S_init_103 : decode cM_S_init 103 = .ok (.sipush 150, 3) := by decide +kernel
theorem dM_S_init_106 : decode cM_S_init 106 = .ok (.newarray .boolean, 2) := by decide +kernel
theorem wd_171 : (Jvm.Cond.arrayClass Jvm.ClassFile.FieldType.boolean) ∈ BIG := big_t (List.mem_of_getElem? (i := 171) (by decide +kernel)) (by decide +kernel)
theorem dM_S_init_108 : decode cM_S_init 108 = .ok (.putfield 49, 3) := by decide +kernel
theorem wd_113 : (Jvm.Cond.fieldLink "NoteDocument$State" (49 : Nat) "NoteDocument$State" "torn" "[Z") ∈ BIG := big_t (List.mem_of_getElem? (i := 113) (by decide +kernel)) (by decide +kernel)
theorem dM_S_init_111 : decode cM_S_init 111 = .ok (.aload_n 0, 1) := by decide +kernel
theorem dM_S_init_112 : decode cM_S_init 112 = .ok (.sipush 885, 3) := by decide +kernel
theorem dM_S_init_115 : decode cM_S_init 115 = .ok (.newarray .int, 2) := by decide +kernel
theorem dM_S_init_117 : decode cM_S_init 117 = .ok (.putfield 53, 3) := by decide +kernel
theorem wd_117 : (Jvm.Cond.fieldLink "NoteDocument$State" (53 : Nat) "NoteDocument$State" "record" "[I") ∈ BIG := big_t (List.mem_of_getElem? (i := 117) (by decide +kernel)) (by decide +kernel)
theorem dM_S_init_120 : decode cM_S_init 120 = .ok (.aload_n 0, 1) := by decide +kernel
theorem dM_S_init_121 : decode cM_S_init 121 = .ok (.getfield 18, 3) := by decide +kernel
theorem dM_S_init_124 : decode cM_S_init 124 = .ok (.ldc2_w 58, 3) := by decide +kernel
theorem wd_51 : (Jvm.Cond.constantLong "NoteDocument$State" (58 : Nat) (1125899906842624 : Int64)) ∈ BIG := big_t (List.mem_of_getElem? (i := 51) (by decide +kernel)) (by decide +kernel)
theorem dM_S_init_127 : decode cM_S_init 127 = .ok (.invokestatic 60, 3) := by decide +kernel
theorem wd_54 : (Jvm.Cond.code ({ cls := "java/util/Arrays", name := "fill", desc := "([JJ)V" } : Jvm.MethodName) prog_36_method_101_code (5 : Nat) (Option.none : Option Jvm.ClassFile.FieldType)) ∈ BIG := big_t (List.mem_of_getElem? (i := 54) (by decide +kernel)) (by decide +kernel)
theorem wd_3 : (Jvm.Cond.initialized "java/util/Arrays") ∈ BIG := big_t (List.mem_of_getElem? (i := 3) (by decide +kernel)) (by decide +kernel)
theorem wd_52 : (Jvm.Cond.methodLink "NoteDocument$State" (60 : Nat) ({ cls := "java/util/Arrays", name := "fill", desc := "([JJ)V" } : Jvm.MethodName)) ∈ BIG := big_t (List.mem_of_getElem? (i := 52) (by decide +kernel)) (by decide +kernel)
theorem wd_53 : (Jvm.Cond.static ({ cls := "java/util/Arrays", name := "fill", desc := "([JJ)V" } : Jvm.MethodName)) ∈ BIG := big_t (List.mem_of_getElem? (i := 53) (by decide +kernel)) (by decide +kernel)
theorem dM_S_init_130 : decode cM_S_init 130 = .ok (.aload_n 0, 1) := by decide +kernel
theorem dM_S_init_131 : decode cM_S_init 131 = .ok (.getfield 22, 3) := by decide +kernel
theorem dM_S_init_134 : decode cM_S_init 134 = .ok (.ldc2_w 58, 3) := by decide +kernel
theorem dM_S_init_137 : decode cM_S_init 137 = .ok (.invokestatic 60, 3) := by decide +kernel
theorem dM_S_init_140 : decode cM_S_init 140 = .ok (.aload_n 0, 1) := by decide +kernel
theorem dM_S_init_141 : decode cM_S_init 141 = .ok (.getfield 25, 3) := by decide +kernel
theorem dM_S_init_144 : decode cM_S_init 144 = .ok (.ldc2_w 58, 3) := by decide +kernel
theorem dM_S_init_147 : decode cM_S_init 147 = .ok (.invokestatic 60, 3) := by decide +kernel
theorem dM_S_init_150 : decode cM_S_init 150 = .ok (.aload_n 0, 1) := by decide +kernel
theorem dM_S_init_151 : decode cM_S_init 151 = .ok (.getfield 28, 3) := by decide +kernel
theorem dM_S_init_154 : decode cM_S_init 154 = .ok (.iconst (-1), 1) := by decide +kernel
theorem dM_S_init_155 : decode cM_S_init 155 = .ok (.invokestatic 66, 3) := by decide +kernel
theorem wd_57 : (Jvm.Cond.code ({ cls := "java/util/Arrays", name := "fill", desc := "([II)V" } : Jvm.MethodName) prog_36_method_103_code (4 : Nat) (Option.none : Option Jvm.ClassFile.FieldType)) ∈ BIG := big_t (List.mem_of_getElem? (i := 57) (by decide +kernel)) (by decide +kernel)
theorem wd_55 : (Jvm.Cond.methodLink "NoteDocument$State" (66 : Nat) ({ cls := "java/util/Arrays", name := "fill", desc := "([II)V" } : Jvm.MethodName)) ∈ BIG := big_t (List.mem_of_getElem? (i := 55) (by decide +kernel)) (by decide +kernel)
theorem wd_56 : (Jvm.Cond.static ({ cls := "java/util/Arrays", name := "fill", desc := "([II)V" } : Jvm.MethodName)) ∈ BIG := big_t (List.mem_of_getElem? (i := 56) (by decide +kernel)) (by decide +kernel)
theorem dM_S_init_158 : decode cM_S_init 158 = .ok (.aload_n 0, 1) := by decide +kernel
theorem dM_S_init_159 : decode cM_S_init 159 = .ok (.getfield 31, 3) := by decide +kernel
theorem dM_S_init_162 : decode cM_S_init 162 = .ok (.iconst (-1), 1) := by decide +kernel
theorem dM_S_init_163 : decode cM_S_init 163 = .ok (.invokestatic 66, 3) := by decide +kernel
theorem dM_S_init_166 : decode cM_S_init 166 = .ok (.return_, 1) := by decide +kernel
abbrev cM_No_init : ByteArray := prog_7_method_1_code
def yM_No_init : MethodName := ⟨"NoteDocument$Nodes", "<init>", "(LNoteDocument$State;)V"⟩
theorem dM_No_init_0 : decode cM_No_init 0 = .ok (.aload_n 0, 1) := by decide +kernel
theorem dM_No_init_1 : decode cM_No_init 1 = .ok (.invokespecial 3, 3) := by decide +kernel
theorem wd_177 : (Jvm.Cond.methodLink "NoteDocument$Nodes" (3 : Nat) ({ cls := "java/lang/Object", name := "<init>", desc := "()V" } : Jvm.MethodName)) ∈ BIG := big_t (List.mem_of_getElem? (i := 177) (by decide +kernel)) (by decide +kernel)
theorem dM_No_init_4 : decode cM_No_init 4 = .ok (.aload_n 0, 1) := by decide +kernel
theorem dM_No_init_5 : decode cM_No_init 5 = .ok (.sipush 150, 3) := by decide +kernel
theorem dM_No_init_8 : decode cM_No_init 8 = .ok (.newarray .int, 2) := by decide +kernel
theorem dM_No_init_10 : decode cM_No_init 10 = .ok (.putfield 9, 3) := by decide +kernel
theorem wd_179 : (Jvm.Cond.fieldLink "NoteDocument$Nodes" (9 : Nat) "NoteDocument$Nodes" "kind" "[I") ∈ BIG := big_t (List.mem_of_getElem? (i := 179) (by decide +kernel)) (by decide +kernel)
theorem dM_No_init_13 : decode cM_No_init 13 = .ok (.aload_n 0, 1) := by decide +kernel
theorem dM_No_init_14 : decode cM_No_init 14 = .ok (.sipush 150, 3) := by decide +kernel
theorem dM_No_init_17 : decode cM_No_init 17 = .ok (.newarray .int, 2) := by decide +kernel
theorem dM_No_init_19 : decode cM_No_init 19 = .ok (.putfield 15, 3) := by decide +kernel
theorem wd_181 : (Jvm.Cond.fieldLink "NoteDocument$Nodes" (15 : Nat) "NoteDocument$Nodes" "of" "[I") ∈ BIG := big_t (List.mem_of_getElem? (i := 181) (by decide +kernel)) (by decide +kernel)
theorem dM_No_init_22 : decode cM_No_init 22 = .ok (.aload_n 0, 1) := by decide +kernel
theorem dM_No_init_23 : decode cM_No_init 23 = .ok (.sipush 150, 3) := by decide +kernel
theorem dM_No_init_26 : decode cM_No_init 26 = .ok (.newarray .int, 2) := by decide +kernel
theorem dM_No_init_28 : decode cM_No_init 28 = .ok (.putfield 18, 3) := by decide +kernel
theorem wd_183 : (Jvm.Cond.fieldLink "NoteDocument$Nodes" (18 : Nat) "NoteDocument$Nodes" "first" "[I") ∈ BIG := big_t (List.mem_of_getElem? (i := 183) (by decide +kernel)) (by decide +kernel)
theorem dM_No_init_31 : decode cM_No_init 31 = .ok (.aload_n 0, 1) := by decide +kernel
theorem dM_No_init_32 : decode cM_No_init 32 = .ok (.sipush 150, 3) := by decide +kernel
theorem dM_No_init_35 : decode cM_No_init 35 = .ok (.newarray .int, 2) := by decide +kernel
theorem dM_No_init_37 : decode cM_No_init 37 = .ok (.putfield 21, 3) := by decide +kernel
theorem wd_185 : (Jvm.Cond.fieldLink "NoteDocument$Nodes" (21 : Nat) "NoteDocument$Nodes" "second" "[I") ∈ BIG := big_t (List.mem_of_getElem? (i := 185) (by decide +kernel)) (by decide +kernel)
theorem dM_No_init_40 : decode cM_No_init 40 = .ok (.aload_n 0, 1) := by decide +kernel
theorem dM_No_init_41 : decode cM_No_init 41 = .ok (.sipush 150, 3) := by decide +kernel
theorem dM_No_init_44 : decode cM_No_init 44 = .ok (.newarray .int, 2) := by decide +kernel
theorem dM_No_init_46 : decode cM_No_init 46 = .ok (.putfield 24, 3) := by decide +kernel
theorem wd_187 : (Jvm.Cond.fieldLink "NoteDocument$Nodes" (24 : Nat) "NoteDocument$Nodes" "third" "[I") ∈ BIG := big_t (List.mem_of_getElem? (i := 187) (by decide +kernel)) (by decide +kernel)
theorem dM_No_init_49 : decode cM_No_init 49 = .ok (.aload_n 0, 1) := by decide +kernel
theorem dM_No_init_50 : decode cM_No_init 50 = .ok (.sipush 150, 3) := by decide +kernel
theorem dM_No_init_53 : decode cM_No_init 53 = .ok (.newarray .int, 2) := by decide +kernel
theorem dM_No_init_55 : decode cM_No_init 55 = .ok (.putfield 27, 3) := by decide +kernel
theorem wd_189 : (Jvm.Cond.fieldLink "NoteDocument$Nodes" (27 : Nat) "NoteDocument$Nodes" "weight" "[I") ∈ BIG := big_t (List.mem_of_getElem? (i := 189) (by decide +kernel)) (by decide +kernel)
theorem dM_No_init_58 : decode cM_No_init 58 = .ok (.aload_n 0, 1) := by decide +kernel
theorem dM_No_init_59 : decode cM_No_init 59 = .ok (.sipush 150, 3) := by decide +kernel
theorem dM_No_init_62 : decode cM_No_init 62 = .ok (.newarray .long, 2) := by decide +kernel
theorem dM_No_init_64 : decode cM_No_init 64 = .ok (.putfield 30, 3) := by decide +kernel
theorem wd_191 : (Jvm.Cond.fieldLink "NoteDocument$Nodes" (30 : Nat) "NoteDocument$Nodes" "numbe\x72" "[J") ∈ BIG := big_t (List.mem_of_getElem? (i := 191) (by decide +kernel)) (by decide +kernel)
theorem dM_No_init_67 : decode cM_No_init 67 = .ok (.aload_n 0, 1) := by decide +kernel
theorem dM_No_init_68 : decode cM_No_init 68 = .ok (.aload_n 1, 1) := by decide +kernel
theorem dM_No_init_69 : decode cM_No_init 69 = .ok (.putfield 34, 3) := by decide +kernel
theorem wd_178 : (Jvm.Cond.fieldLink "NoteDocument$Nodes" (34 : Nat) "NoteDocument$Nodes" "state" "LNoteDocument$State;") ∈ BIG := big_t (List.mem_of_getElem? (i := 178) (by decide +kernel)) (by decide +kernel)
theorem dM_No_init_72 : decode cM_No_init 72 = .ok (.return_, 1) := by decide +kernel
abbrev cM_Ch_slot : ByteArray := prog_2_method_6_code
def yM_Ch_slot : MethodName := ⟨"NoteDocument$Chains", "slot", "(II)I"⟩
theorem dM_Ch_slot_0 : decode cM_Ch_slot 0 = .ok (.iload_n 2, 1) := by decide +kernel
theorem dM_Ch_slot_1 : decode cM_Ch_slot 1 = .ok (.sipush 200, 3) := by decide +kernel
theorem dM_Ch_slot_4 : decode cM_Ch_slot 4 = .ok (.imul, 1) := by decide +kernel
theorem dM_Ch_slot_5 : decode cM_Ch_slot 5 = .ok (.iload_n 1, 1) := by decide +kernel
theorem dM_Ch_slot_6 : decode cM_Ch_slot 6 = .ok (.iadd, 1) := by decide +kernel
theorem dM_Ch_slot_7 : decode cM_Ch_slot 7 = .ok (.ldc 61, 2) := by decide +kernel
theorem wd_225 : (Jvm.Cond.constant "NoteDocument$Chains" (61 : Nat) (-1640531535 : Int32)) ∈ BIG := big_t (List.mem_of_getElem? (i := 225) (by decide +kernel)) (by decide +kernel)
theorem dM_Ch_slot_9 : decode cM_Ch_slot 9 = .ok (.imul, 1) := by decide +kernel
theorem dM_Ch_slot_10 : decode cM_Ch_slot 10 = .ok (.istore_n 3, 1) := by decide +kernel
theorem dM_Ch_slot_11 : decode cM_Ch_slot 11 = .ok (.iload_n 3, 1) := by decide +kernel
theorem dM_Ch_slot_12 : decode cM_Ch_slot 12 = .ok (.iload_n 3, 1) := by decide +kernel
theorem dM_Ch_slot_13 : decode cM_Ch_slot 13 = .ok (.bipush 15, 2) := by decide +kernel
theorem dM_Ch_slot_15 : decode cM_Ch_slot 15 = .ok (.iushr, 1) := by decide +kernel
theorem dM_Ch_slot_16 : decode cM_Ch_slot 16 = .ok (.ixor, 1) := by decide +kernel
theorem dM_Ch_slot_17 : decode cM_Ch_slot 17 = .ok (.aload_n 0, 1) := by decide +kernel
theorem dM_Ch_slot_18 : decode cM_Ch_slot 18 = .ok (.getfield 24, 3) := by decide +kernel
theorem wd_230 : (Jvm.Cond.fieldLink "NoteDocument$Chains" (24 : Nat) "NoteDocument$Chains" "firstLikely" "[I") ∈ BIG := big_t (List.mem_of_getElem? (i := 230) (by decide +kernel)) (by decide +kernel)
theorem dM_Ch_slot_21 : decode cM_Ch_slot 21 = .ok (.arraylength, 1) := by decide +kernel
theorem dM_Ch_slot_22 : decode cM_Ch_slot 22 = .ok (.iconst 1, 1) := by decide +kernel
theorem dM_Ch_slot_23 : decode cM_Ch_slot 23 = .ok (.isub, 1) := by decide +kernel
theorem dM_Ch_slot_24 : decode cM_Ch_slot 24 = .ok (.iand, 1) := by decide +kernel
theorem dM_Ch_slot_25 : decode cM_Ch_slot 25 = .ok (.ireturn, 1) := by decide +kernel
abbrev cM_Ch_add : ByteArray := prog_2_method_5_code
def yM_Ch_add : MethodName := ⟨"NoteDocument$Chains", "add", "(II)I"⟩
theorem dM_Ch_add_0 : decode cM_Ch_add 0 = .ok (.aload_n 0, 1) := by decide +kernel
theorem dM_Ch_add_1 : decode cM_Ch_add 1 = .ok (.getfield 27, 3) := by decide +kernel
theorem wd_231 : (Jvm.Cond.fieldLink "NoteDocument$Chains" (27 : Nat) "NoteDocument$Chains" "count" "I") ∈ BIG := big_t (List.mem_of_getElem? (i := 231) (by decide +kernel)) (by decide +kernel)
theorem dM_Ch_add_4 : decode cM_Ch_add 4 = .ok (.istore_n 3, 1) := by decide +kernel
theorem dM_Ch_add_5 : decode cM_Ch_add 5 = .ok (.aload_n 0, 1) := by decide +kernel
theorem dM_Ch_add_6 : decode cM_Ch_add 6 = .ok (.iload_n 1, 1) := by decide +kernel
theorem dM_Ch_add_7 : decode cM_Ch_add 7 = .ok (.iload_n 2, 1) := by decide +kernel
theorem dM_Ch_add_8 : decode cM_Ch_add 8 = .ok (.invokevirtual 45, 3) := by decide +kernel
theorem wd_224 : (Jvm.Cond.code ({ cls := "NoteDocument$Chains", name := "slot", desc := "(II)I" } : Jvm.MethodName) prog_2_method_6_code (4 : Nat) (Option.some Jvm.ClassFile.FieldType.int)) ∈ BIG := big_t (List.mem_of_getElem? (i := 224) (by decide +kernel)) (by decide +kernel)
theorem wd_5 : (Jvm.Cond.initialized "NoteDocument$Chains") ∈ BIG := big_t (List.mem_of_getElem? (i := 5) (by decide +kernel)) (by decide +kernel)
theorem wd_221 : (Jvm.Cond.methodLink "NoteDocument$Chains" (45 : Nat) ({ cls := "NoteDocument$Chains", name := "slot", desc := "(II)I" } : Jvm.MethodName)) ∈ BIG := big_t (List.mem_of_getElem? (i := 221) (by decide +kernel)) (by decide +kernel)
theorem wd_223 : (Jvm.Cond.instanceMethod ({ cls := "NoteDocument$Chains", name := "slot", desc := "(II)I" } : Jvm.MethodName)) ∈ BIG := big_t (List.mem_of_getElem? (i := 223) (by decide +kernel)) (by decide +kernel)
theorem ws_1 : (Jvm.Cond.selects "NoteDocument$Chains" ({ cls := "NoteDocument$Chains", name := "slot", desc := "(II)I" } : Jvm.MethodName) ({ cls := "NoteDocument$Chains", name := "slot", desc := "(II)I" } : Jvm.MethodName)) ∈ BIG := big_s (List.mem_of_getElem? (i := 1) (by decide +kernel)) (by decide +kernel)
theorem dM_Ch_add_11 : decode cM_Ch_add 11 = .ok (.istore 4, 2) := by decide +kernel
theorem dM_Ch_add_13 : decode cM_Ch_add 13 = .ok (.aload_n 0, 1) := by decide +kernel
theorem dM_Ch_add_14 : decode cM_Ch_add 14 = .ok (.getfield 11, 3) := by decide +kernel
theorem wd_226 : (Jvm.Cond.fieldLink "NoteDocument$Chains" (11 : Nat) "NoteDocument$Chains" "cell" "[I") ∈ BIG := big_t (List.mem_of_getElem? (i := 226) (by decide +kernel)) (by decide +kernel)
theorem dM_Ch_add_17 : decode cM_Ch_add 17 = .ok (.iload_n 3, 1) := by decide +kernel
theorem dM_Ch_add_18 : decode cM_Ch_add 18 = .ok (.iload_n 1, 1) := by decide +kernel
theorem dM_Ch_add_19 : decode cM_Ch_add 19 = .ok (.iastore, 1) := by decide +kernel
theorem dM_Ch_add_20 : decode cM_Ch_add 20 = .ok (.aload_n 0, 1) := by decide +kernel
theorem dM_Ch_add_21 : decode cM_Ch_add 21 = .ok (.getfield 15, 3) := by decide +kernel
theorem wd_227 : (Jvm.Cond.fieldLink "NoteDocument$Chains" (15 : Nat) "NoteDocument$Chains" "behind" "[I") ∈ BIG := big_t (List.mem_of_getElem? (i := 227) (by decide +kernel)) (by decide +kernel)
theorem dM_Ch_add_24 : decode cM_Ch_add 24 = .ok (.iload_n 3, 1) := by decide +kernel
theorem dM_Ch_add_25 : decode cM_Ch_add 25 = .ok (.iload_n 2, 1) := by decide +kernel
theorem dM_Ch_add_26 : decode cM_Ch_add 26 = .ok (.iastore, 1) := by decide +kernel
theorem dM_Ch_add_27 : decode cM_Ch_add 27 = .ok (.aload_n 0, 1) := by decide +kernel
theorem dM_Ch_add_28 : decode cM_Ch_add 28 = .ok (.getfield 18, 3) := by decide +kernel
theorem wd_228 : (Jvm.Cond.fieldLink "NoteDocument$Chains" (18 : Nat) "NoteDocument$Chains" "size" "[I") ∈ BIG := big_t (List.mem_of_getElem? (i := 228) (by decide +kernel)) (by decide +kernel)
theorem dM_Ch_add_31 : decode cM_Ch_add 31 = .ok (.iload_n 3, 1) := by decide +kernel
theorem dM_Ch_add_32 : decode cM_Ch_add 32 = .ok (.aload_n 0, 1) := by decide +kernel
theorem dM_Ch_add_33 : decode cM_Ch_add 33 = .ok (.getfield 18, 3) := by decide +kernel
theorem dM_Ch_add_36 : decode cM_Ch_add 36 = .ok (.iload_n 2, 1) := by decide +kernel
theorem dM_Ch_add_37 : decode cM_Ch_add 37 = .ok (.iaload, 1) := by decide +kernel
theorem dM_Ch_add_38 : decode cM_Ch_add 38 = .ok (.iconst 1, 1) := by decide +kernel
theorem dM_Ch_add_39 : decode cM_Ch_add 39 = .ok (.iadd, 1) := by decide +kernel
theorem dM_Ch_add_40 : decode cM_Ch_add 40 = .ok (.iastore, 1) := by decide +kernel
theorem dM_Ch_add_41 : decode cM_Ch_add 41 = .ok (.aload_n 0, 1) := by decide +kernel
theorem dM_Ch_add_42 : decode cM_Ch_add 42 = .ok (.getfield 21, 3) := by decide +kernel
theorem wd_229 : (Jvm.Cond.fieldLink "NoteDocument$Chains" (21 : Nat) "NoteDocument$Chains" "nextLikely" "[I") ∈ BIG := big_t (List.mem_of_getElem? (i := 229) (by decide +kernel)) (by decide +kernel)
theorem dM_Ch_add_45 : decode cM_Ch_add 45 = .ok (.iload_n 3, 1) := by decide +kernel
theorem dM_Ch_add_46 : decode cM_Ch_add 46 = .ok (.aload_n 0, 1) := by decide +kernel
theorem dM_Ch_add_47 : decode cM_Ch_add 47 = .ok (.getfield 24, 3) := by decide +kernel
theorem dM_Ch_add_50 : decode cM_Ch_add 50 = .ok (.iload 4, 2) := by decide +kernel
theorem dM_Ch_add_52 : decode cM_Ch_add 52 = .ok (.iaload, 1) := by decide +kernel
theorem dM_Ch_add_53 : decode cM_Ch_add 53 = .ok (.iastore, 1) := by decide +kernel
theorem dM_Ch_add_54 : decode cM_Ch_add 54 = .ok (.aload_n 0, 1) := by decide +kernel
theorem dM_Ch_add_55 : decode cM_Ch_add 55 = .ok (.getfield 24, 3) := by decide +kernel
theorem dM_Ch_add_58 : decode cM_Ch_add 58 = .ok (.iload 4, 2) := by decide +kernel
theorem dM_Ch_add_60 : decode cM_Ch_add 60 = .ok (.iload_n 3, 1) := by decide +kernel
theorem dM_Ch_add_61 : decode cM_Ch_add 61 = .ok (.iastore, 1) := by decide +kernel
theorem dM_Ch_add_62 : decode cM_Ch_add 62 = .ok (.aload_n 0, 1) := by decide +kernel
theorem dM_Ch_add_63 : decode cM_Ch_add 63 = .ok (.dup, 1) := by decide +kernel
theorem dM_Ch_add_64 : decode cM_Ch_add 64 = .ok (.getfield 27, 3) := by decide +kernel
theorem dM_Ch_add_67 : decode cM_Ch_add 67 = .ok (.iconst 1, 1) := by decide +kernel
theorem dM_Ch_add_68 : decode cM_Ch_add 68 = .ok (.iadd, 1) := by decide +kernel
theorem dM_Ch_add_69 : decode cM_Ch_add 69 = .ok (.putfield 27, 3) := by decide +kernel
theorem dM_Ch_add_72 : decode cM_Ch_add 72 = .ok (.iload_n 3, 1) := by decide +kernel
theorem dM_Ch_add_73 : decode cM_Ch_add 73 = .ok (.ireturn, 1) := by decide +kernel
abbrev cM_Ch_init : ByteArray := prog_2_method_1_code
def yM_Ch_init : MethodName := ⟨"NoteDocument$Chains", "<init>", "()V"⟩
theorem dM_Ch_init_0 : decode cM_Ch_init 0 = .ok (.aload_n 0, 1) := by decide +kernel
theorem dM_Ch_init_1 : decode cM_Ch_init 1 = .ok (.invokespecial 3, 3) := by decide +kernel
theorem wd_216 : (Jvm.Cond.methodLink "NoteDocument$Chains" (3 : Nat) ({ cls := "java/lang/Object", name := "<init>", desc := "()V" } : Jvm.MethodName)) ∈ BIG := big_t (List.mem_of_getElem? (i := 216) (by decide +kernel)) (by decide +kernel)
theorem dM_Ch_init_4 : decode cM_Ch_init 4 = .ok (.aload_n 0, 1) := by decide +kernel
theorem dM_Ch_init_5 : decode cM_Ch_init 5 = .ok (.sipush 512, 3) := by decide +kernel
theorem dM_Ch_init_8 : decode cM_Ch_init 8 = .ok (.newarray .int, 2) := by decide +kernel
theorem dM_Ch_init_10 : decode cM_Ch_init 10 = .ok (.putfield 11, 3) := by decide +kernel
theorem dM_Ch_init_13 : decode cM_Ch_init 13 = .ok (.aload_n 0, 1) := by decide +kernel
theorem dM_Ch_init_14 : decode cM_Ch_init 14 = .ok (.sipush 512, 3) := by decide +kernel
theorem dM_Ch_init_17 : decode cM_Ch_init 17 = .ok (.newarray .int, 2) := by decide +kernel
theorem dM_Ch_init_19 : decode cM_Ch_init 19 = .ok (.putfield 15, 3) := by decide +kernel
theorem dM_Ch_init_22 : decode cM_Ch_init 22 = .ok (.aload_n 0, 1) := by decide +kernel
theorem dM_Ch_init_23 : decode cM_Ch_init 23 = .ok (.sipush 512, 3) := by decide +kernel
theorem dM_Ch_init_26 : decode cM_Ch_init 26 = .ok (.newarray .int, 2) := by decide +kernel
theorem dM_Ch_init_28 : decode cM_Ch_init 28 = .ok (.putfield 18, 3) := by decide +kernel
theorem dM_Ch_init_31 : decode cM_Ch_init 31 = .ok (.aload_n 0, 1) := by decide +kernel
theorem dM_Ch_init_32 : decode cM_Ch_init 32 = .ok (.sipush 512, 3) := by decide +kernel
theorem dM_Ch_init_35 : decode cM_Ch_init 35 = .ok (.newarray .int, 2) := by decide +kernel
theorem dM_Ch_init_37 : decode cM_Ch_init 37 = .ok (.putfield 21, 3) := by decide +kernel
theorem dM_Ch_init_40 : decode cM_Ch_init 40 = .ok (.aload_n 0, 1) := by decide +kernel
theorem dM_Ch_init_41 : decode cM_Ch_init 41 = .ok (.sipush 512, 3) := by decide +kernel
theorem dM_Ch_init_44 : decode cM_Ch_init 44 = .ok (.newarray .int, 2) := by decide +kernel
theorem dM_Ch_init_46 : decode cM_Ch_init 46 = .ok (.putfield 24, 3) := by decide +kernel
theorem dM_Ch_init_49 : decode cM_Ch_init 49 = .ok (.aload_n 0, 1) := by decide +kernel
theorem dM_Ch_init_50 : decode cM_Ch_init 50 = .ok (.iconst 1, 1) := by decide +kernel
theorem dM_Ch_init_51 : decode cM_Ch_init 51 = .ok (.putfield 27, 3) := by decide +kernel
theorem dM_Ch_init_54 : decode cM_Ch_init 54 = .ok (.aload_n 0, 1) := by decide +kernel
theorem dM_Ch_init_55 : decode cM_Ch_init 55 = .ok (.getfield 11, 3) := by decide +kernel
theorem dM_Ch_init_58 : decode cM_Ch_init 58 = .ok (.iconst 0, 1) := by decide +kernel
theorem dM_Ch_init_59 : decode cM_Ch_init 59 = .ok (.iconst (-1), 1) := by decide +kernel
theorem dM_Ch_init_60 : decode cM_Ch_init 60 = .ok (.iastore, 1) := by decide +kernel
theorem dM_Ch_init_61 : decode cM_Ch_init 61 = .ok (.iconst 0, 1) := by decide +kernel
theorem dM_Ch_init_62 : decode cM_Ch_init 62 = .ok (.istore_n 1, 1) := by decide +kernel
theorem dM_Ch_init_63 : decode cM_Ch_init 63 = .ok (.iload_n 1, 1) := by decide +kernel
theorem dM_Ch_init_64 : decode cM_Ch_init 64 = .ok (.sipush 200, 3) := by decide +kernel
theorem dM_Ch_init_67 : decode cM_Ch_init 67 = .ok (.if_icmp .ge 16, 3) := by decide +kernel
theorem dM_Ch_init_70 : decode cM_Ch_init 70 = .ok (.aload_n 0, 1) := by decide +kernel
theorem dM_Ch_init_71 : decode cM_Ch_init 71 = .ok (.iload_n 1, 1) := by decide +kernel
theorem dM_Ch_init_72 : decode cM_Ch_init 72 = .ok (.iconst 0, 1) := by decide +kernel
theorem dM_Ch_init_73 : decode cM_Ch_init 73 = .ok (.invokevirtual 31, 3) := by decide +kernel
theorem wd_220 : (Jvm.Cond.code ({ cls := "NoteDocument$Chains", name := "add", desc := "(II)I" } : Jvm.MethodName) prog_2_method_5_code (5 : Nat) (Option.some Jvm.ClassFile.FieldType.int)) ∈ BIG := big_t (List.mem_of_getElem? (i := 220) (by decide +kernel)) (by decide +kernel)
theorem wd_217 : (Jvm.Cond.methodLink "NoteDocument$Chains" (31 : Nat) ({ cls := "NoteDocument$Chains", name := "add", desc := "(II)I" } : Jvm.MethodName)) ∈ BIG := big_t (List.mem_of_getElem? (i := 217) (by decide +kernel)) (by decide +kernel)
theorem wd_219 : (Jvm.Cond.instanceMethod ({ cls := "NoteDocument$Chains", name := "add", desc := "(II)I" } : Jvm.MethodName)) ∈ BIG := big_t (List.mem_of_getElem? (i := 219) (by decide +kernel)) (by decide +kernel)
theorem ws_0 : (Jvm.Cond.selects "NoteDocument$Chains" ({ cls := "NoteDocument$Chains", name := "add", desc := "(II)I" } : Jvm.MethodName) ({ cls := "NoteDocument$Chains", name := "add", desc := "(II)I" } : Jvm.MethodName)) ∈ BIG := big_s (List.mem_of_getElem? (i := 0) (by decide +kernel)) (by decide +kernel)
theorem dM_Ch_init_76 : decode cM_Ch_init 76 = .ok (.pop, 1) := by decide +kernel
theorem dM_Ch_init_77 : decode cM_Ch_init 77 = .ok (.iinc 1 1, 3) := by decide +kernel
theorem dM_Ch_init_80 : decode cM_Ch_init 80 = .ok (.goto (-17), 3) := by decide +kernel
theorem dM_Ch_init_83 : decode cM_Ch_init 83 = .ok (.return_, 1) := by decide +kernel
set_option maxHeartbeats 4000000 in
set_option maxRecDepth 100000 in
theorem c_S_init (l : Launch) (dC : Nat → ClassId) (dI : Nat → Nat → Nat) (h0 : Nat) (sz : Nat) : Met l yM_S_init (wm yM_S_init cM_S_init 1 none) ({ frames := 60, cells := 14, slots := 2530, locals := 1200 }) (nPc [.ref h0] (dC, dI) [(h0, .inr (8, [.int 0, .int 0, .int 0, .null, .null, .null, .null, .null, .null, .null, .null, .null, .null, .null, .null, .null, .null, .int 0, .int 0, .int 0]))] sz) (va_Qv (fun (_ : Unit) => True) (fun (_ : Unit) t => ∃ (a_columns : Nat), ∃ (a_rows : Nat), ∃ (a_content : Nat), ∃ (a_held : Nat), ∃ (a_other : Nat), ∃ (a_named : Nat), ∃ (a_body : Nat), ∃ (a_parts : Nat), ∃ (a_partCount : Nat), ∃ (a_refRow : Nat), ∃ (a_refColumn : Nat), ∃ (a_refToRow : Nat), ∃ (a_torn : Nat), ∃ (a_record : Nat), ∃ (g_columns : Nat → Int32), ∃ (g_rows : Nat → Int32), ∃ (g_content : Nat → Int64), ∃ (g_held : Nat → Int64), ∃ (g_other : Nat → Int64), ∃ (g_named : Nat → Int32), ∃ (g_body : Nat → Int32), ∃ (g_parts : Nat → Int32), ∃ (g_partCount : Nat → Int32), ∃ (g_refRow : Nat → Int32), ∃ (g_refColumn : Nat → Int32), ∃ (g_refToRow : Nat → Int32), ∃ (g_torn : Nat → Int32), ∃ (g_record : Nat → Int32), (∀ j, j < 200 → g_content j = 1125899906842624) ∧ (∀ j, j < 200 → g_held j = 1125899906842624) ∧ (∀ j, j < 600 → g_other j = 1125899906842624) ∧ (∀ j, j < 885 → g_record j = 0) ∧ nB (dC, dI) (va_A [(h0, .inr (8, [.int 0, .int 0, .int 0, .null, .null, .null, .null, .null, .null, .null, .null, .null, .null, .null, .null, .null, .null, .int 0, .int 0, .int 0]))] sz) [(h0, .inr (8, [.int 0, .int 0, .int 0, .ref a_columns, .ref a_rows, .ref a_content, .ref a_held, .ref a_other, .ref a_named, .ref a_body, .ref a_parts, .ref a_partCount, .ref a_refRow, .ref a_refColumn, .ref a_refToRow, .ref a_torn, .ref a_record, .int 0, .int 0, .int 0])), (a_columns, .inl (dC 100, 4, .inl g_columns)), (a_rows, .inl (dC 100, 4, .inl g_rows)), (a_content, .inl (dC 101, 200, .inr (.inl g_content))), (a_held, .inl (dC 101, 200, .inr (.inl g_held))), (a_other, .inl (dC 101, 600, .inr (.inl g_other))), (a_named, .inl (dC 100, 6, .inl g_named)), (a_body, .inl (dC 100, 4, .inl g_body)), (a_parts, .inl (dC 100, 24, .inl g_parts)), (a_partCount, .inl (dC 100, 3, .inl g_partCount)), (a_refRow, .inl (dC 100, 150, .inl g_refRow)), (a_refColumn, .inl (dC 100, 150, .inl g_refColumn)), (a_refToRow, .inl (dC 100, 150, .inl g_refToRow)), (a_torn, .inl (dC 102, 150, .inl g_torn)), (a_record, .inl (dC 100, 885, .inl g_record))] t) (va_A [(h0, .inr (8, [.int 0, .int 0, .int 0, .null, .null, .null, .null, .null, .null, .null, .null, .null, .null, .null, .null, .null, .null, .int 0, .int 0, .int 0]))] sz)) 14 2530 (va_A [(h0, .inr (8, [.int 0, .int 0, .int 0, .null, .null, .null, .null, .null, .null, .null, .null, .null, .null, .null, .null, .null, .null, .int 0, .int 0, .int 0]))] sz) := by
  refine Met.ofW (cc := cM_S_init) (maxL := 1) (ret := none) (by decide) rfl ?_
  intro p e s m args below meth c s₁ B hml hv
  obtain ⟨rfl, hsz, hP, hD0, hK, hN⟩ := hv
  have hx := B.exec
  have hb := B.bytes
  have hr := B.returns
  have hbg : ∀ w ∈ BIG, w.before ([.ref h0] : List Value).toArray s = true := fun w h => atoms_spec (ws := (wm yM_S_init cM_S_init 1 none)) B.pre w (List.mem_cons_of_mem _ h)
  have hown : s.vm.findClass "NoteDocument$State" = some m.cls := findClass_of_methodNamed B.named
  have hlocks := B.notSynchronized
  have hin : meth.name = "<init>" := (name_of_methodNamed B.named B.method).1
  subst hsz
  have hD := hD0.self (sz := s.heap.size)
  generalize hAe : va_A [(h0, .inr (8, [.int 0, .int 0, .int 0, .null, .null, .null, .null, .null, .null, .null, .null, .null, .null, .null, .null, .null, .null, .int 0, .int 0, .int 0]))] s.heap.size = A at hD hN ⊢
  have hA : ∀ q : Nat, s.heap.size ≤ q → A q := fun q h => by rw [← hAe]; exact Or.inr h
  have hS : va_S A s.heap s.heap [] := va_S.rf
  have hP : va_P (dC, dI) classes [(h0, .inr (8, [.int 0, .int 0, .int 0, .null, .null, .null, .null, .null, .null, .null, .null, .null, .null, .null, .null, .null, .null, .int 0, .int 0, .int 0]))] s.heap := hP
  have hl := lv_entry ([.ref h0] : List Value) (n := 1) (Nat.le_of_ble_eq_true rfl)
  rw [lg_entry_eq]
  generalize (lg_sl ([.ref h0] : List Value) ++ List.replicate (1 - (lg_sl ([.ref h0] : List Value)).length) Slot.unset).toArray = ls at hl ⊢
  have hl : lv_has ls 1 [(0, .ref h0)] := hl
  refine lv_aload_n hx hb dM_S_init_0 rfl (lv_at hl 0 rfl) ?_
  refine W.objInit hx hb hown (hbg _ wd_50) (hbg _ wd_43) (hbg _ wd_44) rfl (by rw [hml]; exact hl.1) rfl dM_S_init_1 (Nat.le_of_ble_eq_true rfl) (Nat.le_of_ble_eq_true rfl) ?_
  refine W.eq (g2 := F0 m 4 ls []) rfl ?_
  refine lv_aload_n hx hb dM_S_init_4 rfl (lv_at hl 0 rfl) ?_
  refine lv_iconst (v := 4) hx hb dM_S_init_5 (by decide) ?_
  refine n_newa (atype := .int) (N' := 4) (a0 := (4, .inl (fun _ => 0))) (ty := .int) (n := 4) hx hb (hbg _ wd_169) rfl hK.1 hP hD hS hA 0 rfl (fun _ => rfl) (by decide) (by decide) (Nat.le_of_ble_eq_true rfl) (Nat.le_of_ble_eq_true rfl) (Nat.le_of_ble_eq_true rfl) dM_S_init_6 (fun q_1 H hP hD hS => ?_)
  have hP : va_P (dC, dI) classes [(h0, .inr (8, [.int 0, .int 0, .int 0, .null, .null, .null, .null, .null, .null, .null, .null, .null, .null, .null, .null, .null, .null, .int 0, .int 0, .int 0])), (q_1, .inl (dC 100, 4, .inl (fun _ => 0)))] H := hP
  have hD : va_D A [(h0, .inr (8, [.int 0, .int 0, .int 0, .null, .null, .null, .null, .null, .null, .null, .null, .null, .null, .null, .null, .null, .null, .int 0, .int 0, .int 0])), (q_1, .inl (dC 100, 4, .inl (fun _ => 0)))] := hD
  refine W.widen (k := 1) (n := 4) (Nat.le_of_ble_eq_true rfl) (Nat.le_of_ble_eq_true rfl) ?_
  refine va_putF (D := (dC, dI)) (ci := 8) (v := .ref q_1) (ty := .array .int) (C := rC_S) (T := fC_S) (N := 20) hx hb hbg iC_S tC_S oC_S nC_S hown hK.1 hP hD hS 0 rfl rfl 3 (by decide) (hbg _ wd_66) (fun _ h9 => h9) rfl hin rfl (by decide +kernel) rfl rfl (Nat.le_of_ble_eq_true rfl) dM_S_init_8 (fun H locs hP hD hS => ?_)
  have hP : va_P (dC, dI) classes [(h0, .inr (8, [.int 0, .int 0, .int 0, .ref q_1, .null, .null, .null, .null, .null, .null, .null, .null, .null, .null, .null, .null, .null, .int 0, .int 0, .int 0])), (q_1, .inl (dC 100, 4, .inl (fun _ => 0)))] H := hP
  have hD : va_D A [(h0, .inr (8, [.int 0, .int 0, .int 0, .ref q_1, .null, .null, .null, .null, .null, .null, .null, .null, .null, .null, .null, .null, .null, .int 0, .int 0, .int 0])), (q_1, .inl (dC 100, 4, .inl (fun _ => 0)))] := hD
  refine lv_aload_n hx hb dM_S_init_11 rfl (lv_at hl 0 rfl) ?_
  refine lv_iconst (v := 4) hx hb dM_S_init_12 (by decide) ?_
  refine n_newa (atype := .int) (N' := 4) (a0 := (4, .inl (fun _ => 0))) (ty := .int) (n := 4) hx hb (hbg _ wd_169) rfl hK.1 hP hD hS hA 0 rfl (fun _ => rfl) (by decide) (by decide) (Nat.le_of_ble_eq_true rfl) (Nat.le_of_ble_eq_true rfl) (Nat.le_of_ble_eq_true rfl) dM_S_init_13 (fun q_2 H hP hD hS => ?_)
  have hP : va_P (dC, dI) classes [(h0, .inr (8, [.int 0, .int 0, .int 0, .ref q_1, .null, .null, .null, .null, .null, .null, .null, .null, .null, .null, .null, .null, .null, .int 0, .int 0, .int 0])), (q_1, .inl (dC 100, 4, .inl (fun _ => 0))), (q_2, .inl (dC 100, 4, .inl (fun _ => 0)))] H := hP
  have hD : va_D A [(h0, .inr (8, [.int 0, .int 0, .int 0, .ref q_1, .null, .null, .null, .null, .null, .null, .null, .null, .null, .null, .null, .null, .null, .int 0, .int 0, .int 0])), (q_1, .inl (dC 100, 4, .inl (fun _ => 0))), (q_2, .inl (dC 100, 4, .inl (fun _ => 0)))] := hD
  refine W.widen (k := 2) (n := 8) (Nat.le_of_ble_eq_true rfl) (Nat.le_of_ble_eq_true rfl) ?_
  refine va_putF (D := (dC, dI)) (ci := 8) (v := .ref q_2) (ty := .array .int) (C := rC_S) (T := fC_S) (N := 20) hx hb hbg iC_S tC_S oC_S nC_S hown hK.1 hP hD hS 0 rfl rfl 4 (by decide) (hbg _ wd_69) (fun _ h9 => h9) rfl hin rfl (by decide +kernel) rfl rfl (Nat.le_of_ble_eq_true rfl) dM_S_init_15 (fun H locs hP hD hS => ?_)
  have hP : va_P (dC, dI) classes [(h0, .inr (8, [.int 0, .int 0, .int 0, .ref q_1, .ref q_2, .null, .null, .null, .null, .null, .null, .null, .null, .null, .null, .null, .null, .int 0, .int 0, .int 0])), (q_1, .inl (dC 100, 4, .inl (fun _ => 0))), (q_2, .inl (dC 100, 4, .inl (fun _ => 0)))] H := hP
  have hD : va_D A [(h0, .inr (8, [.int 0, .int 0, .int 0, .ref q_1, .ref q_2, .null, .null, .null, .null, .null, .null, .null, .null, .null, .null, .null, .null, .int 0, .int 0, .int 0])), (q_1, .inl (dC 100, 4, .inl (fun _ => 0))), (q_2, .inl (dC 100, 4, .inl (fun _ => 0)))] := hD
  refine lv_aload_n hx hb dM_S_init_18 rfl (lv_at hl 0 rfl) ?_
  refine lv_sipush (v := 200) hx hb dM_S_init_19 (by decide) ?_
  refine n_newa (atype := .long) (N' := 200) (a0 := (200, .inr (.inl (fun _ => 0)))) (ty := .long) (n := 200) hx hb (hbg _ wd_170) rfl hK.1 hP hD hS hA 1 rfl (fun _ => rfl) (by decide) (by decide) (Nat.le_of_ble_eq_true rfl) (Nat.le_of_ble_eq_true rfl) (Nat.le_of_ble_eq_true rfl) dM_S_init_22 (fun q_3 H hP hD hS => ?_)
  have hP : va_P (dC, dI) classes [(h0, .inr (8, [.int 0, .int 0, .int 0, .ref q_1, .ref q_2, .null, .null, .null, .null, .null, .null, .null, .null, .null, .null, .null, .null, .int 0, .int 0, .int 0])), (q_1, .inl (dC 100, 4, .inl (fun _ => 0))), (q_2, .inl (dC 100, 4, .inl (fun _ => 0))), (q_3, .inl (dC 101, 200, .inr (.inl (fun _ => 0))))] H := hP
  have hD : va_D A [(h0, .inr (8, [.int 0, .int 0, .int 0, .ref q_1, .ref q_2, .null, .null, .null, .null, .null, .null, .null, .null, .null, .null, .null, .null, .int 0, .int 0, .int 0])), (q_1, .inl (dC 100, 4, .inl (fun _ => 0))), (q_2, .inl (dC 100, 4, .inl (fun _ => 0))), (q_3, .inl (dC 101, 200, .inr (.inl (fun _ => 0))))] := hD
  refine W.widen (k := 3) (n := 208) (Nat.le_of_ble_eq_true rfl) (Nat.le_of_ble_eq_true rfl) ?_
  refine va_putF (D := (dC, dI)) (ci := 8) (v := .ref q_3) (ty := .array .long) (C := rC_S) (T := fC_S) (N := 20) hx hb hbg iC_S tC_S oC_S nC_S hown hK.1 hP hD hS 0 rfl rfl 5 (by decide) (hbg _ wd_74) (fun _ h9 => h9) rfl hin rfl (by decide +kernel) rfl rfl (Nat.le_of_ble_eq_true rfl) dM_S_init_24 (fun H locs hP hD hS => ?_)
  have hP : va_P (dC, dI) classes [(h0, .inr (8, [.int 0, .int 0, .int 0, .ref q_1, .ref q_2, .ref q_3, .null, .null, .null, .null, .null, .null, .null, .null, .null, .null, .null, .int 0, .int 0, .int 0])), (q_1, .inl (dC 100, 4, .inl (fun _ => 0))), (q_2, .inl (dC 100, 4, .inl (fun _ => 0))), (q_3, .inl (dC 101, 200, .inr (.inl (fun _ => 0))))] H := hP
  have hD : va_D A [(h0, .inr (8, [.int 0, .int 0, .int 0, .ref q_1, .ref q_2, .ref q_3, .null, .null, .null, .null, .null, .null, .null, .null, .null, .null, .null, .int 0, .int 0, .int 0])), (q_1, .inl (dC 100, 4, .inl (fun _ => 0))), (q_2, .inl (dC 100, 4, .inl (fun _ => 0))), (q_3, .inl (dC 101, 200, .inr (.inl (fun _ => 0))))] := hD
  refine lv_aload_n hx hb dM_S_init_27 rfl (lv_at hl 0 rfl) ?_
  refine lv_sipush (v := 200) hx hb dM_S_init_28 (by decide) ?_
  refine n_newa (atype := .long) (N' := 200) (a0 := (200, .inr (.inl (fun _ => 0)))) (ty := .long) (n := 200) hx hb (hbg _ wd_170) rfl hK.1 hP hD hS hA 1 rfl (fun _ => rfl) (by decide) (by decide) (Nat.le_of_ble_eq_true rfl) (Nat.le_of_ble_eq_true rfl) (Nat.le_of_ble_eq_true rfl) dM_S_init_31 (fun q_4 H hP hD hS => ?_)
  have hP : va_P (dC, dI) classes [(h0, .inr (8, [.int 0, .int 0, .int 0, .ref q_1, .ref q_2, .ref q_3, .null, .null, .null, .null, .null, .null, .null, .null, .null, .null, .null, .int 0, .int 0, .int 0])), (q_1, .inl (dC 100, 4, .inl (fun _ => 0))), (q_2, .inl (dC 100, 4, .inl (fun _ => 0))), (q_3, .inl (dC 101, 200, .inr (.inl (fun _ => 0)))), (q_4, .inl (dC 101, 200, .inr (.inl (fun _ => 0))))] H := hP
  have hD : va_D A [(h0, .inr (8, [.int 0, .int 0, .int 0, .ref q_1, .ref q_2, .ref q_3, .null, .null, .null, .null, .null, .null, .null, .null, .null, .null, .null, .int 0, .int 0, .int 0])), (q_1, .inl (dC 100, 4, .inl (fun _ => 0))), (q_2, .inl (dC 100, 4, .inl (fun _ => 0))), (q_3, .inl (dC 101, 200, .inr (.inl (fun _ => 0)))), (q_4, .inl (dC 101, 200, .inr (.inl (fun _ => 0))))] := hD
  refine W.widen (k := 4) (n := 408) (Nat.le_of_ble_eq_true rfl) (Nat.le_of_ble_eq_true rfl) ?_
  refine va_putF (D := (dC, dI)) (ci := 8) (v := .ref q_4) (ty := .array .long) (C := rC_S) (T := fC_S) (N := 20) hx hb hbg iC_S tC_S oC_S nC_S hown hK.1 hP hD hS 0 rfl rfl 6 (by decide) (hbg _ wd_79) (fun _ h9 => h9) rfl hin rfl (by decide +kernel) rfl rfl (Nat.le_of_ble_eq_true rfl) dM_S_init_33 (fun H locs hP hD hS => ?_)
  have hP : va_P (dC, dI) classes [(h0, .inr (8, [.int 0, .int 0, .int 0, .ref q_1, .ref q_2, .ref q_3, .ref q_4, .null, .null, .null, .null, .null, .null, .null, .null, .null, .null, .int 0, .int 0, .int 0])), (q_1, .inl (dC 100, 4, .inl (fun _ => 0))), (q_2, .inl (dC 100, 4, .inl (fun _ => 0))), (q_3, .inl (dC 101, 200, .inr (.inl (fun _ => 0)))), (q_4, .inl (dC 101, 200, .inr (.inl (fun _ => 0))))] H := hP
  have hD : va_D A [(h0, .inr (8, [.int 0, .int 0, .int 0, .ref q_1, .ref q_2, .ref q_3, .ref q_4, .null, .null, .null, .null, .null, .null, .null, .null, .null, .null, .int 0, .int 0, .int 0])), (q_1, .inl (dC 100, 4, .inl (fun _ => 0))), (q_2, .inl (dC 100, 4, .inl (fun _ => 0))), (q_3, .inl (dC 101, 200, .inr (.inl (fun _ => 0)))), (q_4, .inl (dC 101, 200, .inr (.inl (fun _ => 0))))] := hD
  refine lv_aload_n hx hb dM_S_init_36 rfl (lv_at hl 0 rfl) ?_
  refine lv_sipush (v := 600) hx hb dM_S_init_37 (by decide) ?_
  refine n_newa (atype := .long) (N' := 600) (a0 := (600, .inr (.inl (fun _ => 0)))) (ty := .long) (n := 600) hx hb (hbg _ wd_170) rfl hK.1 hP hD hS hA 1 rfl (fun _ => rfl) (by decide) (by decide) (Nat.le_of_ble_eq_true rfl) (Nat.le_of_ble_eq_true rfl) (Nat.le_of_ble_eq_true rfl) dM_S_init_40 (fun q_5 H hP hD hS => ?_)
  have hP : va_P (dC, dI) classes [(h0, .inr (8, [.int 0, .int 0, .int 0, .ref q_1, .ref q_2, .ref q_3, .ref q_4, .null, .null, .null, .null, .null, .null, .null, .null, .null, .null, .int 0, .int 0, .int 0])), (q_1, .inl (dC 100, 4, .inl (fun _ => 0))), (q_2, .inl (dC 100, 4, .inl (fun _ => 0))), (q_3, .inl (dC 101, 200, .inr (.inl (fun _ => 0)))), (q_4, .inl (dC 101, 200, .inr (.inl (fun _ => 0)))), (q_5, .inl (dC 101, 600, .inr (.inl (fun _ => 0))))] H := hP
  have hD : va_D A [(h0, .inr (8, [.int 0, .int 0, .int 0, .ref q_1, .ref q_2, .ref q_3, .ref q_4, .null, .null, .null, .null, .null, .null, .null, .null, .null, .null, .int 0, .int 0, .int 0])), (q_1, .inl (dC 100, 4, .inl (fun _ => 0))), (q_2, .inl (dC 100, 4, .inl (fun _ => 0))), (q_3, .inl (dC 101, 200, .inr (.inl (fun _ => 0)))), (q_4, .inl (dC 101, 200, .inr (.inl (fun _ => 0)))), (q_5, .inl (dC 101, 600, .inr (.inl (fun _ => 0))))] := hD
  refine W.widen (k := 5) (n := 1008) (Nat.le_of_ble_eq_true rfl) (Nat.le_of_ble_eq_true rfl) ?_
  refine va_putF (D := (dC, dI)) (ci := 8) (v := .ref q_5) (ty := .array .long) (C := rC_S) (T := fC_S) (N := 20) hx hb hbg iC_S tC_S oC_S nC_S hown hK.1 hP hD hS 0 rfl rfl 7 (by decide) (hbg _ wd_84) (fun _ h9 => h9) rfl hin rfl (by decide +kernel) rfl rfl (Nat.le_of_ble_eq_true rfl) dM_S_init_42 (fun H locs hP hD hS => ?_)
  have hP : va_P (dC, dI) classes [(h0, .inr (8, [.int 0, .int 0, .int 0, .ref q_1, .ref q_2, .ref q_3, .ref q_4, .ref q_5, .null, .null, .null, .null, .null, .null, .null, .null, .null, .int 0, .int 0, .int 0])), (q_1, .inl (dC 100, 4, .inl (fun _ => 0))), (q_2, .inl (dC 100, 4, .inl (fun _ => 0))), (q_3, .inl (dC 101, 200, .inr (.inl (fun _ => 0)))), (q_4, .inl (dC 101, 200, .inr (.inl (fun _ => 0)))), (q_5, .inl (dC 101, 600, .inr (.inl (fun _ => 0))))] H := hP
  have hD : va_D A [(h0, .inr (8, [.int 0, .int 0, .int 0, .ref q_1, .ref q_2, .ref q_3, .ref q_4, .ref q_5, .null, .null, .null, .null, .null, .null, .null, .null, .null, .int 0, .int 0, .int 0])), (q_1, .inl (dC 100, 4, .inl (fun _ => 0))), (q_2, .inl (dC 100, 4, .inl (fun _ => 0))), (q_3, .inl (dC 101, 200, .inr (.inl (fun _ => 0)))), (q_4, .inl (dC 101, 200, .inr (.inl (fun _ => 0)))), (q_5, .inl (dC 101, 600, .inr (.inl (fun _ => 0))))] := hD
  refine lv_aload_n hx hb dM_S_init_45 rfl (lv_at hl 0 rfl) ?_
  refine lv_bipush (v := 6) hx hb dM_S_init_46 (by decide) ?_
  refine n_newa (atype := .int) (N' := 6) (a0 := (6, .inl (fun _ => 0))) (ty := .int) (n := 6) hx hb (hbg _ wd_169) rfl hK.1 hP hD hS hA 0 rfl (fun _ => rfl) (by decide) (by decide) (Nat.le_of_ble_eq_true rfl) (Nat.le_of_ble_eq_true rfl) (Nat.le_of_ble_eq_true rfl) dM_S_init_48 (fun q_6 H hP hD hS => ?_)
  have hP : va_P (dC, dI) classes [(h0, .inr (8, [.int 0, .int 0, .int 0, .ref q_1, .ref q_2, .ref q_3, .ref q_4, .ref q_5, .null, .null, .null, .null, .null, .null, .null, .null, .null, .int 0, .int 0, .int 0])), (q_1, .inl (dC 100, 4, .inl (fun _ => 0))), (q_2, .inl (dC 100, 4, .inl (fun _ => 0))), (q_3, .inl (dC 101, 200, .inr (.inl (fun _ => 0)))), (q_4, .inl (dC 101, 200, .inr (.inl (fun _ => 0)))), (q_5, .inl (dC 101, 600, .inr (.inl (fun _ => 0)))), (q_6, .inl (dC 100, 6, .inl (fun _ => 0)))] H := hP
  have hD : va_D A [(h0, .inr (8, [.int 0, .int 0, .int 0, .ref q_1, .ref q_2, .ref q_3, .ref q_4, .ref q_5, .null, .null, .null, .null, .null, .null, .null, .null, .null, .int 0, .int 0, .int 0])), (q_1, .inl (dC 100, 4, .inl (fun _ => 0))), (q_2, .inl (dC 100, 4, .inl (fun _ => 0))), (q_3, .inl (dC 101, 200, .inr (.inl (fun _ => 0)))), (q_4, .inl (dC 101, 200, .inr (.inl (fun _ => 0)))), (q_5, .inl (dC 101, 600, .inr (.inl (fun _ => 0)))), (q_6, .inl (dC 100, 6, .inl (fun _ => 0)))] := hD
  refine W.widen (k := 6) (n := 1014) (Nat.le_of_ble_eq_true rfl) (Nat.le_of_ble_eq_true rfl) ?_
  refine va_putF (D := (dC, dI)) (ci := 8) (v := .ref q_6) (ty := .array .int) (C := rC_S) (T := fC_S) (N := 20) hx hb hbg iC_S tC_S oC_S nC_S hown hK.1 hP hD hS 0 rfl rfl 8 (by decide) (hbg _ wd_88) (fun _ h9 => h9) rfl hin rfl (by decide +kernel) rfl rfl (Nat.le_of_ble_eq_true rfl) dM_S_init_50 (fun H locs hP hD hS => ?_)
  have hP : va_P (dC, dI) classes [(h0, .inr (8, [.int 0, .int 0, .int 0, .ref q_1, .ref q_2, .ref q_3, .ref q_4, .ref q_5, .ref q_6, .null, .null, .null, .null, .null, .null, .null, .null, .int 0, .int 0, .int 0])), (q_1, .inl (dC 100, 4, .inl (fun _ => 0))), (q_2, .inl (dC 100, 4, .inl (fun _ => 0))), (q_3, .inl (dC 101, 200, .inr (.inl (fun _ => 0)))), (q_4, .inl (dC 101, 200, .inr (.inl (fun _ => 0)))), (q_5, .inl (dC 101, 600, .inr (.inl (fun _ => 0)))), (q_6, .inl (dC 100, 6, .inl (fun _ => 0)))] H := hP
  have hD : va_D A [(h0, .inr (8, [.int 0, .int 0, .int 0, .ref q_1, .ref q_2, .ref q_3, .ref q_4, .ref q_5, .ref q_6, .null, .null, .null, .null, .null, .null, .null, .null, .int 0, .int 0, .int 0])), (q_1, .inl (dC 100, 4, .inl (fun _ => 0))), (q_2, .inl (dC 100, 4, .inl (fun _ => 0))), (q_3, .inl (dC 101, 200, .inr (.inl (fun _ => 0)))), (q_4, .inl (dC 101, 200, .inr (.inl (fun _ => 0)))), (q_5, .inl (dC 101, 600, .inr (.inl (fun _ => 0)))), (q_6, .inl (dC 100, 6, .inl (fun _ => 0)))] := hD
  refine lv_aload_n hx hb dM_S_init_53 rfl (lv_at hl 0 rfl) ?_
  refine lv_iconst (v := 4) hx hb dM_S_init_54 (by decide) ?_
  refine n_newa (atype := .int) (N' := 4) (a0 := (4, .inl (fun _ => 0))) (ty := .int) (n := 4) hx hb (hbg _ wd_169) rfl hK.1 hP hD hS hA 0 rfl (fun _ => rfl) (by decide) (by decide) (Nat.le_of_ble_eq_true rfl) (Nat.le_of_ble_eq_true rfl) (Nat.le_of_ble_eq_true rfl) dM_S_init_55 (fun q_7 H hP hD hS => ?_)
  have hP : va_P (dC, dI) classes [(h0, .inr (8, [.int 0, .int 0, .int 0, .ref q_1, .ref q_2, .ref q_3, .ref q_4, .ref q_5, .ref q_6, .null, .null, .null, .null, .null, .null, .null, .null, .int 0, .int 0, .int 0])), (q_1, .inl (dC 100, 4, .inl (fun _ => 0))), (q_2, .inl (dC 100, 4, .inl (fun _ => 0))), (q_3, .inl (dC 101, 200, .inr (.inl (fun _ => 0)))), (q_4, .inl (dC 101, 200, .inr (.inl (fun _ => 0)))), (q_5, .inl (dC 101, 600, .inr (.inl (fun _ => 0)))), (q_6, .inl (dC 100, 6, .inl (fun _ => 0))), (q_7, .inl (dC 100, 4, .inl (fun _ => 0)))] H := hP
  have hD : va_D A [(h0, .inr (8, [.int 0, .int 0, .int 0, .ref q_1, .ref q_2, .ref q_3, .ref q_4, .ref q_5, .ref q_6, .null, .null, .null, .null, .null, .null, .null, .null, .int 0, .int 0, .int 0])), (q_1, .inl (dC 100, 4, .inl (fun _ => 0))), (q_2, .inl (dC 100, 4, .inl (fun _ => 0))), (q_3, .inl (dC 101, 200, .inr (.inl (fun _ => 0)))), (q_4, .inl (dC 101, 200, .inr (.inl (fun _ => 0)))), (q_5, .inl (dC 101, 600, .inr (.inl (fun _ => 0)))), (q_6, .inl (dC 100, 6, .inl (fun _ => 0))), (q_7, .inl (dC 100, 4, .inl (fun _ => 0)))] := hD
  refine W.widen (k := 7) (n := 1018) (Nat.le_of_ble_eq_true rfl) (Nat.le_of_ble_eq_true rfl) ?_
  refine va_putF (D := (dC, dI)) (ci := 8) (v := .ref q_7) (ty := .array .int) (C := rC_S) (T := fC_S) (N := 20) hx hb hbg iC_S tC_S oC_S nC_S hown hK.1 hP hD hS 0 rfl rfl 9 (by decide) (hbg _ wd_91) (fun _ h9 => h9) rfl hin rfl (by decide +kernel) rfl rfl (Nat.le_of_ble_eq_true rfl) dM_S_init_57 (fun H locs hP hD hS => ?_)
  have hP : va_P (dC, dI) classes [(h0, .inr (8, [.int 0, .int 0, .int 0, .ref q_1, .ref q_2, .ref q_3, .ref q_4, .ref q_5, .ref q_6, .ref q_7, .null, .null, .null, .null, .null, .null, .null, .int 0, .int 0, .int 0])), (q_1, .inl (dC 100, 4, .inl (fun _ => 0))), (q_2, .inl (dC 100, 4, .inl (fun _ => 0))), (q_3, .inl (dC 101, 200, .inr (.inl (fun _ => 0)))), (q_4, .inl (dC 101, 200, .inr (.inl (fun _ => 0)))), (q_5, .inl (dC 101, 600, .inr (.inl (fun _ => 0)))), (q_6, .inl (dC 100, 6, .inl (fun _ => 0))), (q_7, .inl (dC 100, 4, .inl (fun _ => 0)))] H := hP
  have hD : va_D A [(h0, .inr (8, [.int 0, .int 0, .int 0, .ref q_1, .ref q_2, .ref q_3, .ref q_4, .ref q_5, .ref q_6, .ref q_7, .null, .null, .null, .null, .null, .null, .null, .int 0, .int 0, .int 0])), (q_1, .inl (dC 100, 4, .inl (fun _ => 0))), (q_2, .inl (dC 100, 4, .inl (fun _ => 0))), (q_3, .inl (dC 101, 200, .inr (.inl (fun _ => 0)))), (q_4, .inl (dC 101, 200, .inr (.inl (fun _ => 0)))), (q_5, .inl (dC 101, 600, .inr (.inl (fun _ => 0)))), (q_6, .inl (dC 100, 6, .inl (fun _ => 0))), (q_7, .inl (dC 100, 4, .inl (fun _ => 0)))] := hD
  refine lv_aload_n hx hb dM_S_init_60 rfl (lv_at hl 0 rfl) ?_
  refine lv_bipush (v := 24) hx hb dM_S_init_61 (by decide) ?_
  refine n_newa (atype := .int) (N' := 24) (a0 := (24, .inl (fun _ => 0))) (ty := .int) (n := 24) hx hb (hbg _ wd_169) rfl hK.1 hP hD hS hA 0 rfl (fun _ => rfl) (by decide) (by decide) (Nat.le_of_ble_eq_true rfl) (Nat.le_of_ble_eq_true rfl) (Nat.le_of_ble_eq_true rfl) dM_S_init_63 (fun q_8 H hP hD hS => ?_)
  have hP : va_P (dC, dI) classes [(h0, .inr (8, [.int 0, .int 0, .int 0, .ref q_1, .ref q_2, .ref q_3, .ref q_4, .ref q_5, .ref q_6, .ref q_7, .null, .null, .null, .null, .null, .null, .null, .int 0, .int 0, .int 0])), (q_1, .inl (dC 100, 4, .inl (fun _ => 0))), (q_2, .inl (dC 100, 4, .inl (fun _ => 0))), (q_3, .inl (dC 101, 200, .inr (.inl (fun _ => 0)))), (q_4, .inl (dC 101, 200, .inr (.inl (fun _ => 0)))), (q_5, .inl (dC 101, 600, .inr (.inl (fun _ => 0)))), (q_6, .inl (dC 100, 6, .inl (fun _ => 0))), (q_7, .inl (dC 100, 4, .inl (fun _ => 0))), (q_8, .inl (dC 100, 24, .inl (fun _ => 0)))] H := hP
  have hD : va_D A [(h0, .inr (8, [.int 0, .int 0, .int 0, .ref q_1, .ref q_2, .ref q_3, .ref q_4, .ref q_5, .ref q_6, .ref q_7, .null, .null, .null, .null, .null, .null, .null, .int 0, .int 0, .int 0])), (q_1, .inl (dC 100, 4, .inl (fun _ => 0))), (q_2, .inl (dC 100, 4, .inl (fun _ => 0))), (q_3, .inl (dC 101, 200, .inr (.inl (fun _ => 0)))), (q_4, .inl (dC 101, 200, .inr (.inl (fun _ => 0)))), (q_5, .inl (dC 101, 600, .inr (.inl (fun _ => 0)))), (q_6, .inl (dC 100, 6, .inl (fun _ => 0))), (q_7, .inl (dC 100, 4, .inl (fun _ => 0))), (q_8, .inl (dC 100, 24, .inl (fun _ => 0)))] := hD
  refine W.widen (k := 8) (n := 1042) (Nat.le_of_ble_eq_true rfl) (Nat.le_of_ble_eq_true rfl) ?_
  refine va_putF (D := (dC, dI)) (ci := 8) (v := .ref q_8) (ty := .array .int) (C := rC_S) (T := fC_S) (N := 20) hx hb hbg iC_S tC_S oC_S nC_S hown hK.1 hP hD hS 0 rfl rfl 10 (by decide) (hbg _ wd_94) (fun _ h9 => h9) rfl hin rfl (by decide +kernel) rfl rfl (Nat.le_of_ble_eq_true rfl) dM_S_init_65 (fun H locs hP hD hS => ?_)
  have hP : va_P (dC, dI) classes [(h0, .inr (8, [.int 0, .int 0, .int 0, .ref q_1, .ref q_2, .ref q_3, .ref q_4, .ref q_5, .ref q_6, .ref q_7, .ref q_8, .null, .null, .null, .null, .null, .null, .int 0, .int 0, .int 0])), (q_1, .inl (dC 100, 4, .inl (fun _ => 0))), (q_2, .inl (dC 100, 4, .inl (fun _ => 0))), (q_3, .inl (dC 101, 200, .inr (.inl (fun _ => 0)))), (q_4, .inl (dC 101, 200, .inr (.inl (fun _ => 0)))), (q_5, .inl (dC 101, 600, .inr (.inl (fun _ => 0)))), (q_6, .inl (dC 100, 6, .inl (fun _ => 0))), (q_7, .inl (dC 100, 4, .inl (fun _ => 0))), (q_8, .inl (dC 100, 24, .inl (fun _ => 0)))] H := hP
  have hD : va_D A [(h0, .inr (8, [.int 0, .int 0, .int 0, .ref q_1, .ref q_2, .ref q_3, .ref q_4, .ref q_5, .ref q_6, .ref q_7, .ref q_8, .null, .null, .null, .null, .null, .null, .int 0, .int 0, .int 0])), (q_1, .inl (dC 100, 4, .inl (fun _ => 0))), (q_2, .inl (dC 100, 4, .inl (fun _ => 0))), (q_3, .inl (dC 101, 200, .inr (.inl (fun _ => 0)))), (q_4, .inl (dC 101, 200, .inr (.inl (fun _ => 0)))), (q_5, .inl (dC 101, 600, .inr (.inl (fun _ => 0)))), (q_6, .inl (dC 100, 6, .inl (fun _ => 0))), (q_7, .inl (dC 100, 4, .inl (fun _ => 0))), (q_8, .inl (dC 100, 24, .inl (fun _ => 0)))] := hD
  refine lv_aload_n hx hb dM_S_init_68 rfl (lv_at hl 0 rfl) ?_
  refine lv_iconst (v := 3) hx hb dM_S_init_69 (by decide) ?_
  refine n_newa (atype := .int) (N' := 3) (a0 := (3, .inl (fun _ => 0))) (ty := .int) (n := 3) hx hb (hbg _ wd_169) rfl hK.1 hP hD hS hA 0 rfl (fun _ => rfl) (by decide) (by decide) (Nat.le_of_ble_eq_true rfl) (Nat.le_of_ble_eq_true rfl) (Nat.le_of_ble_eq_true rfl) dM_S_init_70 (fun q_9 H hP hD hS => ?_)
  have hP : va_P (dC, dI) classes [(h0, .inr (8, [.int 0, .int 0, .int 0, .ref q_1, .ref q_2, .ref q_3, .ref q_4, .ref q_5, .ref q_6, .ref q_7, .ref q_8, .null, .null, .null, .null, .null, .null, .int 0, .int 0, .int 0])), (q_1, .inl (dC 100, 4, .inl (fun _ => 0))), (q_2, .inl (dC 100, 4, .inl (fun _ => 0))), (q_3, .inl (dC 101, 200, .inr (.inl (fun _ => 0)))), (q_4, .inl (dC 101, 200, .inr (.inl (fun _ => 0)))), (q_5, .inl (dC 101, 600, .inr (.inl (fun _ => 0)))), (q_6, .inl (dC 100, 6, .inl (fun _ => 0))), (q_7, .inl (dC 100, 4, .inl (fun _ => 0))), (q_8, .inl (dC 100, 24, .inl (fun _ => 0))), (q_9, .inl (dC 100, 3, .inl (fun _ => 0)))] H := hP
  have hD : va_D A [(h0, .inr (8, [.int 0, .int 0, .int 0, .ref q_1, .ref q_2, .ref q_3, .ref q_4, .ref q_5, .ref q_6, .ref q_7, .ref q_8, .null, .null, .null, .null, .null, .null, .int 0, .int 0, .int 0])), (q_1, .inl (dC 100, 4, .inl (fun _ => 0))), (q_2, .inl (dC 100, 4, .inl (fun _ => 0))), (q_3, .inl (dC 101, 200, .inr (.inl (fun _ => 0)))), (q_4, .inl (dC 101, 200, .inr (.inl (fun _ => 0)))), (q_5, .inl (dC 101, 600, .inr (.inl (fun _ => 0)))), (q_6, .inl (dC 100, 6, .inl (fun _ => 0))), (q_7, .inl (dC 100, 4, .inl (fun _ => 0))), (q_8, .inl (dC 100, 24, .inl (fun _ => 0))), (q_9, .inl (dC 100, 3, .inl (fun _ => 0)))] := hD
  refine W.widen (k := 9) (n := 1045) (Nat.le_of_ble_eq_true rfl) (Nat.le_of_ble_eq_true rfl) ?_
  refine va_putF (D := (dC, dI)) (ci := 8) (v := .ref q_9) (ty := .array .int) (C := rC_S) (T := fC_S) (N := 20) hx hb hbg iC_S tC_S oC_S nC_S hown hK.1 hP hD hS 0 rfl rfl 11 (by decide) (hbg _ wd_97) (fun _ h9 => h9) rfl hin rfl (by decide +kernel) rfl rfl (Nat.le_of_ble_eq_true rfl) dM_S_init_72 (fun H locs hP hD hS => ?_)
  have hP : va_P (dC, dI) classes [(h0, .inr (8, [.int 0, .int 0, .int 0, .ref q_1, .ref q_2, .ref q_3, .ref q_4, .ref q_5, .ref q_6, .ref q_7, .ref q_8, .ref q_9, .null, .null, .null, .null, .null, .int 0, .int 0, .int 0])), (q_1, .inl (dC 100, 4, .inl (fun _ => 0))), (q_2, .inl (dC 100, 4, .inl (fun _ => 0))), (q_3, .inl (dC 101, 200, .inr (.inl (fun _ => 0)))), (q_4, .inl (dC 101, 200, .inr (.inl (fun _ => 0)))), (q_5, .inl (dC 101, 600, .inr (.inl (fun _ => 0)))), (q_6, .inl (dC 100, 6, .inl (fun _ => 0))), (q_7, .inl (dC 100, 4, .inl (fun _ => 0))), (q_8, .inl (dC 100, 24, .inl (fun _ => 0))), (q_9, .inl (dC 100, 3, .inl (fun _ => 0)))] H := hP
  have hD : va_D A [(h0, .inr (8, [.int 0, .int 0, .int 0, .ref q_1, .ref q_2, .ref q_3, .ref q_4, .ref q_5, .ref q_6, .ref q_7, .ref q_8, .ref q_9, .null, .null, .null, .null, .null, .int 0, .int 0, .int 0])), (q_1, .inl (dC 100, 4, .inl (fun _ => 0))), (q_2, .inl (dC 100, 4, .inl (fun _ => 0))), (q_3, .inl (dC 101, 200, .inr (.inl (fun _ => 0)))), (q_4, .inl (dC 101, 200, .inr (.inl (fun _ => 0)))), (q_5, .inl (dC 101, 600, .inr (.inl (fun _ => 0)))), (q_6, .inl (dC 100, 6, .inl (fun _ => 0))), (q_7, .inl (dC 100, 4, .inl (fun _ => 0))), (q_8, .inl (dC 100, 24, .inl (fun _ => 0))), (q_9, .inl (dC 100, 3, .inl (fun _ => 0)))] := hD
  refine lv_aload_n hx hb dM_S_init_75 rfl (lv_at hl 0 rfl) ?_
  refine lv_sipush (v := 150) hx hb dM_S_init_76 (by decide) ?_
  refine n_newa (atype := .int) (N' := 150) (a0 := (150, .inl (fun _ => 0))) (ty := .int) (n := 150) hx hb (hbg _ wd_169) rfl hK.1 hP hD hS hA 0 rfl (fun _ => rfl) (by decide) (by decide) (Nat.le_of_ble_eq_true rfl) (Nat.le_of_ble_eq_true rfl) (Nat.le_of_ble_eq_true rfl) dM_S_init_79 (fun q_10 H hP hD hS => ?_)
  have hP : va_P (dC, dI) classes [(h0, .inr (8, [.int 0, .int 0, .int 0, .ref q_1, .ref q_2, .ref q_3, .ref q_4, .ref q_5, .ref q_6, .ref q_7, .ref q_8, .ref q_9, .null, .null, .null, .null, .null, .int 0, .int 0, .int 0])), (q_1, .inl (dC 100, 4, .inl (fun _ => 0))), (q_2, .inl (dC 100, 4, .inl (fun _ => 0))), (q_3, .inl (dC 101, 200, .inr (.inl (fun _ => 0)))), (q_4, .inl (dC 101, 200, .inr (.inl (fun _ => 0)))), (q_5, .inl (dC 101, 600, .inr (.inl (fun _ => 0)))), (q_6, .inl (dC 100, 6, .inl (fun _ => 0))), (q_7, .inl (dC 100, 4, .inl (fun _ => 0))), (q_8, .inl (dC 100, 24, .inl (fun _ => 0))), (q_9, .inl (dC 100, 3, .inl (fun _ => 0))), (q_10, .inl (dC 100, 150, .inl (fun _ => 0)))] H := hP
  have hD : va_D A [(h0, .inr (8, [.int 0, .int 0, .int 0, .ref q_1, .ref q_2, .ref q_3, .ref q_4, .ref q_5, .ref q_6, .ref q_7, .ref q_8, .ref q_9, .null, .null, .null, .null, .null, .int 0, .int 0, .int 0])), (q_1, .inl (dC 100, 4, .inl (fun _ => 0))), (q_2, .inl (dC 100, 4, .inl (fun _ => 0))), (q_3, .inl (dC 101, 200, .inr (.inl (fun _ => 0)))), (q_4, .inl (dC 101, 200, .inr (.inl (fun _ => 0)))), (q_5, .inl (dC 101, 600, .inr (.inl (fun _ => 0)))), (q_6, .inl (dC 100, 6, .inl (fun _ => 0))), (q_7, .inl (dC 100, 4, .inl (fun _ => 0))), (q_8, .inl (dC 100, 24, .inl (fun _ => 0))), (q_9, .inl (dC 100, 3, .inl (fun _ => 0))), (q_10, .inl (dC 100, 150, .inl (fun _ => 0)))] := hD
  refine W.widen (k := 10) (n := 1195) (Nat.le_of_ble_eq_true rfl) (Nat.le_of_ble_eq_true rfl) ?_
  refine va_putF (D := (dC, dI)) (ci := 8) (v := .ref q_10) (ty := .array .int) (C := rC_S) (T := fC_S) (N := 20) hx hb hbg iC_S tC_S oC_S nC_S hown hK.1 hP hD hS 0 rfl rfl 12 (by decide) (hbg _ wd_101) (fun _ h9 => h9) rfl hin rfl (by decide +kernel) rfl rfl (Nat.le_of_ble_eq_true rfl) dM_S_init_81 (fun H locs hP hD hS => ?_)
  have hP : va_P (dC, dI) classes [(h0, .inr (8, [.int 0, .int 0, .int 0, .ref q_1, .ref q_2, .ref q_3, .ref q_4, .ref q_5, .ref q_6, .ref q_7, .ref q_8, .ref q_9, .ref q_10, .null, .null, .null, .null, .int 0, .int 0, .int 0])), (q_1, .inl (dC 100, 4, .inl (fun _ => 0))), (q_2, .inl (dC 100, 4, .inl (fun _ => 0))), (q_3, .inl (dC 101, 200, .inr (.inl (fun _ => 0)))), (q_4, .inl (dC 101, 200, .inr (.inl (fun _ => 0)))), (q_5, .inl (dC 101, 600, .inr (.inl (fun _ => 0)))), (q_6, .inl (dC 100, 6, .inl (fun _ => 0))), (q_7, .inl (dC 100, 4, .inl (fun _ => 0))), (q_8, .inl (dC 100, 24, .inl (fun _ => 0))), (q_9, .inl (dC 100, 3, .inl (fun _ => 0))), (q_10, .inl (dC 100, 150, .inl (fun _ => 0)))] H := hP
  have hD : va_D A [(h0, .inr (8, [.int 0, .int 0, .int 0, .ref q_1, .ref q_2, .ref q_3, .ref q_4, .ref q_5, .ref q_6, .ref q_7, .ref q_8, .ref q_9, .ref q_10, .null, .null, .null, .null, .int 0, .int 0, .int 0])), (q_1, .inl (dC 100, 4, .inl (fun _ => 0))), (q_2, .inl (dC 100, 4, .inl (fun _ => 0))), (q_3, .inl (dC 101, 200, .inr (.inl (fun _ => 0)))), (q_4, .inl (dC 101, 200, .inr (.inl (fun _ => 0)))), (q_5, .inl (dC 101, 600, .inr (.inl (fun _ => 0)))), (q_6, .inl (dC 100, 6, .inl (fun _ => 0))), (q_7, .inl (dC 100, 4, .inl (fun _ => 0))), (q_8, .inl (dC 100, 24, .inl (fun _ => 0))), (q_9, .inl (dC 100, 3, .inl (fun _ => 0))), (q_10, .inl (dC 100, 150, .inl (fun _ => 0)))] := hD
  refine lv_aload_n hx hb dM_S_init_84 rfl (lv_at hl 0 rfl) ?_
  refine lv_sipush (v := 150) hx hb dM_S_init_85 (by decide) ?_
  refine n_newa (atype := .int) (N' := 150) (a0 := (150, .inl (fun _ => 0))) (ty := .int) (n := 150) hx hb (hbg _ wd_169) rfl hK.1 hP hD hS hA 0 rfl (fun _ => rfl) (by decide) (by decide) (Nat.le_of_ble_eq_true rfl) (Nat.le_of_ble_eq_true rfl) (Nat.le_of_ble_eq_true rfl) dM_S_init_88 (fun q_11 H hP hD hS => ?_)
  have hP : va_P (dC, dI) classes [(h0, .inr (8, [.int 0, .int 0, .int 0, .ref q_1, .ref q_2, .ref q_3, .ref q_4, .ref q_5, .ref q_6, .ref q_7, .ref q_8, .ref q_9, .ref q_10, .null, .null, .null, .null, .int 0, .int 0, .int 0])), (q_1, .inl (dC 100, 4, .inl (fun _ => 0))), (q_2, .inl (dC 100, 4, .inl (fun _ => 0))), (q_3, .inl (dC 101, 200, .inr (.inl (fun _ => 0)))), (q_4, .inl (dC 101, 200, .inr (.inl (fun _ => 0)))), (q_5, .inl (dC 101, 600, .inr (.inl (fun _ => 0)))), (q_6, .inl (dC 100, 6, .inl (fun _ => 0))), (q_7, .inl (dC 100, 4, .inl (fun _ => 0))), (q_8, .inl (dC 100, 24, .inl (fun _ => 0))), (q_9, .inl (dC 100, 3, .inl (fun _ => 0))), (q_10, .inl (dC 100, 150, .inl (fun _ => 0))), (q_11, .inl (dC 100, 150, .inl (fun _ => 0)))] H := hP
  have hD : va_D A [(h0, .inr (8, [.int 0, .int 0, .int 0, .ref q_1, .ref q_2, .ref q_3, .ref q_4, .ref q_5, .ref q_6, .ref q_7, .ref q_8, .ref q_9, .ref q_10, .null, .null, .null, .null, .int 0, .int 0, .int 0])), (q_1, .inl (dC 100, 4, .inl (fun _ => 0))), (q_2, .inl (dC 100, 4, .inl (fun _ => 0))), (q_3, .inl (dC 101, 200, .inr (.inl (fun _ => 0)))), (q_4, .inl (dC 101, 200, .inr (.inl (fun _ => 0)))), (q_5, .inl (dC 101, 600, .inr (.inl (fun _ => 0)))), (q_6, .inl (dC 100, 6, .inl (fun _ => 0))), (q_7, .inl (dC 100, 4, .inl (fun _ => 0))), (q_8, .inl (dC 100, 24, .inl (fun _ => 0))), (q_9, .inl (dC 100, 3, .inl (fun _ => 0))), (q_10, .inl (dC 100, 150, .inl (fun _ => 0))), (q_11, .inl (dC 100, 150, .inl (fun _ => 0)))] := hD
  refine W.widen (k := 11) (n := 1345) (Nat.le_of_ble_eq_true rfl) (Nat.le_of_ble_eq_true rfl) ?_
  refine va_putF (D := (dC, dI)) (ci := 8) (v := .ref q_11) (ty := .array .int) (C := rC_S) (T := fC_S) (N := 20) hx hb hbg iC_S tC_S oC_S nC_S hown hK.1 hP hD hS 0 rfl rfl 13 (by decide) (hbg _ wd_105) (fun _ h9 => h9) rfl hin rfl (by decide +kernel) rfl rfl (Nat.le_of_ble_eq_true rfl) dM_S_init_90 (fun H locs hP hD hS => ?_)
  have hP : va_P (dC, dI) classes [(h0, .inr (8, [.int 0, .int 0, .int 0, .ref q_1, .ref q_2, .ref q_3, .ref q_4, .ref q_5, .ref q_6, .ref q_7, .ref q_8, .ref q_9, .ref q_10, .ref q_11, .null, .null, .null, .int 0, .int 0, .int 0])), (q_1, .inl (dC 100, 4, .inl (fun _ => 0))), (q_2, .inl (dC 100, 4, .inl (fun _ => 0))), (q_3, .inl (dC 101, 200, .inr (.inl (fun _ => 0)))), (q_4, .inl (dC 101, 200, .inr (.inl (fun _ => 0)))), (q_5, .inl (dC 101, 600, .inr (.inl (fun _ => 0)))), (q_6, .inl (dC 100, 6, .inl (fun _ => 0))), (q_7, .inl (dC 100, 4, .inl (fun _ => 0))), (q_8, .inl (dC 100, 24, .inl (fun _ => 0))), (q_9, .inl (dC 100, 3, .inl (fun _ => 0))), (q_10, .inl (dC 100, 150, .inl (fun _ => 0))), (q_11, .inl (dC 100, 150, .inl (fun _ => 0)))] H := hP
  have hD : va_D A [(h0, .inr (8, [.int 0, .int 0, .int 0, .ref q_1, .ref q_2, .ref q_3, .ref q_4, .ref q_5, .ref q_6, .ref q_7, .ref q_8, .ref q_9, .ref q_10, .ref q_11, .null, .null, .null, .int 0, .int 0, .int 0])), (q_1, .inl (dC 100, 4, .inl (fun _ => 0))), (q_2, .inl (dC 100, 4, .inl (fun _ => 0))), (q_3, .inl (dC 101, 200, .inr (.inl (fun _ => 0)))), (q_4, .inl (dC 101, 200, .inr (.inl (fun _ => 0)))), (q_5, .inl (dC 101, 600, .inr (.inl (fun _ => 0)))), (q_6, .inl (dC 100, 6, .inl (fun _ => 0))), (q_7, .inl (dC 100, 4, .inl (fun _ => 0))), (q_8, .inl (dC 100, 24, .inl (fun _ => 0))), (q_9, .inl (dC 100, 3, .inl (fun _ => 0))), (q_10, .inl (dC 100, 150, .inl (fun _ => 0))), (q_11, .inl (dC 100, 150, .inl (fun _ => 0)))] := hD
  refine lv_aload_n hx hb dM_S_init_93 rfl (lv_at hl 0 rfl) ?_
  refine lv_sipush (v := 150) hx hb dM_S_init_94 (by decide) ?_
  refine n_newa (atype := .int) (N' := 150) (a0 := (150, .inl (fun _ => 0))) (ty := .int) (n := 150) hx hb (hbg _ wd_169) rfl hK.1 hP hD hS hA 0 rfl (fun _ => rfl) (by decide) (by decide) (Nat.le_of_ble_eq_true rfl) (Nat.le_of_ble_eq_true rfl) (Nat.le_of_ble_eq_true rfl) dM_S_init_97 (fun q_12 H hP hD hS => ?_)
  have hP : va_P (dC, dI) classes [(h0, .inr (8, [.int 0, .int 0, .int 0, .ref q_1, .ref q_2, .ref q_3, .ref q_4, .ref q_5, .ref q_6, .ref q_7, .ref q_8, .ref q_9, .ref q_10, .ref q_11, .null, .null, .null, .int 0, .int 0, .int 0])), (q_1, .inl (dC 100, 4, .inl (fun _ => 0))), (q_2, .inl (dC 100, 4, .inl (fun _ => 0))), (q_3, .inl (dC 101, 200, .inr (.inl (fun _ => 0)))), (q_4, .inl (dC 101, 200, .inr (.inl (fun _ => 0)))), (q_5, .inl (dC 101, 600, .inr (.inl (fun _ => 0)))), (q_6, .inl (dC 100, 6, .inl (fun _ => 0))), (q_7, .inl (dC 100, 4, .inl (fun _ => 0))), (q_8, .inl (dC 100, 24, .inl (fun _ => 0))), (q_9, .inl (dC 100, 3, .inl (fun _ => 0))), (q_10, .inl (dC 100, 150, .inl (fun _ => 0))), (q_11, .inl (dC 100, 150, .inl (fun _ => 0))), (q_12, .inl (dC 100, 150, .inl (fun _ => 0)))] H := hP
  have hD : va_D A [(h0, .inr (8, [.int 0, .int 0, .int 0, .ref q_1, .ref q_2, .ref q_3, .ref q_4, .ref q_5, .ref q_6, .ref q_7, .ref q_8, .ref q_9, .ref q_10, .ref q_11, .null, .null, .null, .int 0, .int 0, .int 0])), (q_1, .inl (dC 100, 4, .inl (fun _ => 0))), (q_2, .inl (dC 100, 4, .inl (fun _ => 0))), (q_3, .inl (dC 101, 200, .inr (.inl (fun _ => 0)))), (q_4, .inl (dC 101, 200, .inr (.inl (fun _ => 0)))), (q_5, .inl (dC 101, 600, .inr (.inl (fun _ => 0)))), (q_6, .inl (dC 100, 6, .inl (fun _ => 0))), (q_7, .inl (dC 100, 4, .inl (fun _ => 0))), (q_8, .inl (dC 100, 24, .inl (fun _ => 0))), (q_9, .inl (dC 100, 3, .inl (fun _ => 0))), (q_10, .inl (dC 100, 150, .inl (fun _ => 0))), (q_11, .inl (dC 100, 150, .inl (fun _ => 0))), (q_12, .inl (dC 100, 150, .inl (fun _ => 0)))] := hD
  refine W.widen (k := 12) (n := 1495) (Nat.le_of_ble_eq_true rfl) (Nat.le_of_ble_eq_true rfl) ?_
  refine va_putF (D := (dC, dI)) (ci := 8) (v := .ref q_12) (ty := .array .int) (C := rC_S) (T := fC_S) (N := 20) hx hb hbg iC_S tC_S oC_S nC_S hown hK.1 hP hD hS 0 rfl rfl 14 (by decide) (hbg _ wd_109) (fun _ h9 => h9) rfl hin rfl (by decide +kernel) rfl rfl (Nat.le_of_ble_eq_true rfl) dM_S_init_99 (fun H locs hP hD hS => ?_)
  have hP : va_P (dC, dI) classes [(h0, .inr (8, [.int 0, .int 0, .int 0, .ref q_1, .ref q_2, .ref q_3, .ref q_4, .ref q_5, .ref q_6, .ref q_7, .ref q_8, .ref q_9, .ref q_10, .ref q_11, .ref q_12, .null, .null, .int 0, .int 0, .int 0])), (q_1, .inl (dC 100, 4, .inl (fun _ => 0))), (q_2, .inl (dC 100, 4, .inl (fun _ => 0))), (q_3, .inl (dC 101, 200, .inr (.inl (fun _ => 0)))), (q_4, .inl (dC 101, 200, .inr (.inl (fun _ => 0)))), (q_5, .inl (dC 101, 600, .inr (.inl (fun _ => 0)))), (q_6, .inl (dC 100, 6, .inl (fun _ => 0))), (q_7, .inl (dC 100, 4, .inl (fun _ => 0))), (q_8, .inl (dC 100, 24, .inl (fun _ => 0))), (q_9, .inl (dC 100, 3, .inl (fun _ => 0))), (q_10, .inl (dC 100, 150, .inl (fun _ => 0))), (q_11, .inl (dC 100, 150, .inl (fun _ => 0))), (q_12, .inl (dC 100, 150, .inl (fun _ => 0)))] H := hP
  have hD : va_D A [(h0, .inr (8, [.int 0, .int 0, .int 0, .ref q_1, .ref q_2, .ref q_3, .ref q_4, .ref q_5, .ref q_6, .ref q_7, .ref q_8, .ref q_9, .ref q_10, .ref q_11, .ref q_12, .null, .null, .int 0, .int 0, .int 0])), (q_1, .inl (dC 100, 4, .inl (fun _ => 0))), (q_2, .inl (dC 100, 4, .inl (fun _ => 0))), (q_3, .inl (dC 101, 200, .inr (.inl (fun _ => 0)))), (q_4, .inl (dC 101, 200, .inr (.inl (fun _ => 0)))), (q_5, .inl (dC 101, 600, .inr (.inl (fun _ => 0)))), (q_6, .inl (dC 100, 6, .inl (fun _ => 0))), (q_7, .inl (dC 100, 4, .inl (fun _ => 0))), (q_8, .inl (dC 100, 24, .inl (fun _ => 0))), (q_9, .inl (dC 100, 3, .inl (fun _ => 0))), (q_10, .inl (dC 100, 150, .inl (fun _ => 0))), (q_11, .inl (dC 100, 150, .inl (fun _ => 0))), (q_12, .inl (dC 100, 150, .inl (fun _ => 0)))] := hD
  refine lv_aload_n hx hb dM_S_init_102 rfl (lv_at hl 0 rfl) ?_
  refine lv_sipush (v := 150) hx hb dM_S_init_103 (by decide) ?_
  refine n_newa (atype := .boolean) (N' := 150) (a0 := (150, .inl (fun _ => 0))) (ty := .boolean) (n := 150) hx hb (hbg _ wd_171) rfl hK.1 hP hD hS hA 2 rfl (fun _ => rfl) (by decide) (by decide) (Nat.le_of_ble_eq_true rfl) (Nat.le_of_ble_eq_true rfl) (Nat.le_of_ble_eq_true rfl) dM_S_init_106 (fun q_13 H hP hD hS => ?_)
  have hP : va_P (dC, dI) classes [(h0, .inr (8, [.int 0, .int 0, .int 0, .ref q_1, .ref q_2, .ref q_3, .ref q_4, .ref q_5, .ref q_6, .ref q_7, .ref q_8, .ref q_9, .ref q_10, .ref q_11, .ref q_12, .null, .null, .int 0, .int 0, .int 0])), (q_1, .inl (dC 100, 4, .inl (fun _ => 0))), (q_2, .inl (dC 100, 4, .inl (fun _ => 0))), (q_3, .inl (dC 101, 200, .inr (.inl (fun _ => 0)))), (q_4, .inl (dC 101, 200, .inr (.inl (fun _ => 0)))), (q_5, .inl (dC 101, 600, .inr (.inl (fun _ => 0)))), (q_6, .inl (dC 100, 6, .inl (fun _ => 0))), (q_7, .inl (dC 100, 4, .inl (fun _ => 0))), (q_8, .inl (dC 100, 24, .inl (fun _ => 0))), (q_9, .inl (dC 100, 3, .inl (fun _ => 0))), (q_10, .inl (dC 100, 150, .inl (fun _ => 0))), (q_11, .inl (dC 100, 150, .inl (fun _ => 0))), (q_12, .inl (dC 100, 150, .inl (fun _ => 0))), (q_13, .inl (dC 102, 150, .inl (fun _ => 0)))] H := hP
  have hD : va_D A [(h0, .inr (8, [.int 0, .int 0, .int 0, .ref q_1, .ref q_2, .ref q_3, .ref q_4, .ref q_5, .ref q_6, .ref q_7, .ref q_8, .ref q_9, .ref q_10, .ref q_11, .ref q_12, .null, .null, .int 0, .int 0, .int 0])), (q_1, .inl (dC 100, 4, .inl (fun _ => 0))), (q_2, .inl (dC 100, 4, .inl (fun _ => 0))), (q_3, .inl (dC 101, 200, .inr (.inl (fun _ => 0)))), (q_4, .inl (dC 101, 200, .inr (.inl (fun _ => 0)))), (q_5, .inl (dC 101, 600, .inr (.inl (fun _ => 0)))), (q_6, .inl (dC 100, 6, .inl (fun _ => 0))), (q_7, .inl (dC 100, 4, .inl (fun _ => 0))), (q_8, .inl (dC 100, 24, .inl (fun _ => 0))), (q_9, .inl (dC 100, 3, .inl (fun _ => 0))), (q_10, .inl (dC 100, 150, .inl (fun _ => 0))), (q_11, .inl (dC 100, 150, .inl (fun _ => 0))), (q_12, .inl (dC 100, 150, .inl (fun _ => 0))), (q_13, .inl (dC 102, 150, .inl (fun _ => 0)))] := hD
  refine W.widen (k := 13) (n := 1645) (Nat.le_of_ble_eq_true rfl) (Nat.le_of_ble_eq_true rfl) ?_
  refine va_putF (D := (dC, dI)) (ci := 8) (v := .ref q_13) (ty := .array .boolean) (C := rC_S) (T := fC_S) (N := 20) hx hb hbg iC_S tC_S oC_S nC_S hown hK.1 hP hD hS 0 rfl rfl 15 (by decide) (hbg _ wd_113) (fun _ h9 => h9) rfl hin rfl (by decide +kernel) rfl rfl (Nat.le_of_ble_eq_true rfl) dM_S_init_108 (fun H locs hP hD hS => ?_)
  have hP : va_P (dC, dI) classes [(h0, .inr (8, [.int 0, .int 0, .int 0, .ref q_1, .ref q_2, .ref q_3, .ref q_4, .ref q_5, .ref q_6, .ref q_7, .ref q_8, .ref q_9, .ref q_10, .ref q_11, .ref q_12, .ref q_13, .null, .int 0, .int 0, .int 0])), (q_1, .inl (dC 100, 4, .inl (fun _ => 0))), (q_2, .inl (dC 100, 4, .inl (fun _ => 0))), (q_3, .inl (dC 101, 200, .inr (.inl (fun _ => 0)))), (q_4, .inl (dC 101, 200, .inr (.inl (fun _ => 0)))), (q_5, .inl (dC 101, 600, .inr (.inl (fun _ => 0)))), (q_6, .inl (dC 100, 6, .inl (fun _ => 0))), (q_7, .inl (dC 100, 4, .inl (fun _ => 0))), (q_8, .inl (dC 100, 24, .inl (fun _ => 0))), (q_9, .inl (dC 100, 3, .inl (fun _ => 0))), (q_10, .inl (dC 100, 150, .inl (fun _ => 0))), (q_11, .inl (dC 100, 150, .inl (fun _ => 0))), (q_12, .inl (dC 100, 150, .inl (fun _ => 0))), (q_13, .inl (dC 102, 150, .inl (fun _ => 0)))] H := hP
  have hD : va_D A [(h0, .inr (8, [.int 0, .int 0, .int 0, .ref q_1, .ref q_2, .ref q_3, .ref q_4, .ref q_5, .ref q_6, .ref q_7, .ref q_8, .ref q_9, .ref q_10, .ref q_11, .ref q_12, .ref q_13, .null, .int 0, .int 0, .int 0])), (q_1, .inl (dC 100, 4, .inl (fun _ => 0))), (q_2, .inl (dC 100, 4, .inl (fun _ => 0))), (q_3, .inl (dC 101, 200, .inr (.inl (fun _ => 0)))), (q_4, .inl (dC 101, 200, .inr (.inl (fun _ => 0)))), (q_5, .inl (dC 101, 600, .inr (.inl (fun _ => 0)))), (q_6, .inl (dC 100, 6, .inl (fun _ => 0))), (q_7, .inl (dC 100, 4, .inl (fun _ => 0))), (q_8, .inl (dC 100, 24, .inl (fun _ => 0))), (q_9, .inl (dC 100, 3, .inl (fun _ => 0))), (q_10, .inl (dC 100, 150, .inl (fun _ => 0))), (q_11, .inl (dC 100, 150, .inl (fun _ => 0))), (q_12, .inl (dC 100, 150, .inl (fun _ => 0))), (q_13, .inl (dC 102, 150, .inl (fun _ => 0)))] := hD
  refine lv_aload_n hx hb dM_S_init_111 rfl (lv_at hl 0 rfl) ?_
  refine lv_sipush (v := 885) hx hb dM_S_init_112 (by decide) ?_
  refine n_newa (atype := .int) (N' := 885) (a0 := (885, .inl (fun _ => 0))) (ty := .int) (n := 885) hx hb (hbg _ wd_169) rfl hK.1 hP hD hS hA 0 rfl (fun _ => rfl) (by decide) (by decide) (Nat.le_of_ble_eq_true rfl) (Nat.le_of_ble_eq_true rfl) (Nat.le_of_ble_eq_true rfl) dM_S_init_115 (fun q_14 H hP hD hS => ?_)
  have hP : va_P (dC, dI) classes [(h0, .inr (8, [.int 0, .int 0, .int 0, .ref q_1, .ref q_2, .ref q_3, .ref q_4, .ref q_5, .ref q_6, .ref q_7, .ref q_8, .ref q_9, .ref q_10, .ref q_11, .ref q_12, .ref q_13, .null, .int 0, .int 0, .int 0])), (q_1, .inl (dC 100, 4, .inl (fun _ => 0))), (q_2, .inl (dC 100, 4, .inl (fun _ => 0))), (q_3, .inl (dC 101, 200, .inr (.inl (fun _ => 0)))), (q_4, .inl (dC 101, 200, .inr (.inl (fun _ => 0)))), (q_5, .inl (dC 101, 600, .inr (.inl (fun _ => 0)))), (q_6, .inl (dC 100, 6, .inl (fun _ => 0))), (q_7, .inl (dC 100, 4, .inl (fun _ => 0))), (q_8, .inl (dC 100, 24, .inl (fun _ => 0))), (q_9, .inl (dC 100, 3, .inl (fun _ => 0))), (q_10, .inl (dC 100, 150, .inl (fun _ => 0))), (q_11, .inl (dC 100, 150, .inl (fun _ => 0))), (q_12, .inl (dC 100, 150, .inl (fun _ => 0))), (q_13, .inl (dC 102, 150, .inl (fun _ => 0))), (q_14, .inl (dC 100, 885, .inl (fun _ => 0)))] H := hP
  have hD : va_D A [(h0, .inr (8, [.int 0, .int 0, .int 0, .ref q_1, .ref q_2, .ref q_3, .ref q_4, .ref q_5, .ref q_6, .ref q_7, .ref q_8, .ref q_9, .ref q_10, .ref q_11, .ref q_12, .ref q_13, .null, .int 0, .int 0, .int 0])), (q_1, .inl (dC 100, 4, .inl (fun _ => 0))), (q_2, .inl (dC 100, 4, .inl (fun _ => 0))), (q_3, .inl (dC 101, 200, .inr (.inl (fun _ => 0)))), (q_4, .inl (dC 101, 200, .inr (.inl (fun _ => 0)))), (q_5, .inl (dC 101, 600, .inr (.inl (fun _ => 0)))), (q_6, .inl (dC 100, 6, .inl (fun _ => 0))), (q_7, .inl (dC 100, 4, .inl (fun _ => 0))), (q_8, .inl (dC 100, 24, .inl (fun _ => 0))), (q_9, .inl (dC 100, 3, .inl (fun _ => 0))), (q_10, .inl (dC 100, 150, .inl (fun _ => 0))), (q_11, .inl (dC 100, 150, .inl (fun _ => 0))), (q_12, .inl (dC 100, 150, .inl (fun _ => 0))), (q_13, .inl (dC 102, 150, .inl (fun _ => 0))), (q_14, .inl (dC 100, 885, .inl (fun _ => 0)))] := hD
  refine W.widen (k := 14) (n := 2530) (Nat.le_of_ble_eq_true rfl) (Nat.le_of_ble_eq_true rfl) ?_
  refine va_putF (D := (dC, dI)) (ci := 8) (v := .ref q_14) (ty := .array .int) (C := rC_S) (T := fC_S) (N := 20) hx hb hbg iC_S tC_S oC_S nC_S hown hK.1 hP hD hS 0 rfl rfl 16 (by decide) (hbg _ wd_117) (fun _ h9 => h9) rfl hin rfl (by decide +kernel) rfl rfl (Nat.le_of_ble_eq_true rfl) dM_S_init_117 (fun H locs hP hD hS => ?_)
  have hP : va_P (dC, dI) classes [(h0, .inr (8, [.int 0, .int 0, .int 0, .ref q_1, .ref q_2, .ref q_3, .ref q_4, .ref q_5, .ref q_6, .ref q_7, .ref q_8, .ref q_9, .ref q_10, .ref q_11, .ref q_12, .ref q_13, .ref q_14, .int 0, .int 0, .int 0])), (q_1, .inl (dC 100, 4, .inl (fun _ => 0))), (q_2, .inl (dC 100, 4, .inl (fun _ => 0))), (q_3, .inl (dC 101, 200, .inr (.inl (fun _ => 0)))), (q_4, .inl (dC 101, 200, .inr (.inl (fun _ => 0)))), (q_5, .inl (dC 101, 600, .inr (.inl (fun _ => 0)))), (q_6, .inl (dC 100, 6, .inl (fun _ => 0))), (q_7, .inl (dC 100, 4, .inl (fun _ => 0))), (q_8, .inl (dC 100, 24, .inl (fun _ => 0))), (q_9, .inl (dC 100, 3, .inl (fun _ => 0))), (q_10, .inl (dC 100, 150, .inl (fun _ => 0))), (q_11, .inl (dC 100, 150, .inl (fun _ => 0))), (q_12, .inl (dC 100, 150, .inl (fun _ => 0))), (q_13, .inl (dC 102, 150, .inl (fun _ => 0))), (q_14, .inl (dC 100, 885, .inl (fun _ => 0)))] H := hP
  have hD : va_D A [(h0, .inr (8, [.int 0, .int 0, .int 0, .ref q_1, .ref q_2, .ref q_3, .ref q_4, .ref q_5, .ref q_6, .ref q_7, .ref q_8, .ref q_9, .ref q_10, .ref q_11, .ref q_12, .ref q_13, .ref q_14, .int 0, .int 0, .int 0])), (q_1, .inl (dC 100, 4, .inl (fun _ => 0))), (q_2, .inl (dC 100, 4, .inl (fun _ => 0))), (q_3, .inl (dC 101, 200, .inr (.inl (fun _ => 0)))), (q_4, .inl (dC 101, 200, .inr (.inl (fun _ => 0)))), (q_5, .inl (dC 101, 600, .inr (.inl (fun _ => 0)))), (q_6, .inl (dC 100, 6, .inl (fun _ => 0))), (q_7, .inl (dC 100, 4, .inl (fun _ => 0))), (q_8, .inl (dC 100, 24, .inl (fun _ => 0))), (q_9, .inl (dC 100, 3, .inl (fun _ => 0))), (q_10, .inl (dC 100, 150, .inl (fun _ => 0))), (q_11, .inl (dC 100, 150, .inl (fun _ => 0))), (q_12, .inl (dC 100, 150, .inl (fun _ => 0))), (q_13, .inl (dC 102, 150, .inl (fun _ => 0))), (q_14, .inl (dC 100, 885, .inl (fun _ => 0)))] := hD
  refine lv_aload_n hx hb dM_S_init_120 rfl (lv_at hl 0 rfl) ?_
  refine va_get (D := (dC, dI)) (ci := 8) (v := .ref q_3) (C := rC_S) (T := fC_S) (N := 20) hx hb hbg iC_S hown hK.1 hP 0 rfl rfl 5 (by decide) (hbg _ wd_74) (fun _ h9 => h9) rfl dM_S_init_121 ?_
  refine lv_ldc2 (v := 1125899906842624) hx hb hown (hbg _ wd_51) dM_S_init_124 ?_
  have hFc := va_free (wc := [(q_3, .inl (dC 101, 200, .inr (.inl (fun _ => 0))))]) hD hS hA [3] rfl
  refine va_callv (va_runS (As := [.ref q_3, .long 1125899906842624]) (rest := []) ⟨hx, hb, hml, hown, hbg⟩ (c_fillJ l dC dI q_3 1125899906842624 200 (fun _ => 0) _ (by first | decide | omega)) (va_cwS 2 hbg (gd_S (fun _ h => h) wd_52 wd_53 wd_3 (gd_wm (fun _ h => h) wd_54)) rfl rfl rfl (by decide +kernel) ⟨Nat.le_of_ble_eq_true rfl, Nat.le_of_ble_eq_true rfl⟩) (nPreS [3] hP hD hK hN hS hA (by decide) rfl) rfl rfl hl.1 rfl (lv_room (Nat.le_of_ble_eq_true rfl)) dM_S_init_127 ⟨Nat.le_of_ble_eq_true rfl, Nat.le_of_ble_eq_true rfl⟩) hS (fun q _ h => hFc q h) hFc (fun u t H1 locs ht hvm hw hB hz1 hk1 hS => ?_)
  obtain ⟨g_17, hf_18, hP1, hD1⟩ := hB
  rw [ht] at hP1
  obtain ⟨hP, hD⟩ := va_join (wr := [(h0, .inr (8, [.int 0, .int 0, .int 0, .ref q_1, .ref q_2, .ref q_3, .ref q_4, .ref q_5, .ref q_6, .ref q_7, .ref q_8, .ref q_9, .ref q_10, .ref q_11, .ref q_12, .ref q_13, .ref q_14, .int 0, .int 0, .int 0])), (q_1, .inl (dC 100, 4, .inl (fun _ => 0))), (q_2, .inl (dC 100, 4, .inl (fun _ => 0))), (q_4, .inl (dC 101, 200, .inr (.inl (fun _ => 0)))), (q_5, .inl (dC 101, 600, .inr (.inl (fun _ => 0)))), (q_6, .inl (dC 100, 6, .inl (fun _ => 0))), (q_7, .inl (dC 100, 4, .inl (fun _ => 0))), (q_8, .inl (dC 100, 24, .inl (fun _ => 0))), (q_9, .inl (dC 100, 3, .inl (fun _ => 0))), (q_10, .inl (dC 100, 150, .inl (fun _ => 0))), (q_11, .inl (dC 100, 150, .inl (fun _ => 0))), (q_12, .inl (dC 100, 150, .inl (fun _ => 0))), (q_13, .inl (dC 102, 150, .inl (fun _ => 0))), (q_14, .inl (dC 100, 885, .inl (fun _ => 0)))]) (w1 := [(q_3, .inl (dC 101, 200, .inr (.inl g_17)))]) hP hD [3] [0, 1, 2, 4, 5, 6, 7, 8, 9, 10, 11, 12, 13, 14] rfl rfl (by decide) (by decide) hk1 hFc hP1 hD1
  generalize H1 = H at hP hS ⊢
  have hP : va_P (dC, dI) classes [(h0, .inr (8, [.int 0, .int 0, .int 0, .ref q_1, .ref q_2, .ref q_3, .ref q_4, .ref q_5, .ref q_6, .ref q_7, .ref q_8, .ref q_9, .ref q_10, .ref q_11, .ref q_12, .ref q_13, .ref q_14, .int 0, .int 0, .int 0])), (q_1, .inl (dC 100, 4, .inl (fun _ => 0))), (q_2, .inl (dC 100, 4, .inl (fun _ => 0))), (q_4, .inl (dC 101, 200, .inr (.inl (fun _ => 0)))), (q_5, .inl (dC 101, 600, .inr (.inl (fun _ => 0)))), (q_6, .inl (dC 100, 6, .inl (fun _ => 0))), (q_7, .inl (dC 100, 4, .inl (fun _ => 0))), (q_8, .inl (dC 100, 24, .inl (fun _ => 0))), (q_9, .inl (dC 100, 3, .inl (fun _ => 0))), (q_10, .inl (dC 100, 150, .inl (fun _ => 0))), (q_11, .inl (dC 100, 150, .inl (fun _ => 0))), (q_12, .inl (dC 100, 150, .inl (fun _ => 0))), (q_13, .inl (dC 102, 150, .inl (fun _ => 0))), (q_14, .inl (dC 100, 885, .inl (fun _ => 0))), (q_3, .inl (dC 101, 200, .inr (.inl g_17)))] H := hP
  have hD : va_D A [(h0, .inr (8, [.int 0, .int 0, .int 0, .ref q_1, .ref q_2, .ref q_3, .ref q_4, .ref q_5, .ref q_6, .ref q_7, .ref q_8, .ref q_9, .ref q_10, .ref q_11, .ref q_12, .ref q_13, .ref q_14, .int 0, .int 0, .int 0])), (q_1, .inl (dC 100, 4, .inl (fun _ => 0))), (q_2, .inl (dC 100, 4, .inl (fun _ => 0))), (q_4, .inl (dC 101, 200, .inr (.inl (fun _ => 0)))), (q_5, .inl (dC 101, 600, .inr (.inl (fun _ => 0)))), (q_6, .inl (dC 100, 6, .inl (fun _ => 0))), (q_7, .inl (dC 100, 4, .inl (fun _ => 0))), (q_8, .inl (dC 100, 24, .inl (fun _ => 0))), (q_9, .inl (dC 100, 3, .inl (fun _ => 0))), (q_10, .inl (dC 100, 150, .inl (fun _ => 0))), (q_11, .inl (dC 100, 150, .inl (fun _ => 0))), (q_12, .inl (dC 100, 150, .inl (fun _ => 0))), (q_13, .inl (dC 102, 150, .inl (fun _ => 0))), (q_14, .inl (dC 100, 885, .inl (fun _ => 0))), (q_3, .inl (dC 101, 200, .inr (.inl g_17)))] := hD
  refine W.widen (k := 14) (n := 2530) (Nat.le_of_ble_eq_true rfl) (Nat.le_of_ble_eq_true rfl) ?_
  refine lv_aload_n hx hb dM_S_init_130 rfl (lv_at hl 0 rfl) ?_
  refine va_get (D := (dC, dI)) (ci := 8) (v := .ref q_4) (C := rC_S) (T := fC_S) (N := 20) hx hb hbg iC_S hown hK.1 hP 0 rfl rfl 6 (by decide) (hbg _ wd_79) (fun _ h9 => h9) rfl dM_S_init_131 ?_
  refine lv_ldc2 (v := 1125899906842624) hx hb hown (hbg _ wd_51) dM_S_init_134 ?_
  have hFc := va_free (wc := [(q_4, .inl (dC 101, 200, .inr (.inl (fun _ => 0))))]) hD hS hA [3] rfl
  refine va_callv (va_runS (As := [.ref q_4, .long 1125899906842624]) (rest := []) ⟨hx, hb, hml, hown, hbg⟩ (c_fillJ l dC dI q_4 1125899906842624 200 (fun _ => 0) _ (by first | decide | omega)) (va_cwS 2 hbg (gd_S (fun _ h => h) wd_52 wd_53 wd_3 (gd_wm (fun _ h => h) wd_54)) rfl rfl rfl (by decide +kernel) ⟨Nat.le_of_ble_eq_true rfl, Nat.le_of_ble_eq_true rfl⟩) (nPreS [3] hP hD hK hN hS hA (by decide) rfl) rfl rfl hl.1 rfl (lv_room (Nat.le_of_ble_eq_true rfl)) dM_S_init_137 ⟨Nat.le_of_ble_eq_true rfl, Nat.le_of_ble_eq_true rfl⟩) hS (fun q _ h => hFc q h) hFc (fun u t H1 locs ht hvm hw hB hz1 hk1 hS => ?_)
  obtain ⟨g_21, hf_22, hP1, hD1⟩ := hB
  rw [ht] at hP1
  obtain ⟨hP, hD⟩ := va_join (wr := [(h0, .inr (8, [.int 0, .int 0, .int 0, .ref q_1, .ref q_2, .ref q_3, .ref q_4, .ref q_5, .ref q_6, .ref q_7, .ref q_8, .ref q_9, .ref q_10, .ref q_11, .ref q_12, .ref q_13, .ref q_14, .int 0, .int 0, .int 0])), (q_1, .inl (dC 100, 4, .inl (fun _ => 0))), (q_2, .inl (dC 100, 4, .inl (fun _ => 0))), (q_5, .inl (dC 101, 600, .inr (.inl (fun _ => 0)))), (q_6, .inl (dC 100, 6, .inl (fun _ => 0))), (q_7, .inl (dC 100, 4, .inl (fun _ => 0))), (q_8, .inl (dC 100, 24, .inl (fun _ => 0))), (q_9, .inl (dC 100, 3, .inl (fun _ => 0))), (q_10, .inl (dC 100, 150, .inl (fun _ => 0))), (q_11, .inl (dC 100, 150, .inl (fun _ => 0))), (q_12, .inl (dC 100, 150, .inl (fun _ => 0))), (q_13, .inl (dC 102, 150, .inl (fun _ => 0))), (q_14, .inl (dC 100, 885, .inl (fun _ => 0))), (q_3, .inl (dC 101, 200, .inr (.inl g_17)))]) (w1 := [(q_4, .inl (dC 101, 200, .inr (.inl g_21)))]) hP hD [3] [0, 1, 2, 4, 5, 6, 7, 8, 9, 10, 11, 12, 13, 14] rfl rfl (by decide) (by decide) hk1 hFc hP1 hD1
  generalize H1 = H at hP hS ⊢
  have hP : va_P (dC, dI) classes [(h0, .inr (8, [.int 0, .int 0, .int 0, .ref q_1, .ref q_2, .ref q_3, .ref q_4, .ref q_5, .ref q_6, .ref q_7, .ref q_8, .ref q_9, .ref q_10, .ref q_11, .ref q_12, .ref q_13, .ref q_14, .int 0, .int 0, .int 0])), (q_1, .inl (dC 100, 4, .inl (fun _ => 0))), (q_2, .inl (dC 100, 4, .inl (fun _ => 0))), (q_5, .inl (dC 101, 600, .inr (.inl (fun _ => 0)))), (q_6, .inl (dC 100, 6, .inl (fun _ => 0))), (q_7, .inl (dC 100, 4, .inl (fun _ => 0))), (q_8, .inl (dC 100, 24, .inl (fun _ => 0))), (q_9, .inl (dC 100, 3, .inl (fun _ => 0))), (q_10, .inl (dC 100, 150, .inl (fun _ => 0))), (q_11, .inl (dC 100, 150, .inl (fun _ => 0))), (q_12, .inl (dC 100, 150, .inl (fun _ => 0))), (q_13, .inl (dC 102, 150, .inl (fun _ => 0))), (q_14, .inl (dC 100, 885, .inl (fun _ => 0))), (q_3, .inl (dC 101, 200, .inr (.inl g_17))), (q_4, .inl (dC 101, 200, .inr (.inl g_21)))] H := hP
  have hD : va_D A [(h0, .inr (8, [.int 0, .int 0, .int 0, .ref q_1, .ref q_2, .ref q_3, .ref q_4, .ref q_5, .ref q_6, .ref q_7, .ref q_8, .ref q_9, .ref q_10, .ref q_11, .ref q_12, .ref q_13, .ref q_14, .int 0, .int 0, .int 0])), (q_1, .inl (dC 100, 4, .inl (fun _ => 0))), (q_2, .inl (dC 100, 4, .inl (fun _ => 0))), (q_5, .inl (dC 101, 600, .inr (.inl (fun _ => 0)))), (q_6, .inl (dC 100, 6, .inl (fun _ => 0))), (q_7, .inl (dC 100, 4, .inl (fun _ => 0))), (q_8, .inl (dC 100, 24, .inl (fun _ => 0))), (q_9, .inl (dC 100, 3, .inl (fun _ => 0))), (q_10, .inl (dC 100, 150, .inl (fun _ => 0))), (q_11, .inl (dC 100, 150, .inl (fun _ => 0))), (q_12, .inl (dC 100, 150, .inl (fun _ => 0))), (q_13, .inl (dC 102, 150, .inl (fun _ => 0))), (q_14, .inl (dC 100, 885, .inl (fun _ => 0))), (q_3, .inl (dC 101, 200, .inr (.inl g_17))), (q_4, .inl (dC 101, 200, .inr (.inl g_21)))] := hD
  refine W.widen (k := 14) (n := 2530) (Nat.le_of_ble_eq_true rfl) (Nat.le_of_ble_eq_true rfl) ?_
  refine lv_aload_n hx hb dM_S_init_140 rfl (lv_at hl 0 rfl) ?_
  refine va_get (D := (dC, dI)) (ci := 8) (v := .ref q_5) (C := rC_S) (T := fC_S) (N := 20) hx hb hbg iC_S hown hK.1 hP 0 rfl rfl 7 (by decide) (hbg _ wd_84) (fun _ h9 => h9) rfl dM_S_init_141 ?_
  refine lv_ldc2 (v := 1125899906842624) hx hb hown (hbg _ wd_51) dM_S_init_144 ?_
  have hFc := va_free (wc := [(q_5, .inl (dC 101, 600, .inr (.inl (fun _ => 0))))]) hD hS hA [3] rfl
  refine va_callv (va_runS (As := [.ref q_5, .long 1125899906842624]) (rest := []) ⟨hx, hb, hml, hown, hbg⟩ (c_fillJ l dC dI q_5 1125899906842624 600 (fun _ => 0) _ (by first | decide | omega)) (va_cwS 2 hbg (gd_S (fun _ h => h) wd_52 wd_53 wd_3 (gd_wm (fun _ h => h) wd_54)) rfl rfl rfl (by decide +kernel) ⟨Nat.le_of_ble_eq_true rfl, Nat.le_of_ble_eq_true rfl⟩) (nPreS [3] hP hD hK hN hS hA (by decide) rfl) rfl rfl hl.1 rfl (lv_room (Nat.le_of_ble_eq_true rfl)) dM_S_init_147 ⟨Nat.le_of_ble_eq_true rfl, Nat.le_of_ble_eq_true rfl⟩) hS (fun q _ h => hFc q h) hFc (fun u t H1 locs ht hvm hw hB hz1 hk1 hS => ?_)
  obtain ⟨g_25, hf_26, hP1, hD1⟩ := hB
  rw [ht] at hP1
  obtain ⟨hP, hD⟩ := va_join (wr := [(h0, .inr (8, [.int 0, .int 0, .int 0, .ref q_1, .ref q_2, .ref q_3, .ref q_4, .ref q_5, .ref q_6, .ref q_7, .ref q_8, .ref q_9, .ref q_10, .ref q_11, .ref q_12, .ref q_13, .ref q_14, .int 0, .int 0, .int 0])), (q_1, .inl (dC 100, 4, .inl (fun _ => 0))), (q_2, .inl (dC 100, 4, .inl (fun _ => 0))), (q_6, .inl (dC 100, 6, .inl (fun _ => 0))), (q_7, .inl (dC 100, 4, .inl (fun _ => 0))), (q_8, .inl (dC 100, 24, .inl (fun _ => 0))), (q_9, .inl (dC 100, 3, .inl (fun _ => 0))), (q_10, .inl (dC 100, 150, .inl (fun _ => 0))), (q_11, .inl (dC 100, 150, .inl (fun _ => 0))), (q_12, .inl (dC 100, 150, .inl (fun _ => 0))), (q_13, .inl (dC 102, 150, .inl (fun _ => 0))), (q_14, .inl (dC 100, 885, .inl (fun _ => 0))), (q_3, .inl (dC 101, 200, .inr (.inl g_17))), (q_4, .inl (dC 101, 200, .inr (.inl g_21)))]) (w1 := [(q_5, .inl (dC 101, 600, .inr (.inl g_25)))]) hP hD [3] [0, 1, 2, 4, 5, 6, 7, 8, 9, 10, 11, 12, 13, 14] rfl rfl (by decide) (by decide) hk1 hFc hP1 hD1
  generalize H1 = H at hP hS ⊢
  have hP : va_P (dC, dI) classes [(h0, .inr (8, [.int 0, .int 0, .int 0, .ref q_1, .ref q_2, .ref q_3, .ref q_4, .ref q_5, .ref q_6, .ref q_7, .ref q_8, .ref q_9, .ref q_10, .ref q_11, .ref q_12, .ref q_13, .ref q_14, .int 0, .int 0, .int 0])), (q_1, .inl (dC 100, 4, .inl (fun _ => 0))), (q_2, .inl (dC 100, 4, .inl (fun _ => 0))), (q_6, .inl (dC 100, 6, .inl (fun _ => 0))), (q_7, .inl (dC 100, 4, .inl (fun _ => 0))), (q_8, .inl (dC 100, 24, .inl (fun _ => 0))), (q_9, .inl (dC 100, 3, .inl (fun _ => 0))), (q_10, .inl (dC 100, 150, .inl (fun _ => 0))), (q_11, .inl (dC 100, 150, .inl (fun _ => 0))), (q_12, .inl (dC 100, 150, .inl (fun _ => 0))), (q_13, .inl (dC 102, 150, .inl (fun _ => 0))), (q_14, .inl (dC 100, 885, .inl (fun _ => 0))), (q_3, .inl (dC 101, 200, .inr (.inl g_17))), (q_4, .inl (dC 101, 200, .inr (.inl g_21))), (q_5, .inl (dC 101, 600, .inr (.inl g_25)))] H := hP
  have hD : va_D A [(h0, .inr (8, [.int 0, .int 0, .int 0, .ref q_1, .ref q_2, .ref q_3, .ref q_4, .ref q_5, .ref q_6, .ref q_7, .ref q_8, .ref q_9, .ref q_10, .ref q_11, .ref q_12, .ref q_13, .ref q_14, .int 0, .int 0, .int 0])), (q_1, .inl (dC 100, 4, .inl (fun _ => 0))), (q_2, .inl (dC 100, 4, .inl (fun _ => 0))), (q_6, .inl (dC 100, 6, .inl (fun _ => 0))), (q_7, .inl (dC 100, 4, .inl (fun _ => 0))), (q_8, .inl (dC 100, 24, .inl (fun _ => 0))), (q_9, .inl (dC 100, 3, .inl (fun _ => 0))), (q_10, .inl (dC 100, 150, .inl (fun _ => 0))), (q_11, .inl (dC 100, 150, .inl (fun _ => 0))), (q_12, .inl (dC 100, 150, .inl (fun _ => 0))), (q_13, .inl (dC 102, 150, .inl (fun _ => 0))), (q_14, .inl (dC 100, 885, .inl (fun _ => 0))), (q_3, .inl (dC 101, 200, .inr (.inl g_17))), (q_4, .inl (dC 101, 200, .inr (.inl g_21))), (q_5, .inl (dC 101, 600, .inr (.inl g_25)))] := hD
  refine W.widen (k := 14) (n := 2530) (Nat.le_of_ble_eq_true rfl) (Nat.le_of_ble_eq_true rfl) ?_
  refine lv_aload_n hx hb dM_S_init_150 rfl (lv_at hl 0 rfl) ?_
  refine va_get (D := (dC, dI)) (ci := 8) (v := .ref q_6) (C := rC_S) (T := fC_S) (N := 20) hx hb hbg iC_S hown hK.1 hP 0 rfl rfl 8 (by decide) (hbg _ wd_88) (fun _ h9 => h9) rfl dM_S_init_151 ?_
  refine lv_iconst (v := (-1)) hx hb dM_S_init_154 (by decide) ?_
  have hFc := va_free (wc := [(q_6, .inl (dC 100, 6, .inl (fun _ => 0)))]) hD hS hA [3] rfl
  refine va_callv (va_runS (As := [.ref q_6, .int (-1)]) (rest := []) ⟨hx, hb, hml, hown, hbg⟩ (c_fillI l dC dI q_6 (-1) 6 (fun _ => 0) _ (by first | decide | omega)) (va_cwS 2 hbg (gd_S (fun _ h => h) wd_55 wd_56 wd_3 (gd_wm (fun _ h => h) wd_57)) rfl rfl rfl (by decide +kernel) ⟨Nat.le_of_ble_eq_true rfl, Nat.le_of_ble_eq_true rfl⟩) (nPreS [3] hP hD hK hN hS hA (by decide) rfl) rfl rfl hl.1 rfl (lv_room (Nat.le_of_ble_eq_true rfl)) dM_S_init_155 ⟨Nat.le_of_ble_eq_true rfl, Nat.le_of_ble_eq_true rfl⟩) hS (fun q _ h => hFc q h) hFc (fun u t H1 locs ht hvm hw hB hz1 hk1 hS => ?_)
  obtain ⟨g_29, hf_30, hP1, hD1⟩ := hB
  rw [ht] at hP1
  obtain ⟨hP, hD⟩ := va_join (wr := [(h0, .inr (8, [.int 0, .int 0, .int 0, .ref q_1, .ref q_2, .ref q_3, .ref q_4, .ref q_5, .ref q_6, .ref q_7, .ref q_8, .ref q_9, .ref q_10, .ref q_11, .ref q_12, .ref q_13, .ref q_14, .int 0, .int 0, .int 0])), (q_1, .inl (dC 100, 4, .inl (fun _ => 0))), (q_2, .inl (dC 100, 4, .inl (fun _ => 0))), (q_7, .inl (dC 100, 4, .inl (fun _ => 0))), (q_8, .inl (dC 100, 24, .inl (fun _ => 0))), (q_9, .inl (dC 100, 3, .inl (fun _ => 0))), (q_10, .inl (dC 100, 150, .inl (fun _ => 0))), (q_11, .inl (dC 100, 150, .inl (fun _ => 0))), (q_12, .inl (dC 100, 150, .inl (fun _ => 0))), (q_13, .inl (dC 102, 150, .inl (fun _ => 0))), (q_14, .inl (dC 100, 885, .inl (fun _ => 0))), (q_3, .inl (dC 101, 200, .inr (.inl g_17))), (q_4, .inl (dC 101, 200, .inr (.inl g_21))), (q_5, .inl (dC 101, 600, .inr (.inl g_25)))]) (w1 := [(q_6, .inl (dC 100, 6, .inl g_29))]) hP hD [3] [0, 1, 2, 4, 5, 6, 7, 8, 9, 10, 11, 12, 13, 14] rfl rfl (by decide) (by decide) hk1 hFc hP1 hD1
  generalize H1 = H at hP hS ⊢
  have hP : va_P (dC, dI) classes [(h0, .inr (8, [.int 0, .int 0, .int 0, .ref q_1, .ref q_2, .ref q_3, .ref q_4, .ref q_5, .ref q_6, .ref q_7, .ref q_8, .ref q_9, .ref q_10, .ref q_11, .ref q_12, .ref q_13, .ref q_14, .int 0, .int 0, .int 0])), (q_1, .inl (dC 100, 4, .inl (fun _ => 0))), (q_2, .inl (dC 100, 4, .inl (fun _ => 0))), (q_7, .inl (dC 100, 4, .inl (fun _ => 0))), (q_8, .inl (dC 100, 24, .inl (fun _ => 0))), (q_9, .inl (dC 100, 3, .inl (fun _ => 0))), (q_10, .inl (dC 100, 150, .inl (fun _ => 0))), (q_11, .inl (dC 100, 150, .inl (fun _ => 0))), (q_12, .inl (dC 100, 150, .inl (fun _ => 0))), (q_13, .inl (dC 102, 150, .inl (fun _ => 0))), (q_14, .inl (dC 100, 885, .inl (fun _ => 0))), (q_3, .inl (dC 101, 200, .inr (.inl g_17))), (q_4, .inl (dC 101, 200, .inr (.inl g_21))), (q_5, .inl (dC 101, 600, .inr (.inl g_25))), (q_6, .inl (dC 100, 6, .inl g_29))] H := hP
  have hD : va_D A [(h0, .inr (8, [.int 0, .int 0, .int 0, .ref q_1, .ref q_2, .ref q_3, .ref q_4, .ref q_5, .ref q_6, .ref q_7, .ref q_8, .ref q_9, .ref q_10, .ref q_11, .ref q_12, .ref q_13, .ref q_14, .int 0, .int 0, .int 0])), (q_1, .inl (dC 100, 4, .inl (fun _ => 0))), (q_2, .inl (dC 100, 4, .inl (fun _ => 0))), (q_7, .inl (dC 100, 4, .inl (fun _ => 0))), (q_8, .inl (dC 100, 24, .inl (fun _ => 0))), (q_9, .inl (dC 100, 3, .inl (fun _ => 0))), (q_10, .inl (dC 100, 150, .inl (fun _ => 0))), (q_11, .inl (dC 100, 150, .inl (fun _ => 0))), (q_12, .inl (dC 100, 150, .inl (fun _ => 0))), (q_13, .inl (dC 102, 150, .inl (fun _ => 0))), (q_14, .inl (dC 100, 885, .inl (fun _ => 0))), (q_3, .inl (dC 101, 200, .inr (.inl g_17))), (q_4, .inl (dC 101, 200, .inr (.inl g_21))), (q_5, .inl (dC 101, 600, .inr (.inl g_25))), (q_6, .inl (dC 100, 6, .inl g_29))] := hD
  refine W.widen (k := 14) (n := 2530) (Nat.le_of_ble_eq_true rfl) (Nat.le_of_ble_eq_true rfl) ?_
  refine lv_aload_n hx hb dM_S_init_158 rfl (lv_at hl 0 rfl) ?_
  refine va_get (D := (dC, dI)) (ci := 8) (v := .ref q_7) (C := rC_S) (T := fC_S) (N := 20) hx hb hbg iC_S hown hK.1 hP 0 rfl rfl 9 (by decide) (hbg _ wd_91) (fun _ h9 => h9) rfl dM_S_init_159 ?_
  refine lv_iconst (v := (-1)) hx hb dM_S_init_162 (by decide) ?_
  have hFc := va_free (wc := [(q_7, .inl (dC 100, 4, .inl (fun _ => 0)))]) hD hS hA [3] rfl
  refine va_callv (va_runS (As := [.ref q_7, .int (-1)]) (rest := []) ⟨hx, hb, hml, hown, hbg⟩ (c_fillI l dC dI q_7 (-1) 4 (fun _ => 0) _ (by first | decide | omega)) (va_cwS 2 hbg (gd_S (fun _ h => h) wd_55 wd_56 wd_3 (gd_wm (fun _ h => h) wd_57)) rfl rfl rfl (by decide +kernel) ⟨Nat.le_of_ble_eq_true rfl, Nat.le_of_ble_eq_true rfl⟩) (nPreS [3] hP hD hK hN hS hA (by decide) rfl) rfl rfl hl.1 rfl (lv_room (Nat.le_of_ble_eq_true rfl)) dM_S_init_163 ⟨Nat.le_of_ble_eq_true rfl, Nat.le_of_ble_eq_true rfl⟩) hS (fun q _ h => hFc q h) hFc (fun u t H1 locs ht hvm hw hB hz1 hk1 hS => ?_)
  obtain ⟨g_33, hf_34, hP1, hD1⟩ := hB
  rw [ht] at hP1
  obtain ⟨hP, hD⟩ := va_join (wr := [(h0, .inr (8, [.int 0, .int 0, .int 0, .ref q_1, .ref q_2, .ref q_3, .ref q_4, .ref q_5, .ref q_6, .ref q_7, .ref q_8, .ref q_9, .ref q_10, .ref q_11, .ref q_12, .ref q_13, .ref q_14, .int 0, .int 0, .int 0])), (q_1, .inl (dC 100, 4, .inl (fun _ => 0))), (q_2, .inl (dC 100, 4, .inl (fun _ => 0))), (q_8, .inl (dC 100, 24, .inl (fun _ => 0))), (q_9, .inl (dC 100, 3, .inl (fun _ => 0))), (q_10, .inl (dC 100, 150, .inl (fun _ => 0))), (q_11, .inl (dC 100, 150, .inl (fun _ => 0))), (q_12, .inl (dC 100, 150, .inl (fun _ => 0))), (q_13, .inl (dC 102, 150, .inl (fun _ => 0))), (q_14, .inl (dC 100, 885, .inl (fun _ => 0))), (q_3, .inl (dC 101, 200, .inr (.inl g_17))), (q_4, .inl (dC 101, 200, .inr (.inl g_21))), (q_5, .inl (dC 101, 600, .inr (.inl g_25))), (q_6, .inl (dC 100, 6, .inl g_29))]) (w1 := [(q_7, .inl (dC 100, 4, .inl g_33))]) hP hD [3] [0, 1, 2, 4, 5, 6, 7, 8, 9, 10, 11, 12, 13, 14] rfl rfl (by decide) (by decide) hk1 hFc hP1 hD1
  generalize H1 = H at hP hS ⊢
  have hP : va_P (dC, dI) classes [(h0, .inr (8, [.int 0, .int 0, .int 0, .ref q_1, .ref q_2, .ref q_3, .ref q_4, .ref q_5, .ref q_6, .ref q_7, .ref q_8, .ref q_9, .ref q_10, .ref q_11, .ref q_12, .ref q_13, .ref q_14, .int 0, .int 0, .int 0])), (q_1, .inl (dC 100, 4, .inl (fun _ => 0))), (q_2, .inl (dC 100, 4, .inl (fun _ => 0))), (q_8, .inl (dC 100, 24, .inl (fun _ => 0))), (q_9, .inl (dC 100, 3, .inl (fun _ => 0))), (q_10, .inl (dC 100, 150, .inl (fun _ => 0))), (q_11, .inl (dC 100, 150, .inl (fun _ => 0))), (q_12, .inl (dC 100, 150, .inl (fun _ => 0))), (q_13, .inl (dC 102, 150, .inl (fun _ => 0))), (q_14, .inl (dC 100, 885, .inl (fun _ => 0))), (q_3, .inl (dC 101, 200, .inr (.inl g_17))), (q_4, .inl (dC 101, 200, .inr (.inl g_21))), (q_5, .inl (dC 101, 600, .inr (.inl g_25))), (q_6, .inl (dC 100, 6, .inl g_29)), (q_7, .inl (dC 100, 4, .inl g_33))] H := hP
  have hD : va_D A [(h0, .inr (8, [.int 0, .int 0, .int 0, .ref q_1, .ref q_2, .ref q_3, .ref q_4, .ref q_5, .ref q_6, .ref q_7, .ref q_8, .ref q_9, .ref q_10, .ref q_11, .ref q_12, .ref q_13, .ref q_14, .int 0, .int 0, .int 0])), (q_1, .inl (dC 100, 4, .inl (fun _ => 0))), (q_2, .inl (dC 100, 4, .inl (fun _ => 0))), (q_8, .inl (dC 100, 24, .inl (fun _ => 0))), (q_9, .inl (dC 100, 3, .inl (fun _ => 0))), (q_10, .inl (dC 100, 150, .inl (fun _ => 0))), (q_11, .inl (dC 100, 150, .inl (fun _ => 0))), (q_12, .inl (dC 100, 150, .inl (fun _ => 0))), (q_13, .inl (dC 102, 150, .inl (fun _ => 0))), (q_14, .inl (dC 100, 885, .inl (fun _ => 0))), (q_3, .inl (dC 101, 200, .inr (.inl g_17))), (q_4, .inl (dC 101, 200, .inr (.inl g_21))), (q_5, .inl (dC 101, 600, .inr (.inl g_25))), (q_6, .inl (dC 100, 6, .inl g_29)), (q_7, .inl (dC 100, 4, .inl g_33))] := hD
  refine W.widen (k := 14) (n := 2530) (Nat.le_of_ble_eq_true rfl) (Nat.le_of_ble_eq_true rfl) ?_
  have hP9 := hP.pick (wc := [(h0, .inr (8, [.int 0, .int 0, .int 0, .ref q_1, .ref q_2, .ref q_3, .ref q_4, .ref q_5, .ref q_6, .ref q_7, .ref q_8, .ref q_9, .ref q_10, .ref q_11, .ref q_12, .ref q_13, .ref q_14, .int 0, .int 0, .int 0])), (q_1, .inl (dC 100, 4, .inl (fun _ => 0))), (q_2, .inl (dC 100, 4, .inl (fun _ => 0))), (q_3, .inl (dC 101, 200, .inr (.inl g_17))), (q_4, .inl (dC 101, 200, .inr (.inl g_21))), (q_5, .inl (dC 101, 600, .inr (.inl g_25))), (q_6, .inl (dC 100, 6, .inl g_29)), (q_7, .inl (dC 100, 4, .inl g_33)), (q_8, .inl (dC 100, 24, .inl (fun _ => 0))), (q_9, .inl (dC 100, 3, .inl (fun _ => 0))), (q_10, .inl (dC 100, 150, .inl (fun _ => 0))), (q_11, .inl (dC 100, 150, .inl (fun _ => 0))), (q_12, .inl (dC 100, 150, .inl (fun _ => 0))), (q_13, .inl (dC 102, 150, .inl (fun _ => 0))), (q_14, .inl (dC 100, 885, .inl (fun _ => 0)))]) [0, 1, 2, 10, 11, 12, 13, 14, 3, 4, 5, 6, 7, 8, 9] rfl
  have hD9 := hD.sub (ws' := [(h0, .inr (8, [.int 0, .int 0, .int 0, .ref q_1, .ref q_2, .ref q_3, .ref q_4, .ref q_5, .ref q_6, .ref q_7, .ref q_8, .ref q_9, .ref q_10, .ref q_11, .ref q_12, .ref q_13, .ref q_14, .int 0, .int 0, .int 0])), (q_1, .inl (dC 100, 4, .inl (fun _ => 0))), (q_2, .inl (dC 100, 4, .inl (fun _ => 0))), (q_3, .inl (dC 101, 200, .inr (.inl g_17))), (q_4, .inl (dC 101, 200, .inr (.inl g_21))), (q_5, .inl (dC 101, 600, .inr (.inl g_25))), (q_6, .inl (dC 100, 6, .inl g_29)), (q_7, .inl (dC 100, 4, .inl g_33)), (q_8, .inl (dC 100, 24, .inl (fun _ => 0))), (q_9, .inl (dC 100, 3, .inl (fun _ => 0))), (q_10, .inl (dC 100, 150, .inl (fun _ => 0))), (q_11, .inl (dC 100, 150, .inl (fun _ => 0))), (q_12, .inl (dC 100, 150, .inl (fun _ => 0))), (q_13, .inl (dC 102, 150, .inl (fun _ => 0))), (q_14, .inl (dC 100, 885, .inl (fun _ => 0)))]) [0, 1, 2, 10, 11, 12, 13, 14, 3, 4, 5, 6, 7, 8, 9] (by decide) rfl
  exact W.vret hx hb hr (fun t ht hW => ⟨⟨(), rfl, trivial, ⟨q_1, q_2, q_3, q_4, q_5, q_6, q_7, q_8, q_9, q_10, q_11, q_12, q_13, q_14, (fun _ => 0), (fun _ => 0), g_17, g_21, g_25, g_29, g_33, (fun _ => 0), (fun _ => 0), (fun _ => 0), (fun _ => 0), (fun _ => 0), (fun _ => 0), (fun _ => 0), hf_18, hf_22, hf_26, (fun _ _ => rfl), (by rw [ht]; exact hP9), hD9⟩⟩, hS.F ht⟩) hS.2.2 dM_S_init_166
set_option maxHeartbeats 4000000 in
set_option maxRecDepth 100000 in
theorem c_No_init (l : Launch) (dC : Nat → ClassId) (dI : Nat → Nat → Nat) (h0 : Nat) (st : Nat) (sz : Nat) : Met l yM_No_init (wm yM_No_init cM_No_init 2 none) ({ frames := 60, cells := 7, slots := 1050, locals := 1200 }) (nPc [.ref h0, .ref st] (dC, dI) [(h0, .inr (6, [.null, .null, .null, .null, .null, .null, .null, .null]))] sz) (va_Qv (fun (_ : Unit) => True) (fun (_ : Unit) t => ∃ (a_kind : Nat), ∃ (a_of : Nat), ∃ (a_first : Nat), ∃ (a_second : Nat), ∃ (a_third : Nat), ∃ (a_weight : Nat), ∃ (a_number : Nat), ∃ (g_kind : Nat → Int32), ∃ (g_of : Nat → Int32), ∃ (g_first : Nat → Int32), ∃ (g_second : Nat → Int32), ∃ (g_third : Nat → Int32), ∃ (g_weight : Nat → Int32), ∃ (g_number : Nat → Int64), nB (dC, dI) (va_A [(h0, .inr (6, [.null, .null, .null, .null, .null, .null, .null, .null]))] sz) [(h0, .inr (6, [.ref st, .ref a_kind, .ref a_of, .ref a_first, .ref a_second, .ref a_third, .ref a_weight, .ref a_number])), (a_kind, .inl (dC 100, 150, .inl g_kind)), (a_of, .inl (dC 100, 150, .inl g_of)), (a_first, .inl (dC 100, 150, .inl g_first)), (a_second, .inl (dC 100, 150, .inl g_second)), (a_third, .inl (dC 100, 150, .inl g_third)), (a_weight, .inl (dC 100, 150, .inl g_weight)), (a_number, .inl (dC 101, 150, .inr (.inl g_number)))] t) (va_A [(h0, .inr (6, [.null, .null, .null, .null, .null, .null, .null, .null]))] sz)) 7 1050 (va_A [(h0, .inr (6, [.null, .null, .null, .null, .null, .null, .null, .null]))] sz) := by
  refine Met.ofW (cc := cM_No_init) (maxL := 2) (ret := none) (by decide) rfl ?_
  intro p e s m args below meth c s₁ B hml hv
  obtain ⟨rfl, hsz, hP, hD0, hK, hN⟩ := hv
  have hx := B.exec
  have hb := B.bytes
  have hr := B.returns
  have hbg : ∀ w ∈ BIG, w.before ([.ref h0, .ref st] : List Value).toArray s = true := fun w h => atoms_spec (ws := (wm yM_No_init cM_No_init 2 none)) B.pre w (List.mem_cons_of_mem _ h)
  have hown : s.vm.findClass "NoteDocument$Nodes" = some m.cls := findClass_of_methodNamed B.named
  have hlocks := B.notSynchronized
  have hin : meth.name = "<init>" := (name_of_methodNamed B.named B.method).1
  subst hsz
  have hD := hD0.self (sz := s.heap.size)
  generalize hAe : va_A [(h0, .inr (6, [.null, .null, .null, .null, .null, .null, .null, .null]))] s.heap.size = A at hD hN ⊢
  have hA : ∀ q : Nat, s.heap.size ≤ q → A q := fun q h => by rw [← hAe]; exact Or.inr h
  have hS : va_S A s.heap s.heap [] := va_S.rf
  have hP : va_P (dC, dI) classes [(h0, .inr (6, [.null, .null, .null, .null, .null, .null, .null, .null]))] s.heap := hP
  have hl := lv_entry ([.ref h0, .ref st] : List Value) (n := 2) (Nat.le_of_ble_eq_true rfl)
  rw [lg_entry_eq]
  generalize (lg_sl ([.ref h0, .ref st] : List Value) ++ List.replicate (2 - (lg_sl ([.ref h0, .ref st] : List Value)).length) Slot.unset).toArray = ls at hl ⊢
  have hl : lv_has ls 2 [(0, .ref h0), (1, .ref st)] := hl
  refine lv_aload_n hx hb dM_No_init_0 rfl (lv_at hl 0 rfl) ?_
  refine W.objInit hx hb hown (hbg _ wd_177) (hbg _ wd_43) (hbg _ wd_44) rfl (by rw [hml]; exact hl.1) rfl dM_No_init_1 (Nat.le_of_ble_eq_true rfl) (Nat.le_of_ble_eq_true rfl) ?_
  refine W.eq (g2 := F0 m 4 ls []) rfl ?_
  refine lv_aload_n hx hb dM_No_init_4 rfl (lv_at hl 0 rfl) ?_
  refine lv_sipush (v := 150) hx hb dM_No_init_5 (by decide) ?_
  refine n_newa (atype := .int) (N' := 150) (a0 := (150, .inl (fun _ => 0))) (ty := .int) (n := 150) hx hb (hbg _ wd_169) rfl hK.1 hP hD hS hA 0 rfl (fun _ => rfl) (by decide) (by decide) (Nat.le_of_ble_eq_true rfl) (Nat.le_of_ble_eq_true rfl) (Nat.le_of_ble_eq_true rfl) dM_No_init_8 (fun q_1 H hP hD hS => ?_)
  have hP : va_P (dC, dI) classes [(h0, .inr (6, [.null, .null, .null, .null, .null, .null, .null, .null])), (q_1, .inl (dC 100, 150, .inl (fun _ => 0)))] H := hP
  have hD : va_D A [(h0, .inr (6, [.null, .null, .null, .null, .null, .null, .null, .null])), (q_1, .inl (dC 100, 150, .inl (fun _ => 0)))] := hD
  refine W.widen (k := 1) (n := 150) (Nat.le_of_ble_eq_true rfl) (Nat.le_of_ble_eq_true rfl) ?_
  refine va_putF (D := (dC, dI)) (ci := 6) (v := .ref q_1) (ty := .array .int) (C := rC_No) (T := fC_No) (N := 8) hx hb hbg iC_No tC_No oC_No nC_No hown hK.1 hP hD hS 0 rfl rfl 1 (by decide) (hbg _ wd_179) (fun _ h9 => h9) rfl hin rfl (by decide +kernel) rfl rfl (Nat.le_of_ble_eq_true rfl) dM_No_init_10 (fun H locs hP hD hS => ?_)
  have hP : va_P (dC, dI) classes [(h0, .inr (6, [.null, .ref q_1, .null, .null, .null, .null, .null, .null])), (q_1, .inl (dC 100, 150, .inl (fun _ => 0)))] H := hP
  have hD : va_D A [(h0, .inr (6, [.null, .ref q_1, .null, .null, .null, .null, .null, .null])), (q_1, .inl (dC 100, 150, .inl (fun _ => 0)))] := hD
  refine lv_aload_n hx hb dM_No_init_13 rfl (lv_at hl 0 rfl) ?_
  refine lv_sipush (v := 150) hx hb dM_No_init_14 (by decide) ?_
  refine n_newa (atype := .int) (N' := 150) (a0 := (150, .inl (fun _ => 0))) (ty := .int) (n := 150) hx hb (hbg _ wd_169) rfl hK.1 hP hD hS hA 0 rfl (fun _ => rfl) (by decide) (by decide) (Nat.le_of_ble_eq_true rfl) (Nat.le_of_ble_eq_true rfl) (Nat.le_of_ble_eq_true rfl) dM_No_init_17 (fun q_2 H hP hD hS => ?_)
  have hP : va_P (dC, dI) classes [(h0, .inr (6, [.null, .ref q_1, .null, .null, .null, .null, .null, .null])), (q_1, .inl (dC 100, 150, .inl (fun _ => 0))), (q_2, .inl (dC 100, 150, .inl (fun _ => 0)))] H := hP
  have hD : va_D A [(h0, .inr (6, [.null, .ref q_1, .null, .null, .null, .null, .null, .null])), (q_1, .inl (dC 100, 150, .inl (fun _ => 0))), (q_2, .inl (dC 100, 150, .inl (fun _ => 0)))] := hD
  refine W.widen (k := 2) (n := 300) (Nat.le_of_ble_eq_true rfl) (Nat.le_of_ble_eq_true rfl) ?_
  refine va_putF (D := (dC, dI)) (ci := 6) (v := .ref q_2) (ty := .array .int) (C := rC_No) (T := fC_No) (N := 8) hx hb hbg iC_No tC_No oC_No nC_No hown hK.1 hP hD hS 0 rfl rfl 2 (by decide) (hbg _ wd_181) (fun _ h9 => h9) rfl hin rfl (by decide +kernel) rfl rfl (Nat.le_of_ble_eq_true rfl) dM_No_init_19 (fun H locs hP hD hS => ?_)
  have hP : va_P (dC, dI) classes [(h0, .inr (6, [.null, .ref q_1, .ref q_2, .null, .null, .null, .null, .null])), (q_1, .inl (dC 100, 150, .inl (fun _ => 0))), (q_2, .inl (dC 100, 150, .inl (fun _ => 0)))] H := hP
  have hD : va_D A [(h0, .inr (6, [.null, .ref q_1, .ref q_2, .null, .null, .null, .null, .null])), (q_1, .inl (dC 100, 150, .inl (fun _ => 0))), (q_2, .inl (dC 100, 150, .inl (fun _ => 0)))] := hD
  refine lv_aload_n hx hb dM_No_init_22 rfl (lv_at hl 0 rfl) ?_
  refine lv_sipush (v := 150) hx hb dM_No_init_23 (by decide) ?_
  refine n_newa (atype := .int) (N' := 150) (a0 := (150, .inl (fun _ => 0))) (ty := .int) (n := 150) hx hb (hbg _ wd_169) rfl hK.1 hP hD hS hA 0 rfl (fun _ => rfl) (by decide) (by decide) (Nat.le_of_ble_eq_true rfl) (Nat.le_of_ble_eq_true rfl) (Nat.le_of_ble_eq_true rfl) dM_No_init_26 (fun q_3 H hP hD hS => ?_)
  have hP : va_P (dC, dI) classes [(h0, .inr (6, [.null, .ref q_1, .ref q_2, .null, .null, .null, .null, .null])), (q_1, .inl (dC 100, 150, .inl (fun _ => 0))), (q_2, .inl (dC 100, 150, .inl (fun _ => 0))), (q_3, .inl (dC 100, 150, .inl (fun _ => 0)))] H := hP
  have hD : va_D A [(h0, .inr (6, [.null, .ref q_1, .ref q_2, .null, .null, .null, .null, .null])), (q_1, .inl (dC 100, 150, .inl (fun _ => 0))), (q_2, .inl (dC 100, 150, .inl (fun _ => 0))), (q_3, .inl (dC 100, 150, .inl (fun _ => 0)))] := hD
  refine W.widen (k := 3) (n := 450) (Nat.le_of_ble_eq_true rfl) (Nat.le_of_ble_eq_true rfl) ?_
  refine va_putF (D := (dC, dI)) (ci := 6) (v := .ref q_3) (ty := .array .int) (C := rC_No) (T := fC_No) (N := 8) hx hb hbg iC_No tC_No oC_No nC_No hown hK.1 hP hD hS 0 rfl rfl 3 (by decide) (hbg _ wd_183) (fun _ h9 => h9) rfl hin rfl (by decide +kernel) rfl rfl (Nat.le_of_ble_eq_true rfl) dM_No_init_28 (fun H locs hP hD hS => ?_)
  have hP : va_P (dC, dI) classes [(h0, .inr (6, [.null, .ref q_1, .ref q_2, .ref q_3, .null, .null, .null, .null])), (q_1, .inl (dC 100, 150, .inl (fun _ => 0))), (q_2, .inl (dC 100, 150, .inl (fun _ => 0))), (q_3, .inl (dC 100, 150, .inl (fun _ => 0)))] H := hP
  have hD : va_D A [(h0, .inr (6, [.null, .ref q_1, .ref q_2, .ref q_3, .null, .null, .null, .null])), (q_1, .inl (dC 100, 150, .inl (fun _ => 0))), (q_2, .inl (dC 100, 150, .inl (fun _ => 0))), (q_3, .inl (dC 100, 150, .inl (fun _ => 0)))] := hD
  refine lv_aload_n hx hb dM_No_init_31 rfl (lv_at hl 0 rfl) ?_
  refine lv_sipush (v := 150) hx hb dM_No_init_32 (by decide) ?_
  refine n_newa (atype := .int) (N' := 150) (a0 := (150, .inl (fun _ => 0))) (ty := .int) (n := 150) hx hb (hbg _ wd_169) rfl hK.1 hP hD hS hA 0 rfl (fun _ => rfl) (by decide) (by decide) (Nat.le_of_ble_eq_true rfl) (Nat.le_of_ble_eq_true rfl) (Nat.le_of_ble_eq_true rfl) dM_No_init_35 (fun q_4 H hP hD hS => ?_)
  have hP : va_P (dC, dI) classes [(h0, .inr (6, [.null, .ref q_1, .ref q_2, .ref q_3, .null, .null, .null, .null])), (q_1, .inl (dC 100, 150, .inl (fun _ => 0))), (q_2, .inl (dC 100, 150, .inl (fun _ => 0))), (q_3, .inl (dC 100, 150, .inl (fun _ => 0))), (q_4, .inl (dC 100, 150, .inl (fun _ => 0)))] H := hP
  have hD : va_D A [(h0, .inr (6, [.null, .ref q_1, .ref q_2, .ref q_3, .null, .null, .null, .null])), (q_1, .inl (dC 100, 150, .inl (fun _ => 0))), (q_2, .inl (dC 100, 150, .inl (fun _ => 0))), (q_3, .inl (dC 100, 150, .inl (fun _ => 0))), (q_4, .inl (dC 100, 150, .inl (fun _ => 0)))] := hD
  refine W.widen (k := 4) (n := 600) (Nat.le_of_ble_eq_true rfl) (Nat.le_of_ble_eq_true rfl) ?_
  refine va_putF (D := (dC, dI)) (ci := 6) (v := .ref q_4) (ty := .array .int) (C := rC_No) (T := fC_No) (N := 8) hx hb hbg iC_No tC_No oC_No nC_No hown hK.1 hP hD hS 0 rfl rfl 4 (by decide) (hbg _ wd_185) (fun _ h9 => h9) rfl hin rfl (by decide +kernel) rfl rfl (Nat.le_of_ble_eq_true rfl) dM_No_init_37 (fun H locs hP hD hS => ?_)
  have hP : va_P (dC, dI) classes [(h0, .inr (6, [.null, .ref q_1, .ref q_2, .ref q_3, .ref q_4, .null, .null, .null])), (q_1, .inl (dC 100, 150, .inl (fun _ => 0))), (q_2, .inl (dC 100, 150, .inl (fun _ => 0))), (q_3, .inl (dC 100, 150, .inl (fun _ => 0))), (q_4, .inl (dC 100, 150, .inl (fun _ => 0)))] H := hP
  have hD : va_D A [(h0, .inr (6, [.null, .ref q_1, .ref q_2, .ref q_3, .ref q_4, .null, .null, .null])), (q_1, .inl (dC 100, 150, .inl (fun _ => 0))), (q_2, .inl (dC 100, 150, .inl (fun _ => 0))), (q_3, .inl (dC 100, 150, .inl (fun _ => 0))), (q_4, .inl (dC 100, 150, .inl (fun _ => 0)))] := hD
  refine lv_aload_n hx hb dM_No_init_40 rfl (lv_at hl 0 rfl) ?_
  refine lv_sipush (v := 150) hx hb dM_No_init_41 (by decide) ?_
  refine n_newa (atype := .int) (N' := 150) (a0 := (150, .inl (fun _ => 0))) (ty := .int) (n := 150) hx hb (hbg _ wd_169) rfl hK.1 hP hD hS hA 0 rfl (fun _ => rfl) (by decide) (by decide) (Nat.le_of_ble_eq_true rfl) (Nat.le_of_ble_eq_true rfl) (Nat.le_of_ble_eq_true rfl) dM_No_init_44 (fun q_5 H hP hD hS => ?_)
  have hP : va_P (dC, dI) classes [(h0, .inr (6, [.null, .ref q_1, .ref q_2, .ref q_3, .ref q_4, .null, .null, .null])), (q_1, .inl (dC 100, 150, .inl (fun _ => 0))), (q_2, .inl (dC 100, 150, .inl (fun _ => 0))), (q_3, .inl (dC 100, 150, .inl (fun _ => 0))), (q_4, .inl (dC 100, 150, .inl (fun _ => 0))), (q_5, .inl (dC 100, 150, .inl (fun _ => 0)))] H := hP
  have hD : va_D A [(h0, .inr (6, [.null, .ref q_1, .ref q_2, .ref q_3, .ref q_4, .null, .null, .null])), (q_1, .inl (dC 100, 150, .inl (fun _ => 0))), (q_2, .inl (dC 100, 150, .inl (fun _ => 0))), (q_3, .inl (dC 100, 150, .inl (fun _ => 0))), (q_4, .inl (dC 100, 150, .inl (fun _ => 0))), (q_5, .inl (dC 100, 150, .inl (fun _ => 0)))] := hD
  refine W.widen (k := 5) (n := 750) (Nat.le_of_ble_eq_true rfl) (Nat.le_of_ble_eq_true rfl) ?_
  refine va_putF (D := (dC, dI)) (ci := 6) (v := .ref q_5) (ty := .array .int) (C := rC_No) (T := fC_No) (N := 8) hx hb hbg iC_No tC_No oC_No nC_No hown hK.1 hP hD hS 0 rfl rfl 5 (by decide) (hbg _ wd_187) (fun _ h9 => h9) rfl hin rfl (by decide +kernel) rfl rfl (Nat.le_of_ble_eq_true rfl) dM_No_init_46 (fun H locs hP hD hS => ?_)
  have hP : va_P (dC, dI) classes [(h0, .inr (6, [.null, .ref q_1, .ref q_2, .ref q_3, .ref q_4, .ref q_5, .null, .null])), (q_1, .inl (dC 100, 150, .inl (fun _ => 0))), (q_2, .inl (dC 100, 150, .inl (fun _ => 0))), (q_3, .inl (dC 100, 150, .inl (fun _ => 0))), (q_4, .inl (dC 100, 150, .inl (fun _ => 0))), (q_5, .inl (dC 100, 150, .inl (fun _ => 0)))] H := hP
  have hD : va_D A [(h0, .inr (6, [.null, .ref q_1, .ref q_2, .ref q_3, .ref q_4, .ref q_5, .null, .null])), (q_1, .inl (dC 100, 150, .inl (fun _ => 0))), (q_2, .inl (dC 100, 150, .inl (fun _ => 0))), (q_3, .inl (dC 100, 150, .inl (fun _ => 0))), (q_4, .inl (dC 100, 150, .inl (fun _ => 0))), (q_5, .inl (dC 100, 150, .inl (fun _ => 0)))] := hD
  refine lv_aload_n hx hb dM_No_init_49 rfl (lv_at hl 0 rfl) ?_
  refine lv_sipush (v := 150) hx hb dM_No_init_50 (by decide) ?_
  refine n_newa (atype := .int) (N' := 150) (a0 := (150, .inl (fun _ => 0))) (ty := .int) (n := 150) hx hb (hbg _ wd_169) rfl hK.1 hP hD hS hA 0 rfl (fun _ => rfl) (by decide) (by decide) (Nat.le_of_ble_eq_true rfl) (Nat.le_of_ble_eq_true rfl) (Nat.le_of_ble_eq_true rfl) dM_No_init_53 (fun q_6 H hP hD hS => ?_)
  have hP : va_P (dC, dI) classes [(h0, .inr (6, [.null, .ref q_1, .ref q_2, .ref q_3, .ref q_4, .ref q_5, .null, .null])), (q_1, .inl (dC 100, 150, .inl (fun _ => 0))), (q_2, .inl (dC 100, 150, .inl (fun _ => 0))), (q_3, .inl (dC 100, 150, .inl (fun _ => 0))), (q_4, .inl (dC 100, 150, .inl (fun _ => 0))), (q_5, .inl (dC 100, 150, .inl (fun _ => 0))), (q_6, .inl (dC 100, 150, .inl (fun _ => 0)))] H := hP
  have hD : va_D A [(h0, .inr (6, [.null, .ref q_1, .ref q_2, .ref q_3, .ref q_4, .ref q_5, .null, .null])), (q_1, .inl (dC 100, 150, .inl (fun _ => 0))), (q_2, .inl (dC 100, 150, .inl (fun _ => 0))), (q_3, .inl (dC 100, 150, .inl (fun _ => 0))), (q_4, .inl (dC 100, 150, .inl (fun _ => 0))), (q_5, .inl (dC 100, 150, .inl (fun _ => 0))), (q_6, .inl (dC 100, 150, .inl (fun _ => 0)))] := hD
  refine W.widen (k := 6) (n := 900) (Nat.le_of_ble_eq_true rfl) (Nat.le_of_ble_eq_true rfl) ?_
  refine va_putF (D := (dC, dI)) (ci := 6) (v := .ref q_6) (ty := .array .int) (C := rC_No) (T := fC_No) (N := 8) hx hb hbg iC_No tC_No oC_No nC_No hown hK.1 hP hD hS 0 rfl rfl 6 (by decide) (hbg _ wd_189) (fun _ h9 => h9) rfl hin rfl (by decide +kernel) rfl rfl (Nat.le_of_ble_eq_true rfl) dM_No_init_55 (fun H locs hP hD hS => ?_)
  have hP : va_P (dC, dI) classes [(h0, .inr (6, [.null, .ref q_1, .ref q_2, .ref q_3, .ref q_4, .ref q_5, .ref q_6, .null])), (q_1, .inl (dC 100, 150, .inl (fun _ => 0))), (q_2, .inl (dC 100, 150, .inl (fun _ => 0))), (q_3, .inl (dC 100, 150, .inl (fun _ => 0))), (q_4, .inl (dC 100, 150, .inl (fun _ => 0))), (q_5, .inl (dC 100, 150, .inl (fun _ => 0))), (q_6, .inl (dC 100, 150, .inl (fun _ => 0)))] H := hP
  have hD : va_D A [(h0, .inr (6, [.null, .ref q_1, .ref q_2, .ref q_3, .ref q_4, .ref q_5, .ref q_6, .null])), (q_1, .inl (dC 100, 150, .inl (fun _ => 0))), (q_2, .inl (dC 100, 150, .inl (fun _ => 0))), (q_3, .inl (dC 100, 150, .inl (fun _ => 0))), (q_4, .inl (dC 100, 150, .inl (fun _ => 0))), (q_5, .inl (dC 100, 150, .inl (fun _ => 0))), (q_6, .inl (dC 100, 150, .inl (fun _ => 0)))] := hD
  refine lv_aload_n hx hb dM_No_init_58 rfl (lv_at hl 0 rfl) ?_
  refine lv_sipush (v := 150) hx hb dM_No_init_59 (by decide) ?_
  refine n_newa (atype := .long) (N' := 150) (a0 := (150, .inr (.inl (fun _ => 0)))) (ty := .long) (n := 150) hx hb (hbg _ wd_170) rfl hK.1 hP hD hS hA 1 rfl (fun _ => rfl) (by decide) (by decide) (Nat.le_of_ble_eq_true rfl) (Nat.le_of_ble_eq_true rfl) (Nat.le_of_ble_eq_true rfl) dM_No_init_62 (fun q_7 H hP hD hS => ?_)
  have hP : va_P (dC, dI) classes [(h0, .inr (6, [.null, .ref q_1, .ref q_2, .ref q_3, .ref q_4, .ref q_5, .ref q_6, .null])), (q_1, .inl (dC 100, 150, .inl (fun _ => 0))), (q_2, .inl (dC 100, 150, .inl (fun _ => 0))), (q_3, .inl (dC 100, 150, .inl (fun _ => 0))), (q_4, .inl (dC 100, 150, .inl (fun _ => 0))), (q_5, .inl (dC 100, 150, .inl (fun _ => 0))), (q_6, .inl (dC 100, 150, .inl (fun _ => 0))), (q_7, .inl (dC 101, 150, .inr (.inl (fun _ => 0))))] H := hP
  have hD : va_D A [(h0, .inr (6, [.null, .ref q_1, .ref q_2, .ref q_3, .ref q_4, .ref q_5, .ref q_6, .null])), (q_1, .inl (dC 100, 150, .inl (fun _ => 0))), (q_2, .inl (dC 100, 150, .inl (fun _ => 0))), (q_3, .inl (dC 100, 150, .inl (fun _ => 0))), (q_4, .inl (dC 100, 150, .inl (fun _ => 0))), (q_5, .inl (dC 100, 150, .inl (fun _ => 0))), (q_6, .inl (dC 100, 150, .inl (fun _ => 0))), (q_7, .inl (dC 101, 150, .inr (.inl (fun _ => 0))))] := hD
  refine W.widen (k := 7) (n := 1050) (Nat.le_of_ble_eq_true rfl) (Nat.le_of_ble_eq_true rfl) ?_
  refine va_putF (D := (dC, dI)) (ci := 6) (v := .ref q_7) (ty := .array .long) (C := rC_No) (T := fC_No) (N := 8) hx hb hbg iC_No tC_No oC_No nC_No hown hK.1 hP hD hS 0 rfl rfl 7 (by decide) (hbg _ wd_191) (fun _ h9 => h9) rfl hin rfl (by decide +kernel) rfl rfl (Nat.le_of_ble_eq_true rfl) dM_No_init_64 (fun H locs hP hD hS => ?_)
  have hP : va_P (dC, dI) classes [(h0, .inr (6, [.null, .ref q_1, .ref q_2, .ref q_3, .ref q_4, .ref q_5, .ref q_6, .ref q_7])), (q_1, .inl (dC 100, 150, .inl (fun _ => 0))), (q_2, .inl (dC 100, 150, .inl (fun _ => 0))), (q_3, .inl (dC 100, 150, .inl (fun _ => 0))), (q_4, .inl (dC 100, 150, .inl (fun _ => 0))), (q_5, .inl (dC 100, 150, .inl (fun _ => 0))), (q_6, .inl (dC 100, 150, .inl (fun _ => 0))), (q_7, .inl (dC 101, 150, .inr (.inl (fun _ => 0))))] H := hP
  have hD : va_D A [(h0, .inr (6, [.null, .ref q_1, .ref q_2, .ref q_3, .ref q_4, .ref q_5, .ref q_6, .ref q_7])), (q_1, .inl (dC 100, 150, .inl (fun _ => 0))), (q_2, .inl (dC 100, 150, .inl (fun _ => 0))), (q_3, .inl (dC 100, 150, .inl (fun _ => 0))), (q_4, .inl (dC 100, 150, .inl (fun _ => 0))), (q_5, .inl (dC 100, 150, .inl (fun _ => 0))), (q_6, .inl (dC 100, 150, .inl (fun _ => 0))), (q_7, .inl (dC 101, 150, .inr (.inl (fun _ => 0))))] := hD
  refine lv_aload_n hx hb dM_No_init_67 rfl (lv_at hl 0 rfl) ?_
  refine lv_aload_n hx hb dM_No_init_68 rfl (lv_at hl 1 rfl) ?_
  refine va_putF (D := (dC, dI)) (ci := 6) (v := .ref st) (ty := .object "NoteDocument$State") (C := rC_No) (T := fC_No) (N := 8) hx hb hbg iC_No tC_No oC_No nC_No hown hK.1 hP hD hS 0 rfl rfl 0 (by decide) (hbg _ wd_178) (fun _ h9 => h9) rfl hin rfl (by decide +kernel) rfl rfl (Nat.le_of_ble_eq_true rfl) dM_No_init_69 (fun H locs hP hD hS => ?_)
  have hP : va_P (dC, dI) classes [(h0, .inr (6, [.ref st, .ref q_1, .ref q_2, .ref q_3, .ref q_4, .ref q_5, .ref q_6, .ref q_7])), (q_1, .inl (dC 100, 150, .inl (fun _ => 0))), (q_2, .inl (dC 100, 150, .inl (fun _ => 0))), (q_3, .inl (dC 100, 150, .inl (fun _ => 0))), (q_4, .inl (dC 100, 150, .inl (fun _ => 0))), (q_5, .inl (dC 100, 150, .inl (fun _ => 0))), (q_6, .inl (dC 100, 150, .inl (fun _ => 0))), (q_7, .inl (dC 101, 150, .inr (.inl (fun _ => 0))))] H := hP
  have hD : va_D A [(h0, .inr (6, [.ref st, .ref q_1, .ref q_2, .ref q_3, .ref q_4, .ref q_5, .ref q_6, .ref q_7])), (q_1, .inl (dC 100, 150, .inl (fun _ => 0))), (q_2, .inl (dC 100, 150, .inl (fun _ => 0))), (q_3, .inl (dC 100, 150, .inl (fun _ => 0))), (q_4, .inl (dC 100, 150, .inl (fun _ => 0))), (q_5, .inl (dC 100, 150, .inl (fun _ => 0))), (q_6, .inl (dC 100, 150, .inl (fun _ => 0))), (q_7, .inl (dC 101, 150, .inr (.inl (fun _ => 0))))] := hD
  have hP9 := hP.pick (wc := [(h0, .inr (6, [.ref st, .ref q_1, .ref q_2, .ref q_3, .ref q_4, .ref q_5, .ref q_6, .ref q_7])), (q_1, .inl (dC 100, 150, .inl (fun _ => 0))), (q_2, .inl (dC 100, 150, .inl (fun _ => 0))), (q_3, .inl (dC 100, 150, .inl (fun _ => 0))), (q_4, .inl (dC 100, 150, .inl (fun _ => 0))), (q_5, .inl (dC 100, 150, .inl (fun _ => 0))), (q_6, .inl (dC 100, 150, .inl (fun _ => 0))), (q_7, .inl (dC 101, 150, .inr (.inl (fun _ => 0))))]) [0, 1, 2, 3, 4, 5, 6, 7] rfl
  have hD9 := hD.sub (ws' := [(h0, .inr (6, [.ref st, .ref q_1, .ref q_2, .ref q_3, .ref q_4, .ref q_5, .ref q_6, .ref q_7])), (q_1, .inl (dC 100, 150, .inl (fun _ => 0))), (q_2, .inl (dC 100, 150, .inl (fun _ => 0))), (q_3, .inl (dC 100, 150, .inl (fun _ => 0))), (q_4, .inl (dC 100, 150, .inl (fun _ => 0))), (q_5, .inl (dC 100, 150, .inl (fun _ => 0))), (q_6, .inl (dC 100, 150, .inl (fun _ => 0))), (q_7, .inl (dC 101, 150, .inr (.inl (fun _ => 0))))]) [0, 1, 2, 3, 4, 5, 6, 7] (by decide) rfl
  exact W.vret hx hb hr (fun t ht hW => ⟨⟨(), rfl, trivial, ⟨q_1, q_2, q_3, q_4, q_5, q_6, q_7, (fun _ => 0), (fun _ => 0), (fun _ => 0), (fun _ => 0), (fun _ => 0), (fun _ => 0), (fun _ => 0), (by rw [ht]; exact hP9), hD9⟩⟩, hS.F ht⟩) hS.2.2 dM_No_init_72
set_option maxHeartbeats 4000000 in
set_option maxRecDepth 100000 in
theorem c_Ch_slot (l : Launch) (dC : Nat → ClassId) (dI : Nat → Nat → Nat) (h0 : Nat) (p0 : Int32) (p1 : Int32) (v0 : Value) (v1 : Value) (v2 : Value) (v3 : Value) (fl : Nat) (v5 : Value) (f : Nat → Int32) (sz : Nat) : Met l yM_Ch_slot (wm yM_Ch_slot cM_Ch_slot 4 (some .int)) ({ frames := 20, cells := 0, slots := 0, locals := 400 }) (nPc [.ref h0, .int p0, .int p1] (dC, dI) [(h0, .inr (1, [v0, v1, v2, v3, .ref fl, v5])), (fl, .inl (dC 100, 512, .inl f))] sz) (va_Qi (fun (r : Int32) (_ : Unit) => vp_in r 512) (fun (_ : Unit) t => nB (dC, dI) (va_A [(h0, .inr (1, [v0, v1, v2, v3, .ref fl, v5])), (fl, .inl (dC 100, 512, .inl f))] sz) [(h0, .inr (1, [v0, v1, v2, v3, .ref fl, v5])), (fl, .inl (dC 100, 512, .inl f))] t) (va_A [(h0, .inr (1, [v0, v1, v2, v3, .ref fl, v5])), (fl, .inl (dC 100, 512, .inl f))] sz)) 0 0 (va_A [(h0, .inr (1, [v0, v1, v2, v3, .ref fl, v5])), (fl, .inl (dC 100, 512, .inl f))] sz) := by
  refine Met.ofW (cc := cM_Ch_slot) (maxL := 4) (ret := (some .int)) (by decide) rfl ?_
  intro p e s m args below meth c s₁ B hml hv
  obtain ⟨rfl, hsz, hP, hD0, hK, hN⟩ := hv
  have hx := B.exec
  have hb := B.bytes
  have hr := B.returns
  have hbg : ∀ w ∈ BIG, w.before ([.ref h0, .int p0, .int p1] : List Value).toArray s = true := fun w h => atoms_spec (ws := (wm yM_Ch_slot cM_Ch_slot 4 (some .int))) B.pre w (List.mem_cons_of_mem _ h)
  have hown : s.vm.findClass "NoteDocument$Chains" = some m.cls := findClass_of_methodNamed B.named
  have hlocks := B.notSynchronized
  subst hsz
  have hD := hD0.self (sz := s.heap.size)
  generalize hAe : va_A [(h0, .inr (1, [v0, v1, v2, v3, .ref fl, v5])), (fl, .inl (dC 100, 512, .inl f))] s.heap.size = A at hD hN ⊢
  have hA : ∀ q : Nat, s.heap.size ≤ q → A q := fun q h => by rw [← hAe]; exact Or.inr h
  have hS : va_S A s.heap s.heap [] := va_S.rf
  have hP : va_P (dC, dI) classes [(h0, .inr (1, [v0, v1, v2, v3, .ref fl, v5])), (fl, .inl (dC 100, 512, .inl f))] s.heap := hP
  have hl := lv_entry ([.ref h0, .int p0, .int p1] : List Value) (n := 4) (Nat.le_of_ble_eq_true rfl)
  rw [lg_entry_eq]
  generalize (lg_sl ([.ref h0, .int p0, .int p1] : List Value) ++ List.replicate (4 - (lg_sl ([.ref h0, .int p0, .int p1] : List Value)).length) Slot.unset).toArray = ls at hl ⊢
  have hl : lv_has ls 4 [(0, .ref h0), (1, .int p0), (2, .int p1)] := hl
  refine lv_iload_n hx hb dM_Ch_slot_0 rfl (lv_at hl 2 rfl) ?_
  refine lv_sipush (v := 200) hx hb dM_Ch_slot_1 (by decide) ?_
  refine lv_imul hx hb dM_Ch_slot_4 ?_
  refine lv_topi (fun y_1 ey_1 => ?_)
  refine lv_iload_n hx hb dM_Ch_slot_5 rfl (lv_at hl 1 rfl) ?_
  refine lv_iadd hx hb dM_Ch_slot_6 ?_
  refine lv_topi (fun y_2 ey_2 => ?_)
  refine lv_ldc (v := (-1640531535)) hx hb hown (hbg _ wd_225) dM_Ch_slot_7 ?_
  refine lv_imul hx hb dM_Ch_slot_9 ?_
  refine lv_topi (fun y_3 ey_3 => ?_)
  refine lv_istore_n (lv' := [(3, .int y_3), (0, .ref h0), (1, .int p0), (2, .int p1)]) hx hb dM_Ch_slot_10 rfl hl (by decide) rfl (fun ls hl => ?_)
  refine lv_iload_n hx hb dM_Ch_slot_11 rfl (lv_at hl 0 rfl) ?_
  refine lv_iload_n hx hb dM_Ch_slot_12 rfl (lv_at hl 0 rfl) ?_
  refine lv_bipush (v := 15) hx hb dM_Ch_slot_13 (by decide) ?_
  refine lv_iushr (v := (y_3.toUInt32 >>> ((15 : Int32).toUInt32 &&& Int32.toUInt32 31)).toInt32) hx hb dM_Ch_slot_15 rfl ?_
  refine lv_topi (fun y_4 ey_4 => ?_)
  refine lv_ixor hx hb dM_Ch_slot_16 ?_
  refine lv_topi (fun y_5 ey_5 => ?_)
  refine lv_aload_n hx hb dM_Ch_slot_17 rfl (lv_at hl 1 rfl) ?_
  refine va_get (D := (dC, dI)) (ci := 1) (v := .ref fl) (C := rC_Ch) (T := fC_Ch) (N := 6) hx hb hbg iC_Ch hown hK.1 hP 0 rfl rfl 4 (by decide) (hbg _ wd_230) (fun _ h9 => h9) rfl dM_Ch_slot_18 ?_
  refine va_alen hx hb hK.1 hP 1 0 rfl rfl (v := 512) rfl dM_Ch_slot_21 ?_
  refine lv_iconst (v := 1) hx hb dM_Ch_slot_22 (by decide) ?_
  refine lv_isub hx hb dM_Ch_slot_23 ?_
  refine lv_topi (fun y_6 ey_6 => ?_)
  obtain rfl : y_6 = 511 := ey_6.trans (by decide)
  refine lv_iand hx hb dM_Ch_slot_24 ?_
  refine lv_topi (fun y_7 ey_7 => ?_)
  have hP9 := hP.pick (wc := [(h0, .inr (1, [v0, v1, v2, v3, .ref fl, v5])), (fl, .inl (dC 100, 512, .inl f))]) [0, 1] rfl
  have hD9 := hD.sub (ws' := [(h0, .inr (1, [v0, v1, v2, v3, .ref fl, v5])), (fl, .inl (dC 100, 512, .inl f))]) [0, 1] (by decide) rfl
  exact W.iret (v := y_7) hx hb hr (fun t ht hW => ⟨⟨y_7, (), rfl, (by rw [ey_7]; exact pk_andIn _ 9 (by decide) (by decide)), ⟨(by rw [ht]; exact hP9), hD9⟩⟩, hS.F ht⟩) hS.2.2 dM_Ch_slot_25
set_option maxHeartbeats 4000000 in
set_option maxRecDepth 100000 in
theorem c_Ch_add (l : Launch) (dC : Nat → ClassId) (dI : Nat → Nat → Nat) (h0 : Nat) (p0 : Int32) (a_cell : Nat) (a_behind : Nat) (a_size : Nat) (a_nextLikely : Nat) (a_firstLikely : Nat) (f_cell : Nat → Int32) (f_behind : Nat → Int32) (f_size : Nat → Int32) (f_nextLikely : Nat → Int32) (f_firstLikely : Nat → Int32) (k : Nat) (sz : Nat) (hk : k < 512) : Met l yM_Ch_add (wm yM_Ch_add cM_Ch_add 5 (some .int)) ({ frames := 40, cells := 0, slots := 0, locals := 800 }) (nPc [.ref h0, .int p0, .int 0] (dC, dI) [(h0, .inr (1, [.ref a_cell, .ref a_behind, .ref a_size, .ref a_nextLikely, .ref a_firstLikely, .int (nI k)])), (a_cell, .inl (dC 100, 512, .inl f_cell)), (a_behind, .inl (dC 100, 512, .inl f_behind)), (a_size, .inl (dC 100, 512, .inl f_size)), (a_nextLikely, .inl (dC 100, 512, .inl f_nextLikely)), (a_firstLikely, .inl (dC 100, 512, .inl f_firstLikely))] sz) (va_Qi (fun (r : Int32) (_ : Unit) => True) (fun (_ : Unit) t => ∃ (g_cell : Nat → Int32), ∃ (g_behind : Nat → Int32), ∃ (g_size : Nat → Int32), ∃ (g_nextLikely : Nat → Int32), ∃ (g_firstLikely : Nat → Int32), nB (dC, dI) (va_A [(h0, .inr (1, [.ref a_cell, .ref a_behind, .ref a_size, .ref a_nextLikely, .ref a_firstLikely, .int (nI k)])), (a_cell, .inl (dC 100, 512, .inl f_cell)), (a_behind, .inl (dC 100, 512, .inl f_behind)), (a_size, .inl (dC 100, 512, .inl f_size)), (a_nextLikely, .inl (dC 100, 512, .inl f_nextLikely)), (a_firstLikely, .inl (dC 100, 512, .inl f_firstLikely))] sz) [(h0, .inr (1, [.ref a_cell, .ref a_behind, .ref a_size, .ref a_nextLikely, .ref a_firstLikely, .int (nI (k + 1))])), (a_cell, .inl (dC 100, 512, .inl g_cell)), (a_behind, .inl (dC 100, 512, .inl g_behind)), (a_size, .inl (dC 100, 512, .inl g_size)), (a_nextLikely, .inl (dC 100, 512, .inl g_nextLikely)), (a_firstLikely, .inl (dC 100, 512, .inl g_firstLikely))] t) (va_A [(h0, .inr (1, [.ref a_cell, .ref a_behind, .ref a_size, .ref a_nextLikely, .ref a_firstLikely, .int (nI k)])), (a_cell, .inl (dC 100, 512, .inl f_cell)), (a_behind, .inl (dC 100, 512, .inl f_behind)), (a_size, .inl (dC 100, 512, .inl f_size)), (a_nextLikely, .inl (dC 100, 512, .inl f_nextLikely)), (a_firstLikely, .inl (dC 100, 512, .inl f_firstLikely))] sz)) 0 0 (va_A [(h0, .inr (1, [.ref a_cell, .ref a_behind, .ref a_size, .ref a_nextLikely, .ref a_firstLikely, .int (nI k)])), (a_cell, .inl (dC 100, 512, .inl f_cell)), (a_behind, .inl (dC 100, 512, .inl f_behind)), (a_size, .inl (dC 100, 512, .inl f_size)), (a_nextLikely, .inl (dC 100, 512, .inl f_nextLikely)), (a_firstLikely, .inl (dC 100, 512, .inl f_firstLikely))] sz) := by
  refine Met.ofW (cc := cM_Ch_add) (maxL := 5) (ret := (some .int)) (by decide) rfl ?_
  intro p e s m args below meth c s₁ B hml hv
  obtain ⟨rfl, hsz, hP, hD0, hK, hN⟩ := hv
  have hx := B.exec
  have hb := B.bytes
  have hr := B.returns
  have hbg : ∀ w ∈ BIG, w.before ([.ref h0, .int p0, .int 0] : List Value).toArray s = true := fun w h => atoms_spec (ws := (wm yM_Ch_add cM_Ch_add 5 (some .int))) B.pre w (List.mem_cons_of_mem _ h)
  have hown : s.vm.findClass "NoteDocument$Chains" = some m.cls := findClass_of_methodNamed B.named
  have hlocks := B.notSynchronized
  subst hsz
  have hD := hD0.self (sz := s.heap.size)
  generalize hAe : va_A [(h0, .inr (1, [.ref a_cell, .ref a_behind, .ref a_size, .ref a_nextLikely, .ref a_firstLikely, .int (nI k)])), (a_cell, .inl (dC 100, 512, .inl f_cell)), (a_behind, .inl (dC 100, 512, .inl f_behind)), (a_size, .inl (dC 100, 512, .inl f_size)), (a_nextLikely, .inl (dC 100, 512, .inl f_nextLikely)), (a_firstLikely, .inl (dC 100, 512, .inl f_firstLikely))] s.heap.size = A at hD hN ⊢
  have hA : ∀ q : Nat, s.heap.size ≤ q → A q := fun q h => by rw [← hAe]; exact Or.inr h
  have hS : va_S A s.heap s.heap [] := va_S.rf
  have hP : va_P (dC, dI) classes [(h0, .inr (1, [.ref a_cell, .ref a_behind, .ref a_size, .ref a_nextLikely, .ref a_firstLikely, .int (nI k)])), (a_cell, .inl (dC 100, 512, .inl f_cell)), (a_behind, .inl (dC 100, 512, .inl f_behind)), (a_size, .inl (dC 100, 512, .inl f_size)), (a_nextLikely, .inl (dC 100, 512, .inl f_nextLikely)), (a_firstLikely, .inl (dC 100, 512, .inl f_firstLikely))] s.heap := hP
  have hl := lv_entry ([.ref h0, .int p0, .int 0] : List Value) (n := 5) (Nat.le_of_ble_eq_true rfl)
  rw [lg_entry_eq]
  generalize (lg_sl ([.ref h0, .int p0, .int 0] : List Value) ++ List.replicate (5 - (lg_sl ([.ref h0, .int p0, .int 0] : List Value)).length) Slot.unset).toArray = ls at hl ⊢
  have hl : lv_has ls 5 [(0, .ref h0), (1, .int p0), (2, .int 0)] := hl
  refine lv_aload_n hx hb dM_Ch_add_0 rfl (lv_at hl 0 rfl) ?_
  refine va_get (D := (dC, dI)) (ci := 1) (v := .int (nI k)) (C := rC_Ch) (T := fC_Ch) (N := 6) hx hb hbg iC_Ch hown hK.1 hP 0 rfl rfl 5 (by decide) (hbg _ wd_231) (fun _ h9 => h9) rfl dM_Ch_add_1 ?_
  refine lv_istore_n (lv' := [(3, .int (nI k)), (0, .ref h0), (1, .int p0), (2, .int 0)]) hx hb dM_Ch_add_4 rfl hl (by decide) rfl (fun ls hl => ?_)
  refine lv_aload_n hx hb dM_Ch_add_5 rfl (lv_at hl 1 rfl) ?_
  refine lv_iload_n hx hb dM_Ch_add_6 rfl (lv_at hl 2 rfl) ?_
  refine lv_iload_n hx hb dM_Ch_add_7 rfl (lv_at hl 3 rfl) ?_
  have hFc := va_free (wc := [(h0, .inr (1, [.ref a_cell, .ref a_behind, .ref a_size, .ref a_nextLikely, .ref a_firstLikely, .int (nI k)])), (a_firstLikely, .inl (dC 100, 512, .inl f_firstLikely))]) hD hS hA [0, 5] rfl
  refine va_calli (va_runV (As := [.int p0, .int 0]) (rest := []) ⟨hx, hb, hml, hown, hbg⟩ (c_Ch_slot l dC dI h0 p0 0 (.ref a_cell) (.ref a_behind) (.ref a_size) (.ref a_nextLikely) a_firstLikely (.int (nI k)) f_firstLikely _ ) (cwV 2 hbg (gd_V (fun _ h => h) wd_221 wd_223 ws_1 wd_5 (gd_wm (fun _ h => h) wd_224)) rfl rfl rfl (by decide +kernel) ⟨Nat.le_of_ble_eq_true rfl, Nat.le_of_ble_eq_true rfl⟩) (nPreV [0, 5] hP hD hK hN hS hA (by decide) rfl 0 rfl rfl) rfl rfl hl.1 rfl (lv_room (Nat.le_of_ble_eq_true rfl)) dM_Ch_add_8 ⟨Nat.le_of_ble_eq_true rfl, Nat.le_of_ble_eq_true rfl⟩) hS (fun q _ h => hFc q h) hFc (fun r_1 u t H1 locs ht hvm hw hB hz1 hk1 hS => ?_)
  have c_2 : vp_in r_1 512 := hw
  obtain ⟨hP1, hD1⟩ := hB
  rw [ht] at hP1
  obtain ⟨hP, hD⟩ := va_join (wr := [(a_cell, .inl (dC 100, 512, .inl f_cell)), (a_behind, .inl (dC 100, 512, .inl f_behind)), (a_size, .inl (dC 100, 512, .inl f_size)), (a_nextLikely, .inl (dC 100, 512, .inl f_nextLikely))]) (w1 := [(h0, .inr (1, [.ref a_cell, .ref a_behind, .ref a_size, .ref a_nextLikely, .ref a_firstLikely, .int (nI k)])), (a_firstLikely, .inl (dC 100, 512, .inl f_firstLikely))]) hP hD [0, 5] [1, 2, 3, 4] rfl rfl (by decide) (by decide) hk1 hFc hP1 hD1
  generalize H1 = H at hP hS ⊢
  have hP : va_P (dC, dI) classes [(a_cell, .inl (dC 100, 512, .inl f_cell)), (a_behind, .inl (dC 100, 512, .inl f_behind)), (a_size, .inl (dC 100, 512, .inl f_size)), (a_nextLikely, .inl (dC 100, 512, .inl f_nextLikely)), (h0, .inr (1, [.ref a_cell, .ref a_behind, .ref a_size, .ref a_nextLikely, .ref a_firstLikely, .int (nI k)])), (a_firstLikely, .inl (dC 100, 512, .inl f_firstLikely))] H := hP
  have hD : va_D A [(a_cell, .inl (dC 100, 512, .inl f_cell)), (a_behind, .inl (dC 100, 512, .inl f_behind)), (a_size, .inl (dC 100, 512, .inl f_size)), (a_nextLikely, .inl (dC 100, 512, .inl f_nextLikely)), (h0, .inr (1, [.ref a_cell, .ref a_behind, .ref a_size, .ref a_nextLikely, .ref a_firstLikely, .int (nI k)])), (a_firstLikely, .inl (dC 100, 512, .inl f_firstLikely))] := hD
  refine W.widen (k := 0) (n := 0) (Nat.le_of_ble_eq_true rfl) (Nat.le_of_ble_eq_true rfl) ?_
  refine lv_istore (lv' := [(4, .int r_1), (3, .int (nI k)), (0, .ref h0), (1, .int p0), (2, .int 0)]) hx hb dM_Ch_add_11 hl (by decide) rfl (fun ls hl => ?_)
  refine lv_aload_n hx hb dM_Ch_add_13 rfl (lv_at hl 2 rfl) ?_
  refine va_get (D := (dC, dI)) (ci := 1) (v := .ref a_cell) (C := rC_Ch) (T := fC_Ch) (N := 6) hx hb hbg iC_Ch hown hK.1 hP 4 rfl rfl 0 (by decide) (hbg _ wd_226) (fun _ h9 => h9) rfl dM_Ch_add_14 ?_
  refine lv_iload_n hx hb dM_Ch_add_17 rfl (lv_at hl 1 rfl) ?_
  refine lv_iload_n hx hb dM_Ch_add_18 rfl (lv_at hl 3 rfl) ?_
  refine va_iast hx hb hK.1 hP hD hS 0 0 rfl rfl (n_in hk (by decide)) dM_Ch_add_19 (fun H locs hP hD hS => ?_)
  have hP : va_P (dC, dI) classes [(a_cell, .inl (dC 100, 512, .inl (upd f_cell (nI k).toNatClampNeg p0))), (a_behind, .inl (dC 100, 512, .inl f_behind)), (a_size, .inl (dC 100, 512, .inl f_size)), (a_nextLikely, .inl (dC 100, 512, .inl f_nextLikely)), (h0, .inr (1, [.ref a_cell, .ref a_behind, .ref a_size, .ref a_nextLikely, .ref a_firstLikely, .int (nI k)])), (a_firstLikely, .inl (dC 100, 512, .inl f_firstLikely))] H := hP
  have hD : va_D A [(a_cell, .inl (dC 100, 512, .inl (upd f_cell (nI k).toNatClampNeg p0))), (a_behind, .inl (dC 100, 512, .inl f_behind)), (a_size, .inl (dC 100, 512, .inl f_size)), (a_nextLikely, .inl (dC 100, 512, .inl f_nextLikely)), (h0, .inr (1, [.ref a_cell, .ref a_behind, .ref a_size, .ref a_nextLikely, .ref a_firstLikely, .int (nI k)])), (a_firstLikely, .inl (dC 100, 512, .inl f_firstLikely))] := hD
  refine lv_aload_n hx hb dM_Ch_add_20 rfl (lv_at hl 2 rfl) ?_
  refine va_get (D := (dC, dI)) (ci := 1) (v := .ref a_behind) (C := rC_Ch) (T := fC_Ch) (N := 6) hx hb hbg iC_Ch hown hK.1 hP 4 rfl rfl 1 (by decide) (hbg _ wd_227) (fun _ h9 => h9) rfl dM_Ch_add_21 ?_
  refine lv_iload_n hx hb dM_Ch_add_24 rfl (lv_at hl 1 rfl) ?_
  refine lv_iload_n hx hb dM_Ch_add_25 rfl (lv_at hl 4 rfl) ?_
  refine va_iast hx hb hK.1 hP hD hS 1 0 rfl rfl (n_in hk (by decide)) dM_Ch_add_26 (fun H locs hP hD hS => ?_)
  have hP : va_P (dC, dI) classes [(a_cell, .inl (dC 100, 512, .inl (upd f_cell (nI k).toNatClampNeg p0))), (a_behind, .inl (dC 100, 512, .inl (upd f_behind (nI k).toNatClampNeg 0))), (a_size, .inl (dC 100, 512, .inl f_size)), (a_nextLikely, .inl (dC 100, 512, .inl f_nextLikely)), (h0, .inr (1, [.ref a_cell, .ref a_behind, .ref a_size, .ref a_nextLikely, .ref a_firstLikely, .int (nI k)])), (a_firstLikely, .inl (dC 100, 512, .inl f_firstLikely))] H := hP
  have hD : va_D A [(a_cell, .inl (dC 100, 512, .inl (upd f_cell (nI k).toNatClampNeg p0))), (a_behind, .inl (dC 100, 512, .inl (upd f_behind (nI k).toNatClampNeg 0))), (a_size, .inl (dC 100, 512, .inl f_size)), (a_nextLikely, .inl (dC 100, 512, .inl f_nextLikely)), (h0, .inr (1, [.ref a_cell, .ref a_behind, .ref a_size, .ref a_nextLikely, .ref a_firstLikely, .int (nI k)])), (a_firstLikely, .inl (dC 100, 512, .inl f_firstLikely))] := hD
  refine lv_aload_n hx hb dM_Ch_add_27 rfl (lv_at hl 2 rfl) ?_
  refine va_get (D := (dC, dI)) (ci := 1) (v := .ref a_size) (C := rC_Ch) (T := fC_Ch) (N := 6) hx hb hbg iC_Ch hown hK.1 hP 4 rfl rfl 2 (by decide) (hbg _ wd_228) (fun _ h9 => h9) rfl dM_Ch_add_28 ?_
  refine lv_iload_n hx hb dM_Ch_add_31 rfl (lv_at hl 1 rfl) ?_
  refine lv_aload_n hx hb dM_Ch_add_32 rfl (lv_at hl 2 rfl) ?_
  refine va_get (D := (dC, dI)) (ci := 1) (v := .ref a_size) (C := rC_Ch) (T := fC_Ch) (N := 6) hx hb hbg iC_Ch hown hK.1 hP 4 rfl rfl 2 (by decide) (hbg _ wd_228) (fun _ h9 => h9) rfl dM_Ch_add_33 ?_
  refine lv_iload_n hx hb dM_Ch_add_36 rfl (lv_at hl 4 rfl) ?_
  refine va_iald hx hb hK.1 hP 2 0 rfl rfl (by unfold vp_in; decide) dM_Ch_add_37 ?_
  refine lv_iconst (v := 1) hx hb dM_Ch_add_38 (by decide) ?_
  refine lv_iadd hx hb dM_Ch_add_39 ?_
  refine lv_topi (fun y_3 ey_3 => ?_)
  refine va_iast hx hb hK.1 hP hD hS 2 0 rfl rfl (n_in hk (by decide)) dM_Ch_add_40 (fun H locs hP hD hS => ?_)
  have hP : va_P (dC, dI) classes [(a_cell, .inl (dC 100, 512, .inl (upd f_cell (nI k).toNatClampNeg p0))), (a_behind, .inl (dC 100, 512, .inl (upd f_behind (nI k).toNatClampNeg 0))), (a_size, .inl (dC 100, 512, .inl (upd f_size (nI k).toNatClampNeg y_3))), (a_nextLikely, .inl (dC 100, 512, .inl f_nextLikely)), (h0, .inr (1, [.ref a_cell, .ref a_behind, .ref a_size, .ref a_nextLikely, .ref a_firstLikely, .int (nI k)])), (a_firstLikely, .inl (dC 100, 512, .inl f_firstLikely))] H := hP
  have hD : va_D A [(a_cell, .inl (dC 100, 512, .inl (upd f_cell (nI k).toNatClampNeg p0))), (a_behind, .inl (dC 100, 512, .inl (upd f_behind (nI k).toNatClampNeg 0))), (a_size, .inl (dC 100, 512, .inl (upd f_size (nI k).toNatClampNeg y_3))), (a_nextLikely, .inl (dC 100, 512, .inl f_nextLikely)), (h0, .inr (1, [.ref a_cell, .ref a_behind, .ref a_size, .ref a_nextLikely, .ref a_firstLikely, .int (nI k)])), (a_firstLikely, .inl (dC 100, 512, .inl f_firstLikely))] := hD
  refine lv_aload_n hx hb dM_Ch_add_41 rfl (lv_at hl 2 rfl) ?_
  refine va_get (D := (dC, dI)) (ci := 1) (v := .ref a_nextLikely) (C := rC_Ch) (T := fC_Ch) (N := 6) hx hb hbg iC_Ch hown hK.1 hP 4 rfl rfl 3 (by decide) (hbg _ wd_229) (fun _ h9 => h9) rfl dM_Ch_add_42 ?_
  refine lv_iload_n hx hb dM_Ch_add_45 rfl (lv_at hl 1 rfl) ?_
  refine lv_aload_n hx hb dM_Ch_add_46 rfl (lv_at hl 2 rfl) ?_
  refine va_get (D := (dC, dI)) (ci := 1) (v := .ref a_firstLikely) (C := rC_Ch) (T := fC_Ch) (N := 6) hx hb hbg iC_Ch hown hK.1 hP 4 rfl rfl 4 (by decide) (hbg _ wd_230) (fun _ h9 => h9) rfl dM_Ch_add_47 ?_
  refine lv_iload hx hb dM_Ch_add_50 (lv_at hl 0 rfl) ?_
  refine va_iald hx hb hK.1 hP 5 0 rfl rfl c_2 dM_Ch_add_52 ?_
  refine va_iast hx hb hK.1 hP hD hS 3 0 rfl rfl (n_in hk (by decide)) dM_Ch_add_53 (fun H locs hP hD hS => ?_)
  have hP : va_P (dC, dI) classes [(a_cell, .inl (dC 100, 512, .inl (upd f_cell (nI k).toNatClampNeg p0))), (a_behind, .inl (dC 100, 512, .inl (upd f_behind (nI k).toNatClampNeg 0))), (a_size, .inl (dC 100, 512, .inl (upd f_size (nI k).toNatClampNeg y_3))), (a_nextLikely, .inl (dC 100, 512, .inl (upd f_nextLikely (nI k).toNatClampNeg (f_firstLikely r_1.toNatClampNeg)))), (h0, .inr (1, [.ref a_cell, .ref a_behind, .ref a_size, .ref a_nextLikely, .ref a_firstLikely, .int (nI k)])), (a_firstLikely, .inl (dC 100, 512, .inl f_firstLikely))] H := hP
  have hD : va_D A [(a_cell, .inl (dC 100, 512, .inl (upd f_cell (nI k).toNatClampNeg p0))), (a_behind, .inl (dC 100, 512, .inl (upd f_behind (nI k).toNatClampNeg 0))), (a_size, .inl (dC 100, 512, .inl (upd f_size (nI k).toNatClampNeg y_3))), (a_nextLikely, .inl (dC 100, 512, .inl (upd f_nextLikely (nI k).toNatClampNeg (f_firstLikely r_1.toNatClampNeg)))), (h0, .inr (1, [.ref a_cell, .ref a_behind, .ref a_size, .ref a_nextLikely, .ref a_firstLikely, .int (nI k)])), (a_firstLikely, .inl (dC 100, 512, .inl f_firstLikely))] := hD
  refine lv_aload_n hx hb dM_Ch_add_54 rfl (lv_at hl 2 rfl) ?_
  refine va_get (D := (dC, dI)) (ci := 1) (v := .ref a_firstLikely) (C := rC_Ch) (T := fC_Ch) (N := 6) hx hb hbg iC_Ch hown hK.1 hP 4 rfl rfl 4 (by decide) (hbg _ wd_230) (fun _ h9 => h9) rfl dM_Ch_add_55 ?_
  refine lv_iload hx hb dM_Ch_add_58 (lv_at hl 0 rfl) ?_
  refine lv_iload_n hx hb dM_Ch_add_60 rfl (lv_at hl 1 rfl) ?_
  refine va_iast hx hb hK.1 hP hD hS 5 0 rfl rfl c_2 dM_Ch_add_61 (fun H locs hP hD hS => ?_)
  have hP : va_P (dC, dI) classes [(a_cell, .inl (dC 100, 512, .inl (upd f_cell (nI k).toNatClampNeg p0))), (a_behind, .inl (dC 100, 512, .inl (upd f_behind (nI k).toNatClampNeg 0))), (a_size, .inl (dC 100, 512, .inl (upd f_size (nI k).toNatClampNeg y_3))), (a_nextLikely, .inl (dC 100, 512, .inl (upd f_nextLikely (nI k).toNatClampNeg (f_firstLikely r_1.toNatClampNeg)))), (h0, .inr (1, [.ref a_cell, .ref a_behind, .ref a_size, .ref a_nextLikely, .ref a_firstLikely, .int (nI k)])), (a_firstLikely, .inl (dC 100, 512, .inl (upd f_firstLikely r_1.toNatClampNeg (nI k))))] H := hP
  have hD : va_D A [(a_cell, .inl (dC 100, 512, .inl (upd f_cell (nI k).toNatClampNeg p0))), (a_behind, .inl (dC 100, 512, .inl (upd f_behind (nI k).toNatClampNeg 0))), (a_size, .inl (dC 100, 512, .inl (upd f_size (nI k).toNatClampNeg y_3))), (a_nextLikely, .inl (dC 100, 512, .inl (upd f_nextLikely (nI k).toNatClampNeg (f_firstLikely r_1.toNatClampNeg)))), (h0, .inr (1, [.ref a_cell, .ref a_behind, .ref a_size, .ref a_nextLikely, .ref a_firstLikely, .int (nI k)])), (a_firstLikely, .inl (dC 100, 512, .inl (upd f_firstLikely r_1.toNatClampNeg (nI k))))] := hD
  refine lv_aload_n hx hb dM_Ch_add_62 rfl (lv_at hl 2 rfl) ?_
  refine lv_dup hx hb dM_Ch_add_63 rfl ?_
  refine va_get (D := (dC, dI)) (ci := 1) (v := .int (nI k)) (C := rC_Ch) (T := fC_Ch) (N := 6) hx hb hbg iC_Ch hown hK.1 hP 4 rfl rfl 5 (by decide) (hbg _ wd_231) (fun _ h9 => h9) rfl dM_Ch_add_64 ?_
  refine lv_iconst (v := 1) hx hb dM_Ch_add_67 (by decide) ?_
  refine lv_iadd hx hb dM_Ch_add_68 ?_
  refine lv_topi (fun y_4 ey_4 => ?_)
  obtain rfl : y_4 = nI (k + 1) := ey_4.trans (nI_1 _)
  refine va_put (D := (dC, dI)) (ci := 1) (v := .int (nI (k + 1))) (ty := .int) (C := rC_Ch) (T := fC_Ch) (N := 6) hx hb hbg iC_Ch tC_Ch oC_Ch nC_Ch hown hK.1 hP hD hS 4 rfl rfl 5 (by decide) (hbg _ wd_231) (fun _ h9 => h9) rfl (by decide +kernel) rfl rfl (Nat.le_of_ble_eq_true rfl) dM_Ch_add_69 (fun H locs hP hD hS => ?_)
  have hP : va_P (dC, dI) classes [(a_cell, .inl (dC 100, 512, .inl (upd f_cell (nI k).toNatClampNeg p0))), (a_behind, .inl (dC 100, 512, .inl (upd f_behind (nI k).toNatClampNeg 0))), (a_size, .inl (dC 100, 512, .inl (upd f_size (nI k).toNatClampNeg y_3))), (a_nextLikely, .inl (dC 100, 512, .inl (upd f_nextLikely (nI k).toNatClampNeg (f_firstLikely r_1.toNatClampNeg)))), (h0, .inr (1, [.ref a_cell, .ref a_behind, .ref a_size, .ref a_nextLikely, .ref a_firstLikely, .int (nI (k + 1))])), (a_firstLikely, .inl (dC 100, 512, .inl (upd f_firstLikely r_1.toNatClampNeg (nI k))))] H := hP
  have hD : va_D A [(a_cell, .inl (dC 100, 512, .inl (upd f_cell (nI k).toNatClampNeg p0))), (a_behind, .inl (dC 100, 512, .inl (upd f_behind (nI k).toNatClampNeg 0))), (a_size, .inl (dC 100, 512, .inl (upd f_size (nI k).toNatClampNeg y_3))), (a_nextLikely, .inl (dC 100, 512, .inl (upd f_nextLikely (nI k).toNatClampNeg (f_firstLikely r_1.toNatClampNeg)))), (h0, .inr (1, [.ref a_cell, .ref a_behind, .ref a_size, .ref a_nextLikely, .ref a_firstLikely, .int (nI (k + 1))])), (a_firstLikely, .inl (dC 100, 512, .inl (upd f_firstLikely r_1.toNatClampNeg (nI k))))] := hD
  refine lv_iload_n hx hb dM_Ch_add_72 rfl (lv_at hl 1 rfl) ?_
  have hP9 := hP.pick (wc := [(h0, .inr (1, [.ref a_cell, .ref a_behind, .ref a_size, .ref a_nextLikely, .ref a_firstLikely, .int (nI (k + 1))])), (a_cell, .inl (dC 100, 512, .inl (upd f_cell (nI k).toNatClampNeg p0))), (a_behind, .inl (dC 100, 512, .inl (upd f_behind (nI k).toNatClampNeg 0))), (a_size, .inl (dC 100, 512, .inl (upd f_size (nI k).toNatClampNeg y_3))), (a_nextLikely, .inl (dC 100, 512, .inl (upd f_nextLikely (nI k).toNatClampNeg (f_firstLikely r_1.toNatClampNeg)))), (a_firstLikely, .inl (dC 100, 512, .inl (upd f_firstLikely r_1.toNatClampNeg (nI k))))]) [4, 0, 1, 2, 3, 5] rfl
  have hD9 := hD.sub (ws' := [(h0, .inr (1, [.ref a_cell, .ref a_behind, .ref a_size, .ref a_nextLikely, .ref a_firstLikely, .int (nI (k + 1))])), (a_cell, .inl (dC 100, 512, .inl (upd f_cell (nI k).toNatClampNeg p0))), (a_behind, .inl (dC 100, 512, .inl (upd f_behind (nI k).toNatClampNeg 0))), (a_size, .inl (dC 100, 512, .inl (upd f_size (nI k).toNatClampNeg y_3))), (a_nextLikely, .inl (dC 100, 512, .inl (upd f_nextLikely (nI k).toNatClampNeg (f_firstLikely r_1.toNatClampNeg)))), (a_firstLikely, .inl (dC 100, 512, .inl (upd f_firstLikely r_1.toNatClampNeg (nI k))))]) [4, 0, 1, 2, 3, 5] (by decide) rfl
  exact W.iret (v := nI k) hx hb hr (fun t ht hW => ⟨⟨nI k, (), rfl, trivial, ⟨(upd f_cell (nI k).toNatClampNeg p0), (upd f_behind (nI k).toNatClampNeg 0), (upd f_size (nI k).toNatClampNeg y_3), (upd f_nextLikely (nI k).toNatClampNeg (f_firstLikely r_1.toNatClampNeg)), (upd f_firstLikely r_1.toNatClampNeg (nI k)), (by rw [ht]; exact hP9), hD9⟩⟩, hS.F ht⟩) hS.2.2 dM_Ch_add_73
set_option maxHeartbeats 4000000 in
set_option maxRecDepth 100000 in
theorem c_Ch_init (l : Launch) (dC : Nat → ClassId) (dI : Nat → Nat → Nat) (h0 : Nat) (sz : Nat) : Met l yM_Ch_init (wm yM_Ch_init cM_Ch_init 2 none) ({ frames := 60, cells := 5, slots := 2560, locals := 1200 }) (nPc [.ref h0] (dC, dI) [(h0, .inr (1, [.null, .null, .null, .null, .null, .int 0]))] sz) (va_Qv (fun (_ : Unit) => True) (fun (_ : Unit) t => ∃ (a_cell : Nat), ∃ (a_behind : Nat), ∃ (a_size : Nat), ∃ (a_nextLikely : Nat), ∃ (a_firstLikely : Nat), ∃ (g_cell : Nat → Int32), ∃ (g_behind : Nat → Int32), ∃ (g_size : Nat → Int32), ∃ (g_nextLikely : Nat → Int32), ∃ (g_firstLikely : Nat → Int32), nB (dC, dI) (va_A [(h0, .inr (1, [.null, .null, .null, .null, .null, .int 0]))] sz) [(h0, .inr (1, [.ref a_cell, .ref a_behind, .ref a_size, .ref a_nextLikely, .ref a_firstLikely, .int (nI (200 + 1))])), (a_cell, .inl (dC 100, 512, .inl g_cell)), (a_behind, .inl (dC 100, 512, .inl g_behind)), (a_size, .inl (dC 100, 512, .inl g_size)), (a_nextLikely, .inl (dC 100, 512, .inl g_nextLikely)), (a_firstLikely, .inl (dC 100, 512, .inl g_firstLikely))] t) (va_A [(h0, .inr (1, [.null, .null, .null, .null, .null, .int 0]))] sz)) 5 2560 (va_A [(h0, .inr (1, [.null, .null, .null, .null, .null, .int 0]))] sz) := by
  refine Met.ofW (cc := cM_Ch_init) (maxL := 2) (ret := none) (by decide) rfl ?_
  intro p e s m args below meth c s₁ B hml hv
  obtain ⟨rfl, hsz, hP, hD0, hK, hN⟩ := hv
  have hx := B.exec
  have hb := B.bytes
  have hr := B.returns
  have hbg : ∀ w ∈ BIG, w.before ([.ref h0] : List Value).toArray s = true := fun w h => atoms_spec (ws := (wm yM_Ch_init cM_Ch_init 2 none)) B.pre w (List.mem_cons_of_mem _ h)
  have hown : s.vm.findClass "NoteDocument$Chains" = some m.cls := findClass_of_methodNamed B.named
  have hlocks := B.notSynchronized
  have hin : meth.name = "<init>" := (name_of_methodNamed B.named B.method).1
  subst hsz
  have hD := hD0.self (sz := s.heap.size)
  generalize hAe : va_A [(h0, .inr (1, [.null, .null, .null, .null, .null, .int 0]))] s.heap.size = A at hD hN ⊢
  have hA : ∀ q : Nat, s.heap.size ≤ q → A q := fun q h => by rw [← hAe]; exact Or.inr h
  have hS : va_S A s.heap s.heap [] := va_S.rf
  have hP : va_P (dC, dI) classes [(h0, .inr (1, [.null, .null, .null, .null, .null, .int 0]))] s.heap := hP
  have hl := lv_entry ([.ref h0] : List Value) (n := 2) (Nat.le_of_ble_eq_true rfl)
  rw [lg_entry_eq]
  generalize (lg_sl ([.ref h0] : List Value) ++ List.replicate (2 - (lg_sl ([.ref h0] : List Value)).length) Slot.unset).toArray = ls at hl ⊢
  have hl : lv_has ls 2 [(0, .ref h0)] := hl
  refine lv_aload_n hx hb dM_Ch_init_0 rfl (lv_at hl 0 rfl) ?_
  refine W.objInit hx hb hown (hbg _ wd_216) (hbg _ wd_43) (hbg _ wd_44) rfl (by rw [hml]; exact hl.1) rfl dM_Ch_init_1 (Nat.le_of_ble_eq_true rfl) (Nat.le_of_ble_eq_true rfl) ?_
  refine W.eq (g2 := F0 m 4 ls []) rfl ?_
  refine lv_aload_n hx hb dM_Ch_init_4 rfl (lv_at hl 0 rfl) ?_
  refine lv_sipush (v := 512) hx hb dM_Ch_init_5 (by decide) ?_
  refine n_newa (atype := .int) (N' := 512) (a0 := (512, .inl (fun _ => 0))) (ty := .int) (n := 512) hx hb (hbg _ wd_169) rfl hK.1 hP hD hS hA 0 rfl (fun _ => rfl) (by decide) (by decide) (Nat.le_of_ble_eq_true rfl) (Nat.le_of_ble_eq_true rfl) (Nat.le_of_ble_eq_true rfl) dM_Ch_init_8 (fun q_1 H hP hD hS => ?_)
  have hP : va_P (dC, dI) classes [(h0, .inr (1, [.null, .null, .null, .null, .null, .int 0])), (q_1, .inl (dC 100, 512, .inl (fun _ => 0)))] H := hP
  have hD : va_D A [(h0, .inr (1, [.null, .null, .null, .null, .null, .int 0])), (q_1, .inl (dC 100, 512, .inl (fun _ => 0)))] := hD
  refine W.widen (k := 1) (n := 512) (Nat.le_of_ble_eq_true rfl) (Nat.le_of_ble_eq_true rfl) ?_
  refine va_put (D := (dC, dI)) (ci := 1) (v := .ref q_1) (ty := .array .int) (C := rC_Ch) (T := fC_Ch) (N := 6) hx hb hbg iC_Ch tC_Ch oC_Ch nC_Ch hown hK.1 hP hD hS 0 rfl rfl 0 (by decide) (hbg _ wd_226) (fun _ h9 => h9) rfl (by decide +kernel) rfl rfl (Nat.le_of_ble_eq_true rfl) dM_Ch_init_10 (fun H locs hP hD hS => ?_)
  have hP : va_P (dC, dI) classes [(h0, .inr (1, [.ref q_1, .null, .null, .null, .null, .int 0])), (q_1, .inl (dC 100, 512, .inl (fun _ => 0)))] H := hP
  have hD : va_D A [(h0, .inr (1, [.ref q_1, .null, .null, .null, .null, .int 0])), (q_1, .inl (dC 100, 512, .inl (fun _ => 0)))] := hD
  refine lv_aload_n hx hb dM_Ch_init_13 rfl (lv_at hl 0 rfl) ?_
  refine lv_sipush (v := 512) hx hb dM_Ch_init_14 (by decide) ?_
  refine n_newa (atype := .int) (N' := 512) (a0 := (512, .inl (fun _ => 0))) (ty := .int) (n := 512) hx hb (hbg _ wd_169) rfl hK.1 hP hD hS hA 0 rfl (fun _ => rfl) (by decide) (by decide) (Nat.le_of_ble_eq_true rfl) (Nat.le_of_ble_eq_true rfl) (Nat.le_of_ble_eq_true rfl) dM_Ch_init_17 (fun q_2 H hP hD hS => ?_)
  have hP : va_P (dC, dI) classes [(h0, .inr (1, [.ref q_1, .null, .null, .null, .null, .int 0])), (q_1, .inl (dC 100, 512, .inl (fun _ => 0))), (q_2, .inl (dC 100, 512, .inl (fun _ => 0)))] H := hP
  have hD : va_D A [(h0, .inr (1, [.ref q_1, .null, .null, .null, .null, .int 0])), (q_1, .inl (dC 100, 512, .inl (fun _ => 0))), (q_2, .inl (dC 100, 512, .inl (fun _ => 0)))] := hD
  refine W.widen (k := 2) (n := 1024) (Nat.le_of_ble_eq_true rfl) (Nat.le_of_ble_eq_true rfl) ?_
  refine va_put (D := (dC, dI)) (ci := 1) (v := .ref q_2) (ty := .array .int) (C := rC_Ch) (T := fC_Ch) (N := 6) hx hb hbg iC_Ch tC_Ch oC_Ch nC_Ch hown hK.1 hP hD hS 0 rfl rfl 1 (by decide) (hbg _ wd_227) (fun _ h9 => h9) rfl (by decide +kernel) rfl rfl (Nat.le_of_ble_eq_true rfl) dM_Ch_init_19 (fun H locs hP hD hS => ?_)
  have hP : va_P (dC, dI) classes [(h0, .inr (1, [.ref q_1, .ref q_2, .null, .null, .null, .int 0])), (q_1, .inl (dC 100, 512, .inl (fun _ => 0))), (q_2, .inl (dC 100, 512, .inl (fun _ => 0)))] H := hP
  have hD : va_D A [(h0, .inr (1, [.ref q_1, .ref q_2, .null, .null, .null, .int 0])), (q_1, .inl (dC 100, 512, .inl (fun _ => 0))), (q_2, .inl (dC 100, 512, .inl (fun _ => 0)))] := hD
  refine lv_aload_n hx hb dM_Ch_init_22 rfl (lv_at hl 0 rfl) ?_
  refine lv_sipush (v := 512) hx hb dM_Ch_init_23 (by decide) ?_
  refine n_newa (atype := .int) (N' := 512) (a0 := (512, .inl (fun _ => 0))) (ty := .int) (n := 512) hx hb (hbg _ wd_169) rfl hK.1 hP hD hS hA 0 rfl (fun _ => rfl) (by decide) (by decide) (Nat.le_of_ble_eq_true rfl) (Nat.le_of_ble_eq_true rfl) (Nat.le_of_ble_eq_true rfl) dM_Ch_init_26 (fun q_3 H hP hD hS => ?_)
  have hP : va_P (dC, dI) classes [(h0, .inr (1, [.ref q_1, .ref q_2, .null, .null, .null, .int 0])), (q_1, .inl (dC 100, 512, .inl (fun _ => 0))), (q_2, .inl (dC 100, 512, .inl (fun _ => 0))), (q_3, .inl (dC 100, 512, .inl (fun _ => 0)))] H := hP
  have hD : va_D A [(h0, .inr (1, [.ref q_1, .ref q_2, .null, .null, .null, .int 0])), (q_1, .inl (dC 100, 512, .inl (fun _ => 0))), (q_2, .inl (dC 100, 512, .inl (fun _ => 0))), (q_3, .inl (dC 100, 512, .inl (fun _ => 0)))] := hD
  refine W.widen (k := 3) (n := 1536) (Nat.le_of_ble_eq_true rfl) (Nat.le_of_ble_eq_true rfl) ?_
  refine va_put (D := (dC, dI)) (ci := 1) (v := .ref q_3) (ty := .array .int) (C := rC_Ch) (T := fC_Ch) (N := 6) hx hb hbg iC_Ch tC_Ch oC_Ch nC_Ch hown hK.1 hP hD hS 0 rfl rfl 2 (by decide) (hbg _ wd_228) (fun _ h9 => h9) rfl (by decide +kernel) rfl rfl (Nat.le_of_ble_eq_true rfl) dM_Ch_init_28 (fun H locs hP hD hS => ?_)
  have hP : va_P (dC, dI) classes [(h0, .inr (1, [.ref q_1, .ref q_2, .ref q_3, .null, .null, .int 0])), (q_1, .inl (dC 100, 512, .inl (fun _ => 0))), (q_2, .inl (dC 100, 512, .inl (fun _ => 0))), (q_3, .inl (dC 100, 512, .inl (fun _ => 0)))] H := hP
  have hD : va_D A [(h0, .inr (1, [.ref q_1, .ref q_2, .ref q_3, .null, .null, .int 0])), (q_1, .inl (dC 100, 512, .inl (fun _ => 0))), (q_2, .inl (dC 100, 512, .inl (fun _ => 0))), (q_3, .inl (dC 100, 512, .inl (fun _ => 0)))] := hD
  refine lv_aload_n hx hb dM_Ch_init_31 rfl (lv_at hl 0 rfl) ?_
  refine lv_sipush (v := 512) hx hb dM_Ch_init_32 (by decide) ?_
  refine n_newa (atype := .int) (N' := 512) (a0 := (512, .inl (fun _ => 0))) (ty := .int) (n := 512) hx hb (hbg _ wd_169) rfl hK.1 hP hD hS hA 0 rfl (fun _ => rfl) (by decide) (by decide) (Nat.le_of_ble_eq_true rfl) (Nat.le_of_ble_eq_true rfl) (Nat.le_of_ble_eq_true rfl) dM_Ch_init_35 (fun q_4 H hP hD hS => ?_)
  have hP : va_P (dC, dI) classes [(h0, .inr (1, [.ref q_1, .ref q_2, .ref q_3, .null, .null, .int 0])), (q_1, .inl (dC 100, 512, .inl (fun _ => 0))), (q_2, .inl (dC 100, 512, .inl (fun _ => 0))), (q_3, .inl (dC 100, 512, .inl (fun _ => 0))), (q_4, .inl (dC 100, 512, .inl (fun _ => 0)))] H := hP
  have hD : va_D A [(h0, .inr (1, [.ref q_1, .ref q_2, .ref q_3, .null, .null, .int 0])), (q_1, .inl (dC 100, 512, .inl (fun _ => 0))), (q_2, .inl (dC 100, 512, .inl (fun _ => 0))), (q_3, .inl (dC 100, 512, .inl (fun _ => 0))), (q_4, .inl (dC 100, 512, .inl (fun _ => 0)))] := hD
  refine W.widen (k := 4) (n := 2048) (Nat.le_of_ble_eq_true rfl) (Nat.le_of_ble_eq_true rfl) ?_
  refine va_put (D := (dC, dI)) (ci := 1) (v := .ref q_4) (ty := .array .int) (C := rC_Ch) (T := fC_Ch) (N := 6) hx hb hbg iC_Ch tC_Ch oC_Ch nC_Ch hown hK.1 hP hD hS 0 rfl rfl 3 (by decide) (hbg _ wd_229) (fun _ h9 => h9) rfl (by decide +kernel) rfl rfl (Nat.le_of_ble_eq_true rfl) dM_Ch_init_37 (fun H locs hP hD hS => ?_)
  have hP : va_P (dC, dI) classes [(h0, .inr (1, [.ref q_1, .ref q_2, .ref q_3, .ref q_4, .null, .int 0])), (q_1, .inl (dC 100, 512, .inl (fun _ => 0))), (q_2, .inl (dC 100, 512, .inl (fun _ => 0))), (q_3, .inl (dC 100, 512, .inl (fun _ => 0))), (q_4, .inl (dC 100, 512, .inl (fun _ => 0)))] H := hP
  have hD : va_D A [(h0, .inr (1, [.ref q_1, .ref q_2, .ref q_3, .ref q_4, .null, .int 0])), (q_1, .inl (dC 100, 512, .inl (fun _ => 0))), (q_2, .inl (dC 100, 512, .inl (fun _ => 0))), (q_3, .inl (dC 100, 512, .inl (fun _ => 0))), (q_4, .inl (dC 100, 512, .inl (fun _ => 0)))] := hD
  refine lv_aload_n hx hb dM_Ch_init_40 rfl (lv_at hl 0 rfl) ?_
  refine lv_sipush (v := 512) hx hb dM_Ch_init_41 (by decide) ?_
  refine n_newa (atype := .int) (N' := 512) (a0 := (512, .inl (fun _ => 0))) (ty := .int) (n := 512) hx hb (hbg _ wd_169) rfl hK.1 hP hD hS hA 0 rfl (fun _ => rfl) (by decide) (by decide) (Nat.le_of_ble_eq_true rfl) (Nat.le_of_ble_eq_true rfl) (Nat.le_of_ble_eq_true rfl) dM_Ch_init_44 (fun q_5 H hP hD hS => ?_)
  have hP : va_P (dC, dI) classes [(h0, .inr (1, [.ref q_1, .ref q_2, .ref q_3, .ref q_4, .null, .int 0])), (q_1, .inl (dC 100, 512, .inl (fun _ => 0))), (q_2, .inl (dC 100, 512, .inl (fun _ => 0))), (q_3, .inl (dC 100, 512, .inl (fun _ => 0))), (q_4, .inl (dC 100, 512, .inl (fun _ => 0))), (q_5, .inl (dC 100, 512, .inl (fun _ => 0)))] H := hP
  have hD : va_D A [(h0, .inr (1, [.ref q_1, .ref q_2, .ref q_3, .ref q_4, .null, .int 0])), (q_1, .inl (dC 100, 512, .inl (fun _ => 0))), (q_2, .inl (dC 100, 512, .inl (fun _ => 0))), (q_3, .inl (dC 100, 512, .inl (fun _ => 0))), (q_4, .inl (dC 100, 512, .inl (fun _ => 0))), (q_5, .inl (dC 100, 512, .inl (fun _ => 0)))] := hD
  refine W.widen (k := 5) (n := 2560) (Nat.le_of_ble_eq_true rfl) (Nat.le_of_ble_eq_true rfl) ?_
  refine va_put (D := (dC, dI)) (ci := 1) (v := .ref q_5) (ty := .array .int) (C := rC_Ch) (T := fC_Ch) (N := 6) hx hb hbg iC_Ch tC_Ch oC_Ch nC_Ch hown hK.1 hP hD hS 0 rfl rfl 4 (by decide) (hbg _ wd_230) (fun _ h9 => h9) rfl (by decide +kernel) rfl rfl (Nat.le_of_ble_eq_true rfl) dM_Ch_init_46 (fun H locs hP hD hS => ?_)
  have hP : va_P (dC, dI) classes [(h0, .inr (1, [.ref q_1, .ref q_2, .ref q_3, .ref q_4, .ref q_5, .int 0])), (q_1, .inl (dC 100, 512, .inl (fun _ => 0))), (q_2, .inl (dC 100, 512, .inl (fun _ => 0))), (q_3, .inl (dC 100, 512, .inl (fun _ => 0))), (q_4, .inl (dC 100, 512, .inl (fun _ => 0))), (q_5, .inl (dC 100, 512, .inl (fun _ => 0)))] H := hP
  have hD : va_D A [(h0, .inr (1, [.ref q_1, .ref q_2, .ref q_3, .ref q_4, .ref q_5, .int 0])), (q_1, .inl (dC 100, 512, .inl (fun _ => 0))), (q_2, .inl (dC 100, 512, .inl (fun _ => 0))), (q_3, .inl (dC 100, 512, .inl (fun _ => 0))), (q_4, .inl (dC 100, 512, .inl (fun _ => 0))), (q_5, .inl (dC 100, 512, .inl (fun _ => 0)))] := hD
  refine lv_aload_n hx hb dM_Ch_init_49 rfl (lv_at hl 0 rfl) ?_
  refine lv_iconst (v := 1) hx hb dM_Ch_init_50 (by decide) ?_
  refine va_put (D := (dC, dI)) (ci := 1) (v := .int 1) (ty := .int) (C := rC_Ch) (T := fC_Ch) (N := 6) hx hb hbg iC_Ch tC_Ch oC_Ch nC_Ch hown hK.1 hP hD hS 0 rfl rfl 5 (by decide) (hbg _ wd_231) (fun _ h9 => h9) rfl (by decide +kernel) rfl rfl (Nat.le_of_ble_eq_true rfl) dM_Ch_init_51 (fun H locs hP hD hS => ?_)
  have hP : va_P (dC, dI) classes [(h0, .inr (1, [.ref q_1, .ref q_2, .ref q_3, .ref q_4, .ref q_5, .int 1])), (q_1, .inl (dC 100, 512, .inl (fun _ => 0))), (q_2, .inl (dC 100, 512, .inl (fun _ => 0))), (q_3, .inl (dC 100, 512, .inl (fun _ => 0))), (q_4, .inl (dC 100, 512, .inl (fun _ => 0))), (q_5, .inl (dC 100, 512, .inl (fun _ => 0)))] H := hP
  have hD : va_D A [(h0, .inr (1, [.ref q_1, .ref q_2, .ref q_3, .ref q_4, .ref q_5, .int 1])), (q_1, .inl (dC 100, 512, .inl (fun _ => 0))), (q_2, .inl (dC 100, 512, .inl (fun _ => 0))), (q_3, .inl (dC 100, 512, .inl (fun _ => 0))), (q_4, .inl (dC 100, 512, .inl (fun _ => 0))), (q_5, .inl (dC 100, 512, .inl (fun _ => 0)))] := hD
  refine lv_aload_n hx hb dM_Ch_init_54 rfl (lv_at hl 0 rfl) ?_
  refine va_get (D := (dC, dI)) (ci := 1) (v := .ref q_1) (C := rC_Ch) (T := fC_Ch) (N := 6) hx hb hbg iC_Ch hown hK.1 hP 0 rfl rfl 0 (by decide) (hbg _ wd_226) (fun _ h9 => h9) rfl dM_Ch_init_55 ?_
  refine lv_iconst (v := 0) hx hb dM_Ch_init_58 (by decide) ?_
  refine lv_iconst (v := (-1)) hx hb dM_Ch_init_59 (by decide) ?_
  refine va_iast hx hb hK.1 hP hD hS 1 0 rfl rfl (by unfold vp_in; decide) dM_Ch_init_60 (fun H locs hP hD hS => ?_)
  have hP : va_P (dC, dI) classes [(h0, .inr (1, [.ref q_1, .ref q_2, .ref q_3, .ref q_4, .ref q_5, .int 1])), (q_1, .inl (dC 100, 512, .inl (upd (fun _ => 0) (0 : Int32).toNatClampNeg (-1)))), (q_2, .inl (dC 100, 512, .inl (fun _ => 0))), (q_3, .inl (dC 100, 512, .inl (fun _ => 0))), (q_4, .inl (dC 100, 512, .inl (fun _ => 0))), (q_5, .inl (dC 100, 512, .inl (fun _ => 0)))] H := hP
  have hD : va_D A [(h0, .inr (1, [.ref q_1, .ref q_2, .ref q_3, .ref q_4, .ref q_5, .int 1])), (q_1, .inl (dC 100, 512, .inl (upd (fun _ => 0) (0 : Int32).toNatClampNeg (-1)))), (q_2, .inl (dC 100, 512, .inl (fun _ => 0))), (q_3, .inl (dC 100, 512, .inl (fun _ => 0))), (q_4, .inl (dC 100, 512, .inl (fun _ => 0))), (q_5, .inl (dC 100, 512, .inl (fun _ => 0)))] := hD
  refine lv_iconst (v := 0) hx hb dM_Ch_init_61 (by decide) ?_
  refine lv_istore_n (lv' := [(1, .int 0), (0, .ref h0)]) hx hb dM_Ch_init_62 rfl hl (by decide) rfl (fun ls hl => ?_)
  have lp_6 : ∀ (n i : Nat) (g_cell : Nat → Int32) (g_behind : Nat → Int32) (g_size : Nat → Int32) (g_nextLikely : Nat → Int32) (g_firstLikely : Nat → Int32), i ≤ 200 → 200 + 1 ≤ i + n → ∀ (H : Heap) (locs : List Loc) (ls : Array Slot), va_P (dC, dI) classes [(h0, .inr (1, [.ref q_1, .ref q_2, .ref q_3, .ref q_4, .ref q_5, .int (nI (i + 1))])), (q_1, .inl (dC 100, 512, .inl g_cell)), (q_2, .inl (dC 100, 512, .inl g_behind)), (q_3, .inl (dC 100, 512, .inl g_size)), (q_4, .inl (dC 100, 512, .inl g_nextLikely)), (q_5, .inl (dC 100, 512, .inl g_firstLikely))] H → va_D A [(h0, .inr (1, [.ref q_1, .ref q_2, .ref q_3, .ref q_4, .ref q_5, .int (nI (i + 1))])), (q_1, .inl (dC 100, 512, .inl g_cell)), (q_2, .inl (dC 100, 512, .inl g_behind)), (q_3, .inl (dC 100, 512, .inl g_size)), (q_4, .inl (dC 100, 512, .inl g_nextLikely)), (q_5, .inl (dC 100, 512, .inl g_firstLikely))] → va_S A s.heap H locs → lv_has ls 2 [(1, .int (nI i)), (0, .ref h0)] → W p l e (headSpec (wm yM_Ch_init cM_Ch_init 2 none) ({ frames := 60, cells := 5, slots := 2560, locals := 1200 } : Room)).room s m (([.ref h0] : List Value).toArray) below meth c H locs 5 2560 (MQ below (va_Qv (fun (_ : Unit) => True) (fun (_ : Unit) t => ∃ (a_cell : Nat), ∃ (a_behind : Nat), ∃ (a_size : Nat), ∃ (a_nextLikely : Nat), ∃ (a_firstLikely : Nat), ∃ (g_cell : Nat → Int32), ∃ (g_behind : Nat → Int32), ∃ (g_size : Nat → Int32), ∃ (g_nextLikely : Nat → Int32), ∃ (g_firstLikely : Nat → Int32), nB (dC, dI) A [(h0, .inr (1, [.ref a_cell, .ref a_behind, .ref a_size, .ref a_nextLikely, .ref a_firstLikely, .int (nI (200 + 1))])), (a_cell, .inl (dC 100, 512, .inl g_cell)), (a_behind, .inl (dC 100, 512, .inl g_behind)), (a_size, .inl (dC 100, 512, .inl g_size)), (a_nextLikely, .inl (dC 100, 512, .inl g_nextLikely)), (a_firstLikely, .inl (dC 100, 512, .inl g_firstLikely))] t) A) (([.ref h0] : List Value).toArray) s 5 2560 A) (F0 m 63 ls []) := by
    intro n
    induction n with
    | zero => intro i g_cell g_behind g_size g_nextLikely g_firstLikely hi hn; exact absurd hn (by omega)
    | succ n ih =>
      intro i g_cell g_behind g_size g_nextLikely g_firstLikely hi hn H locs ls hP hD hS hl
      rcases Nat.lt_or_ge i 200 with hlt | hge
      · --
        refine lv_iload_n hx hb dM_Ch_init_63 rfl (lv_at hl 0 rfl) ?_
        refine lv_sipush (v := 200) hx hb dM_Ch_init_64 (by decide) ?_
        refine lv_icmp_ge (tgt := 83) hx hb dM_Ch_init_67 (by decide) (fun q => absurd q (nI_ge hlt (by decide))) (fun _ => ?_)
        refine lv_aload_n hx hb dM_Ch_init_70 rfl (lv_at hl 1 rfl) ?_
        refine lv_iload_n hx hb dM_Ch_init_71 rfl (lv_at hl 0 rfl) ?_
        refine lv_iconst (v := 0) hx hb dM_Ch_init_72 (by decide) ?_
        have hFc := va_free (wc := [(h0, .inr (1, [.ref q_1, .ref q_2, .ref q_3, .ref q_4, .ref q_5, .int (nI (i + 1))])), (q_1, .inl (dC 100, 512, .inl g_cell)), (q_2, .inl (dC 100, 512, .inl g_behind)), (q_3, .inl (dC 100, 512, .inl g_size)), (q_4, .inl (dC 100, 512, .inl g_nextLikely)), (q_5, .inl (dC 100, 512, .inl g_firstLikely))]) hD hS hA [0, 1, 2, 3, 4, 5] rfl
        refine va_calli (va_runV (As := [.int (nI i), .int 0]) (rest := []) ⟨hx, hb, hml, hown, hbg⟩ (c_Ch_add l dC dI h0 (nI i) q_1 q_2 q_3 q_4 q_5 g_cell g_behind g_size g_nextLikely g_firstLikely (i + 1) _ (by first | decide | omega)) (cwV 2 hbg (gd_V (fun _ h => h) wd_217 wd_219 ws_0 wd_5 (gd_wm (fun _ h => h) wd_220)) rfl rfl rfl (by decide +kernel) ⟨Nat.le_of_ble_eq_true rfl, Nat.le_of_ble_eq_true rfl⟩) (nPreV [0, 1, 2, 3, 4, 5] hP hD hK hN hS hA (by decide) rfl 0 rfl rfl) rfl rfl hl.1 rfl (lv_room (Nat.le_of_ble_eq_true rfl)) dM_Ch_init_73 ⟨Nat.le_of_ble_eq_true rfl, Nat.le_of_ble_eq_true rfl⟩) hS (fun q _ h => hFc q h) hFc (fun r_7 u t H1 locs ht hvm hw hB hz1 hk1 hS => ?_)
        obtain ⟨g_cell_9, g_behind_10, g_size_11, g_nextLikely_12, g_firstLikely_13, hP1, hD1⟩ := hB
        rw [ht] at hP1
        obtain ⟨hP, hD⟩ := va_join (wr := []) (w1 := [(h0, .inr (1, [.ref q_1, .ref q_2, .ref q_3, .ref q_4, .ref q_5, .int (nI ((i + 1) + 1))])), (q_1, .inl (dC 100, 512, .inl g_cell_9)), (q_2, .inl (dC 100, 512, .inl g_behind_10)), (q_3, .inl (dC 100, 512, .inl g_size_11)), (q_4, .inl (dC 100, 512, .inl g_nextLikely_12)), (q_5, .inl (dC 100, 512, .inl g_firstLikely_13))]) hP hD [0, 1, 2, 3, 4, 5] [] rfl rfl (by decide) (by decide) hk1 hFc hP1 hD1
        generalize H1 = H at hP hS ⊢
        have hP : va_P (dC, dI) classes [(h0, .inr (1, [.ref q_1, .ref q_2, .ref q_3, .ref q_4, .ref q_5, .int (nI ((i + 1) + 1))])), (q_1, .inl (dC 100, 512, .inl g_cell_9)), (q_2, .inl (dC 100, 512, .inl g_behind_10)), (q_3, .inl (dC 100, 512, .inl g_size_11)), (q_4, .inl (dC 100, 512, .inl g_nextLikely_12)), (q_5, .inl (dC 100, 512, .inl g_firstLikely_13))] H := hP
        have hD : va_D A [(h0, .inr (1, [.ref q_1, .ref q_2, .ref q_3, .ref q_4, .ref q_5, .int (nI ((i + 1) + 1))])), (q_1, .inl (dC 100, 512, .inl g_cell_9)), (q_2, .inl (dC 100, 512, .inl g_behind_10)), (q_3, .inl (dC 100, 512, .inl g_size_11)), (q_4, .inl (dC 100, 512, .inl g_nextLikely_12)), (q_5, .inl (dC 100, 512, .inl g_firstLikely_13))] := hD
        refine W.widen (k := 5) (n := 2560) (Nat.le_of_ble_eq_true rfl) (Nat.le_of_ble_eq_true rfl) ?_
        refine lv_pop hx hb dM_Ch_init_76 rfl ?_
        refine lv_iinc (v := nI (i + 1)) (lv' := [(1, .int (nI (i + 1))), (0, .ref h0)]) hx hb dM_Ch_init_77 hl (k := 0) rfl (n_inc _) (by decide) rfl (fun ls hl => ?_)
        refine lv_goto (tgt := 63) hx hb dM_Ch_init_80 (by decide) ?_
        exact ih (i + 1) g_cell_9 g_behind_10 g_size_11 g_nextLikely_12 g_firstLikely_13 hlt (by omega) _ _ _ (hP.pick (wc := [(h0, .inr (1, [.ref q_1, .ref q_2, .ref q_3, .ref q_4, .ref q_5, .int (nI ((i + 1) + 1))])), (q_1, .inl (dC 100, 512, .inl g_cell_9)), (q_2, .inl (dC 100, 512, .inl g_behind_10)), (q_3, .inl (dC 100, 512, .inl g_size_11)), (q_4, .inl (dC 100, 512, .inl g_nextLikely_12)), (q_5, .inl (dC 100, 512, .inl g_firstLikely_13))]) [0, 1, 2, 3, 4, 5] rfl) (hD.sub (ws' := [(h0, .inr (1, [.ref q_1, .ref q_2, .ref q_3, .ref q_4, .ref q_5, .int (nI ((i + 1) + 1))])), (q_1, .inl (dC 100, 512, .inl g_cell_9)), (q_2, .inl (dC 100, 512, .inl g_behind_10)), (q_3, .inl (dC 100, 512, .inl g_size_11)), (q_4, .inl (dC 100, 512, .inl g_nextLikely_12)), (q_5, .inl (dC 100, 512, .inl g_firstLikely_13))]) [0, 1, 2, 3, 4, 5] (by decide) rfl) hS (lv_sub hl [0, 1] rfl)
      · --
        obtain rfl : 200 = i := Nat.le_antisymm hge hi
        refine lv_iload_n hx hb dM_Ch_init_63 rfl (lv_at hl 0 rfl) ?_
        refine lv_sipush (v := 200) hx hb dM_Ch_init_64 (by decide) ?_
        refine lv_icmp_ge (tgt := 83) hx hb dM_Ch_init_67 (by decide) (fun _ => ?_) (fun q => absurd (by decide) q)
        have hP9 := hP.pick (wc := [(h0, .inr (1, [.ref q_1, .ref q_2, .ref q_3, .ref q_4, .ref q_5, .int (nI (200 + 1))])), (q_1, .inl (dC 100, 512, .inl g_cell)), (q_2, .inl (dC 100, 512, .inl g_behind)), (q_3, .inl (dC 100, 512, .inl g_size)), (q_4, .inl (dC 100, 512, .inl g_nextLikely)), (q_5, .inl (dC 100, 512, .inl g_firstLikely))]) [0, 1, 2, 3, 4, 5] rfl
        have hD9 := hD.sub (ws' := [(h0, .inr (1, [.ref q_1, .ref q_2, .ref q_3, .ref q_4, .ref q_5, .int (nI (200 + 1))])), (q_1, .inl (dC 100, 512, .inl g_cell)), (q_2, .inl (dC 100, 512, .inl g_behind)), (q_3, .inl (dC 100, 512, .inl g_size)), (q_4, .inl (dC 100, 512, .inl g_nextLikely)), (q_5, .inl (dC 100, 512, .inl g_firstLikely))]) [0, 1, 2, 3, 4, 5] (by decide) rfl
        exact W.vret hx hb hr (fun t ht hW => ⟨⟨(), rfl, trivial, ⟨q_1, q_2, q_3, q_4, q_5, g_cell, g_behind, g_size, g_nextLikely, g_firstLikely, (by rw [ht]; exact hP9), hD9⟩⟩, hS.F ht⟩) hS.2.2 dM_Ch_init_83
  exact lp_6 (200 + 1) 0 (upd (fun _ => 0) (0 : Int32).toNatClampNeg (-1)) (fun _ => 0) (fun _ => 0) (fun _ => 0) (fun _ => 0) (Nat.zero_le _) (by omega) _ _ _ hP hD hS (lv_sub hl [0, 1] rfl)
