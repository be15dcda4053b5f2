abbrev cM_He_init : ByteArray := prog_5_method_1_code
def yM_He_init : MethodName := ⟨"NoteDocument$Heap", "<init>", "()V"⟩
theorem dM_He_init_0 : decode cM_He_init 0 = .ok (.aload_n 0, 1) := by decide +kernel
theorem dM_He_init_1 : decode cM_He_init 1 = .ok (.invokespecial 3, 3) := by decide +kernel
theorem wd_250 : (Jvm.Cond.methodLink "NoteDocument$Heap" (3 : Nat) ({ cls := "java/lang/Object", name := "<init>", desc := "()V" } : Jvm.MethodName)) ∈ BIG := big_t (List.mem_of_getElem? (i := 250) (by decide +kernel)) (by decide +kernel)
theorem dM_He_init_4 : decode cM_He_init 4 = .ok (.aload_n 0, 1) := by decide +kernel
theorem dM_He_init_5 : decode cM_He_init 5 = .ok (.sipush 8192, 3) := by decide +kernel
theorem dM_He_init_8 : decode cM_He_init 8 = .ok (.newarray .long, 2) := by decide +kernel
theorem dM_He_init_10 : decode cM_He_init 10 = .ok (.putfield 9, 3) := by decide +kernel
theorem wd_251 : (Jvm.Cond.fieldLink "NoteDocument$Heap" (9 : Nat) "NoteDocument$Heap" "words" "[J") ∈ BIG := big_t (List.mem_of_getElem? (i := 251) (by decide +kernel)) (by decide +kernel)
theorem dM_He_init_13 : decode cM_He_init 13 = .ok (.aload_n 0, 1) := by decide +kernel
theorem dM_He_init_14 : decode cM_He_init 14 = .ok (.iconst 1, 1) := by decide +kernel
theorem dM_He_init_15 : decode cM_He_init 15 = .ok (.putfield 13, 3) := by decide +kernel
theorem wd_256 : (Jvm.Cond.fieldLink "NoteDocument$Heap" (13 : Nat) "NoteDocument$Heap" "top" "I") ∈ BIG := big_t (List.mem_of_getElem? (i := 256) (by decide +kernel)) (by decide +kernel)
theorem dM_He_init_18 : decode cM_He_init 18 = .ok (.return_, 1) := by decide +kernel
abbrev cM_De_init : ByteArray := prog_3_method_1_code
def yM_De_init : MethodName := ⟨"NoteDocument$Desk", "<init>", "(LNoteDocument$State;LNoteDocument$Heap;)V"⟩
theorem dM_De_init_0 : decode cM_De_init 0 = .ok (.aload_n 0, 1) := by decide +kernel
theorem dM_De_init_1 : decode cM_De_init 1 = .ok (.invokespecial 3, 3) := by decide +kernel
theorem wd_269 : (Jvm.Cond.methodLink "NoteDocument$Desk" (3 : Nat) ({ cls := "java/lang/Object", name := "<init>", desc := "()V" } : Jvm.MethodName)) ∈ BIG := big_t (List.mem_of_getElem? (i := 269) (by decide +kernel)) (by decide +kernel)
theorem dM_De_init_4 : decode cM_De_init 4 = .ok (.aload_n 0, 1) := by decide +kernel
theorem dM_De_init_5 : decode cM_De_init 5 = .ok (.sipush 200, 3) := by decide +kernel
theorem dM_De_init_8 : decode cM_De_init 8 = .ok (.newarray .long, 2) := by decide +kernel
theorem dM_De_init_10 : decode cM_De_init 10 = .ok (.putfield 9, 3) := by decide +kernel
theorem wd_276 : (Jvm.Cond.fieldLink "NoteDocument$Desk" (9 : Nat) "NoteDocument$Desk" "ove\x72" "[J") ∈ BIG := big_t (List.mem_of_getElem? (i := 276) (by decide +kernel)) (by decide +kernel)
theorem dM_De_init_13 : decode cM_De_init 13 = .ok (.aload_n 0, 1) := by decide +kernel
theorem dM_De_init_14 : decode cM_De_init 14 = .ok (.iconst 1, 1) := by decide +kernel
theorem dM_De_init_15 : decode cM_De_init 15 = .ok (.putfield 15, 3) := by decide +kernel
theorem wd_278 : (Jvm.Cond.fieldLink "NoteDocument$Desk" (15 : Nat) "NoteDocument$Desk" "now" "I") ∈ BIG := big_t (List.mem_of_getElem? (i := 278) (by decide +kernel)) (by decide +kernel)
theorem dM_De_init_18 : decode cM_De_init 18 = .ok (.aload_n 0, 1) := by decide +kernel
theorem dM_De_init_19 : decode cM_De_init 19 = .ok (.sipush 885, 3) := by decide +kernel
theorem dM_De_init_22 : decode cM_De_init 22 = .ok (.newarray .int, 2) := by decide +kernel
theorem dM_De_init_24 : decode cM_De_init 24 = .ok (.putfield 19, 3) := by decide +kernel
theorem wd_280 : (Jvm.Cond.fieldLink "NoteDocument$Desk" (19 : Nat) "NoteDocument$Desk" "checked" "[I") ∈ BIG := big_t (List.mem_of_getElem? (i := 280) (by decide +kernel)) (by decide +kernel)
theorem dM_De_init_27 : decode cM_De_init 27 = .ok (.aload_n 0, 1) := by decide +kernel
theorem dM_De_init_28 : decode cM_De_init 28 = .ok (.sipush 885, 3) := by decide +kernel
theorem dM_De_init_31 : decode cM_De_init 31 = .ok (.newarray .int, 2) := by decide +kernel
theorem dM_De_init_33 : decode cM_De_init 33 = .ok (.putfield 23, 3) := by decide +kernel
theorem wd_283 : (Jvm.Cond.fieldLink "NoteDocument$Desk" (23 : Nat) "NoteDocument$Desk" "freshChecked" "[I") ∈ BIG := big_t (List.mem_of_getElem? (i := 283) (by decide +kernel)) (by decide +kernel)
theorem dM_De_init_36 : decode cM_De_init 36 = .ok (.aload_n 0, 1) := by decide +kernel
theorem dM_De_init_37 : decode cM_De_init 37 = .ok (.sipush 885, 3) := by decide +kernel
theorem dM_De_init_40 : decode cM_De_init 40 = .ok (.newarray .int, 2) := by decide +kernel
theorem dM_De_init_42 : decode cM_De_init 42 = .ok (.putfield 26, 3) := by decide +kernel
theorem wd_284 : (Jvm.Cond.fieldLink "NoteDocument$Desk" (26 : Nat) "NoteDocument$Desk" "freshRecord" "[I") ∈ BIG := big_t (List.mem_of_getElem? (i := 284) (by decide +kernel)) (by decide +kernel)
theorem dM_De_init_45 : decode cM_De_init 45 = .ok (.aload_n 0, 1) := by decide +kernel
theorem dM_De_init_46 : decode cM_De_init 46 = .ok (.sipush 885, 3) := by decide +kernel
theorem dM_De_init_49 : decode cM_De_init 49 = .ok (.newarray .int, 2) := by decide +kernel
theorem dM_De_init_51 : decode cM_De_init 51 = .ok (.putfield 29, 3) := by decide +kernel
theorem wd_285 : (Jvm.Cond.fieldLink "NoteDocument$Desk" (29 : Nat) "NoteDocument$Desk" "orde\x72" "[I") ∈ BIG := big_t (List.mem_of_getElem? (i := 285) (by decide +kernel)) (by decide +kernel)
theorem dM_De_init_54 : decode cM_De_init 54 = .ok (.aload_n 0, 1) := by decide +kernel
theorem dM_De_init_55 : decode cM_De_init 55 = .ok (.sipush 885, 3) := by decide +kernel
theorem dM_De_init_58 : decode cM_De_init 58 = .ok (.newarray .int, 2) := by decide +kernel
theorem dM_De_init_60 : decode cM_De_init 60 = .ok (.putfield 32, 3) := by decide +kernel
theorem wd_287 : (Jvm.Cond.fieldLink "NoteDocument$Desk" (32 : Nat) "NoteDocument$Desk" "low" "[I") ∈ BIG := big_t (List.mem_of_getElem? (i := 287) (by decide +kernel)) (by decide +kernel)
theorem dM_De_init_63 : decode cM_De_init 63 = .ok (.aload_n 0, 1) := by decide +kernel
theorem dM_De_init_64 : decode cM_De_init 64 = .ok (.sipush 885, 3) := by decide +kernel
theorem dM_De_init_67 : decode cM_De_init 67 = .ok (.newarray .boolean, 2) := by decide +kernel
theorem dM_De_init_69 : decode cM_De_init 69 = .ok (.putfield 35, 3) := by decide +kernel
theorem wd_289 : (Jvm.Cond.fieldLink "NoteDocument$Desk" (35 : Nat) "NoteDocument$Desk" "isInCircle" "[Z") ∈ BIG := big_t (List.mem_of_getElem? (i := 289) (by decide +kernel)) (by decide +kernel)
theorem dM_De_init_72 : decode cM_De_init 72 = .ok (.aload_n 0, 1) := by decide +kernel
theorem dM_De_init_73 : decode cM_De_init 73 = .ok (.iconst (-1), 1) := by decide +kernel
theorem dM_De_init_74 : decode cM_De_init 74 = .ok (.putfield 39, 3) := by decide +kernel
theorem wd_292 : (Jvm.Cond.fieldLink "NoteDocument$Desk" (39 : Nat) "NoteDocument$Desk" "missing" "I") ∈ BIG := big_t (List.mem_of_getElem? (i := 292) (by decide +kernel)) (by decide +kernel)
theorem dM_De_init_77 : decode cM_De_init 77 = .ok (.aload_n 0, 1) := by decide +kernel
theorem dM_De_init_78 : decode cM_De_init 78 = .ok (.sipush 1298, 3) := by decide +kernel
theorem dM_De_init_81 : decode cM_De_init 81 = .ok (.newarray .long, 2) := by decide +kernel
theorem dM_De_init_83 : decode cM_De_init 83 = .ok (.putfield 42, 3) := by decide +kernel
theorem wd_295 : (Jvm.Cond.fieldLink "NoteDocument$Desk" (42 : Nat) "NoteDocument$Desk" "reads" "[J") ∈ BIG := big_t (List.mem_of_getElem? (i := 295) (by decide +kernel)) (by decide +kernel)
theorem dM_De_init_86 : decode cM_De_init 86 = .ok (.aload_n 0, 1) := by decide +kernel
theorem dM_De_init_87 : decode cM_De_init 87 = .ok (.sipush 1298, 3) := by decide +kernel
theorem dM_De_init_90 : decode cM_De_init 90 = .ok (.newarray .int, 2) := by decide +kernel
theorem dM_De_init_92 : decode cM_De_init 92 = .ok (.putfield 45, 3) := by decide +kernel
theorem wd_296 : (Jvm.Cond.fieldLink "NoteDocument$Desk" (45 : Nat) "NoteDocument$Desk" "readTurn" "[I") ∈ BIG := big_t (List.mem_of_getElem? (i := 296) (by decide +kernel)) (by decide +kernel)
theorem dM_De_init_95 : decode cM_De_init 95 = .ok (.aload_n 0, 1) := by decide +kernel
theorem dM_De_init_96 : decode cM_De_init 96 = .ok (.sipush 885, 3) := by decide +kernel
theorem dM_De_init_99 : decode cM_De_init 99 = .ok (.newarray .int, 2) := by decide +kernel
theorem dM_De_init_101 : decode cM_De_init 101 = .ok (.putfield 48, 3) := by decide +kernel
theorem wd_299 : (Jvm.Cond.fieldLink "NoteDocument$Desk" (48 : Nat) "NoteDocument$Desk" "recordAhead" "[I") ∈ BIG := big_t (List.mem_of_getElem? (i := 299) (by decide +kernel)) (by decide +kernel)
theorem dM_De_init_104 : decode cM_De_init 104 = .ok (.aload_n 0, 1) := by decide +kernel
theorem dM_De_init_105 : decode cM_De_init 105 = .ok (.aload_n 1, 1) := by decide +kernel
theorem dM_De_init_106 : decode cM_De_init 106 = .ok (.putfield 51, 3) := by decide +kernel
theorem wd_272 : (Jvm.Cond.fieldLink "NoteDocument$Desk" (51 : Nat) "NoteDocument$Desk" "state" "LNoteDocument$State;") ∈ BIG := big_t (List.mem_of_getElem? (i := 272) (by decide +kernel)) (by decide +kernel)
theorem dM_De_init_109 : decode cM_De_init 109 = .ok (.aload_n 0, 1) := by decide +kernel
theorem dM_De_init_110 : decode cM_De_init 110 = .ok (.aload_n 2, 1) := by decide +kernel
theorem dM_De_init_111 : decode cM_De_init 111 = .ok (.putfield 55, 3) := by decide +kernel
theorem wd_275 : (Jvm.Cond.fieldLink "NoteDocument$Desk" (55 : Nat) "NoteDocument$Desk" "heap" "LNoteDocument$Heap;") ∈ BIG := big_t (List.mem_of_getElem? (i := 275) (by decide +kernel)) (by decide +kernel)
theorem dM_De_init_114 : decode cM_De_init 114 = .ok (.return_, 1) := by decide +kernel
abbrev cM_Te_init : ByteArray := prog_10_method_1_code
def yM_Te_init : MethodName := ⟨"NoteDocument$Text", "<init>", "(LNoteDocument$Heap;)V"⟩
theorem dM_Te_init_0 : decode cM_Te_init 0 = .ok (.aload_n 0, 1) := by decide +kernel
theorem dM_Te_init_1 : decode cM_Te_init 1 = .ok (.invokespecial 3, 3) := by decide +kernel
theorem wd_352 : (Jvm.Cond.methodLink "NoteDocument$Text" (3 : Nat) ({ cls := "java/lang/Object", name := "<init>", desc := "()V" } : Jvm.MethodName)) ∈ BIG := big_t (List.mem_of_getElem? (i := 352) (by decide +kernel)) (by decide +kernel)
theorem dM_Te_init_4 : decode cM_Te_init 4 = .ok (.aload_n 0, 1) := by decide +kernel
theorem dM_Te_init_5 : decode cM_Te_init 5 = .ok (.aload_n 1, 1) := by decide +kernel
theorem dM_Te_init_6 : decode cM_Te_init 6 = .ok (.putfield 9, 3) := by decide +kernel
theorem wd_353 : (Jvm.Cond.fieldLink "NoteDocument$Text" (9 : Nat) "NoteDocument$Text" "heap" "LNoteDocument$Heap;") ∈ BIG := big_t (List.mem_of_getElem? (i := 353) (by decide +kernel)) (by decide +kernel)
theorem dM_Te_init_9 : decode cM_Te_init 9 = .ok (.return_, 1) := by decide +kernel
abbrev cM_Ru_init : ByteArray := prog_8_method_1_code
def yM_Ru_init : MethodName := ⟨"NoteDocument$Runne\x72", "<init>", "(LNoteDocument$Desk;LNoteDocument$Nodes;LNoteDocument$Chains;)V"⟩
theorem dM_Ru_init_0 : decode cM_Ru_init 0 = .ok (.aload_n 0, 1) := by decide +kernel
theorem dM_Ru_init_1 : decode cM_Ru_init 1 = .ok (.invokespecial 3, 3) := by decide +kernel
theorem wd_346 : (Jvm.Cond.methodLink "NoteDocument$Runne\x72" (3 : Nat) ({ cls := "java/lang/Object", name := "<init>", desc := "()V" } : Jvm.MethodName)) ∈ BIG := big_t (List.mem_of_getElem? (i := 346) (by decide +kernel)) (by decide +kernel)
theorem dM_Ru_init_4 : decode cM_Ru_init 4 = .ok (.aload_n 0, 1) := by decide +kernel
theorem dM_Ru_init_5 : decode cM_Ru_init 5 = .ok (.iconst (-1), 1) := by decide +kernel
theorem dM_Ru_init_6 : decode cM_Ru_init 6 = .ok (.putfield 9, 3) := by decide +kernel
theorem wd_369 : (Jvm.Cond.fieldLink "NoteDocument$Runne\x72" (9 : Nat) "NoteDocument$Runne\x72" "given" "I") ∈ BIG := big_t (List.mem_of_getElem? (i := 369) (by decide +kernel)) (by decide +kernel)
theorem dM_Ru_init_9 : decode cM_Ru_init 9 = .ok (.aload_n 0, 1) := by decide +kernel
theorem dM_Ru_init_10 : decode cM_Ru_init 10 = .ok (.iconst (-1), 1) := by decide +kernel
theorem dM_Ru_init_11 : decode cM_Ru_init 11 = .ok (.putfield 15, 3) := by decide +kernel
theorem wd_370 : (Jvm.Cond.fieldLink "NoteDocument$Runne\x72" (15 : Nat) "NoteDocument$Runne\x72" "alsoGiven" "I") ∈ BIG := big_t (List.mem_of_getElem? (i := 370) (by decide +kernel)) (by decide +kernel)
theorem dM_Ru_init_14 : decode cM_Ru_init 14 = .ok (.aload_n 0, 1) := by decide +kernel
theorem dM_Ru_init_15 : decode cM_Ru_init 15 = .ok (.aload_n 1, 1) := by decide +kernel
theorem dM_Ru_init_16 : decode cM_Ru_init 16 = .ok (.putfield 18, 3) := by decide +kernel
theorem wd_363 : (Jvm.Cond.fieldLink "NoteDocument$Runne\x72" (18 : Nat) "NoteDocument$Runne\x72" "desk" "LNoteDocument$Desk;") ∈ BIG := big_t (List.mem_of_getElem? (i := 363) (by decide +kernel)) (by decide +kernel)
theorem dM_Ru_init_19 : decode cM_Ru_init 19 = .ok (.aload_n 0, 1) := by decide +kernel
theorem dM_Ru_init_20 : decode cM_Ru_init 20 = .ok (.aload_n 1, 1) := by decide +kernel
theorem dM_Ru_init_21 : decode cM_Ru_init 21 = .ok (.getfield 22, 3) := by decide +kernel
theorem wd_270 : (Jvm.Cond.fieldLink "NoteDocument$Runne\x72" (22 : Nat) "NoteDocument$Desk" "state" "LNoteDocument$State;") ∈ BIG := big_t (List.mem_of_getElem? (i := 270) (by decide +kernel)) (by decide +kernel)
theorem dM_Ru_init_24 : decode cM_Ru_init 24 = .ok (.putfield 28, 3) := by decide +kernel
theorem wd_364 : (Jvm.Cond.fieldLink "NoteDocument$Runne\x72" (28 : Nat) "NoteDocument$Runne\x72" "state" "LNoteDocument$State;") ∈ BIG := big_t (List.mem_of_getElem? (i := 364) (by decide +kernel)) (by decide +kernel)
theorem dM_Ru_init_27 : decode cM_Ru_init 27 = .ok (.aload_n 0, 1) := by decide +kernel
theorem dM_Ru_init_28 : decode cM_Ru_init 28 = .ok (.aload_n 1, 1) := by decide +kernel
theorem dM_Ru_init_29 : decode cM_Ru_init 29 = .ok (.getfield 29, 3) := by decide +kernel
theorem wd_273 : (Jvm.Cond.fieldLink "NoteDocument$Runne\x72" (29 : Nat) "NoteDocument$Desk" "heap" "LNoteDocument$Heap;") ∈ BIG := big_t (List.mem_of_getElem? (i := 273) (by decide +kernel)) (by decide +kernel)
theorem dM_Ru_init_32 : decode cM_Ru_init 32 = .ok (.putfield 33, 3) := by decide +kernel
theorem wd_365 : (Jvm.Cond.fieldLink "NoteDocument$Runne\x72" (33 : Nat) "NoteDocument$Runne\x72" "heap" "LNoteDocument$Heap;") ∈ BIG := big_t (List.mem_of_getElem? (i := 365) (by decide +kernel)) (by decide +kernel)
theorem dM_Ru_init_35 : decode cM_Ru_init 35 = .ok (.aload_n 0, 1) := by decide +kernel
theorem dM_Ru_init_36 : decode cM_Ru_init 36 = .ok (.aload_n 2, 1) := by decide +kernel
theorem dM_Ru_init_37 : decode cM_Ru_init 37 = .ok (.putfield 34, 3) := by decide +kernel
theorem wd_366 : (Jvm.Cond.fieldLink "NoteDocument$Runne\x72" (34 : Nat) "NoteDocument$Runne\x72" "nodes" "LNoteDocument$Nodes;") ∈ BIG := big_t (List.mem_of_getElem? (i := 366) (by decide +kernel)) (by decide +kernel)
theorem dM_Ru_init_40 : decode cM_Ru_init 40 = .ok (.aload_n 0, 1) := by decide +kernel
theorem dM_Ru_init_41 : decode cM_Ru_init 41 = .ok (.aload_n 3, 1) := by decide +kernel
theorem dM_Ru_init_42 : decode cM_Ru_init 42 = .ok (.putfield 38, 3) := by decide +kernel
theorem wd_367 : (Jvm.Cond.fieldLink "NoteDocument$Runne\x72" (38 : Nat) "NoteDocument$Runne\x72" "chains" "LNoteDocument$Chains;") ∈ BIG := big_t (List.mem_of_getElem? (i := 367) (by decide +kernel)) (by decide +kernel)
theorem dM_Ru_init_45 : decode cM_Ru_init 45 = .ok (.aload_n 0, 1) := by decide +kernel
theorem dM_Ru_init_46 : decode cM_Ru_init 46 = .ok (.new 42, 3) := by decide +kernel
theorem wd_347 : (Jvm.Cond.classLink "NoteDocument$Runne\x72" (42 : Nat) "NoteDocument$Text") ∈ BIG := big_t (List.mem_of_getElem? (i := 347) (by decide +kernel)) (by decide +kernel)
theorem wd_348 : (Jvm.Cond.instantiable "NoteDocument$Text" (3 : Nat)) ∈ BIG := big_t (List.mem_of_getElem? (i := 348) (by decide +kernel)) (by decide +kernel)
theorem wd_10 : (Jvm.Cond.initialized "NoteDocument$Text") ∈ BIG := big_t (List.mem_of_getElem? (i := 10) (by decide +kernel)) (by decide +kernel)
theorem n_dflt_Te : ∀ j, j < 3 → defaultValue (tC_Te j) = vp_V [.null, .int 0, .int 0] j := by
  intro j hj
  rcases (show j = 0 ∨ j = 1 ∨ j = 2 by omega) with rfl | rfl | rfl <;> rfl
theorem dM_Ru_init_49 : decode cM_Ru_init 49 = .ok (.dup, 1) := by decide +kernel
theorem dM_Ru_init_50 : decode cM_Ru_init 50 = .ok (.aload_n 1, 1) := by decide +kernel
theorem dM_Ru_init_51 : decode cM_Ru_init 51 = .ok (.getfield 29, 3) := by decide +kernel
theorem dM_Ru_init_54 : decode cM_Ru_init 54 = .ok (.invokespecial 44, 3) := by decide +kernel
theorem wd_351 : (Jvm.Cond.code ({ cls := "NoteDocument$Text", name := "<init>", desc := "(LNoteDocument$Heap;)V" } : Jvm.MethodName) prog_10_method_1_code (2 : Nat) (Option.none : Option Jvm.ClassFile.FieldType)) ∈ BIG := big_t (List.mem_of_getElem? (i := 351) (by decide +kernel)) (by decide +kernel)
theorem wd_349 : (Jvm.Cond.methodLink "NoteDocument$Runne\x72" (44 : Nat) ({ cls := "NoteDocument$Text", name := "<init>", desc := "(LNoteDocument$Heap;)V" } : Jvm.MethodName)) ∈ BIG := big_t (List.mem_of_getElem? (i := 349) (by decide +kernel)) (by decide +kernel)
theorem wd_350 : (Jvm.Cond.instanceMethod ({ cls := "NoteDocument$Text", name := "<init>", desc := "(LNoteDocument$Heap;)V" } : Jvm.MethodName)) ∈ BIG := big_t (List.mem_of_getElem? (i := 350) (by decide +kernel)) (by decide +kernel)
theorem dM_Ru_init_57 : decode cM_Ru_init 57 = .ok (.putfield 47, 3) := by decide +kernel
theorem wd_368 : (Jvm.Cond.fieldLink "NoteDocument$Runne\x72" (47 : Nat) "NoteDocument$Runne\x72" "text" "LNoteDocument$Text;") ∈ BIG := big_t (List.mem_of_getElem? (i := 368) (by decide +kernel)) (by decide +kernel)
theorem dM_Ru_init_60 : decode cM_Ru_init 60 = .ok (.return_, 1) := by decide +kernel
abbrev cM_Fi_init : ByteArray := prog_4_method_1_code
def yM_Fi_init : MethodName := ⟨"NoteDocument$Finde\x72", "<init>", "(LNoteDocument$Desk;LNoteDocument$Runner;)V"⟩
theorem dM_Fi_init_0 : decode cM_Fi_init 0 = .ok (.aload_n 0, 1) := by decide +kernel
theorem dM_Fi_init_1 : decode cM_Fi_init 1 = .ok (.invokespecial 3, 3) := by decide +kernel
theorem wd_391 : (Jvm.Cond.methodLink "NoteDocument$Finde\x72" (3 : Nat) ({ cls := "java/lang/Object", name := "<init>", desc := "()V" } : Jvm.MethodName)) ∈ BIG := big_t (List.mem_of_getElem? (i := 391) (by decide +kernel)) (by decide +kernel)
theorem dM_Fi_init_4 : decode cM_Fi_init 4 = .ok (.aload_n 0, 1) := by decide +kernel
theorem dM_Fi_init_5 : decode cM_Fi_init 5 = .ok (.sipush 885, 3) := by decide +kernel
theorem dM_Fi_init_8 : decode cM_Fi_init 8 = .ok (.newarray .int, 2) := by decide +kernel
theorem dM_Fi_init_10 : decode cM_Fi_init 10 = .ok (.putfield 9, 3) := by decide +kernel
theorem wd_396 : (Jvm.Cond.fieldLink "NoteDocument$Finde\x72" (9 : Nat) "NoteDocument$Finde\x72" "stack" "[I") ∈ BIG := big_t (List.mem_of_getElem? (i := 396) (by decide +kernel)) (by decide +kernel)
theorem dM_Fi_init_13 : decode cM_Fi_init 13 = .ok (.aload_n 0, 1) := by decide +kernel
theorem dM_Fi_init_14 : decode cM_Fi_init 14 = .ok (.sipush 885, 3) := by decide +kernel
theorem dM_Fi_init_17 : decode cM_Fi_init 17 = .ok (.newarray .int, 2) := by decide +kernel
theorem dM_Fi_init_19 : decode cM_Fi_init 19 = .ok (.putfield 15, 3) := by decide +kernel
theorem wd_397 : (Jvm.Cond.fieldLink "NoteDocument$Finde\x72" (15 : Nat) "NoteDocument$Finde\x72" "at" "[I") ∈ BIG := big_t (List.mem_of_getElem? (i := 397) (by decide +kernel)) (by decide +kernel)
theorem dM_Fi_init_22 : decode cM_Fi_init 22 = .ok (.aload_n 0, 1) := by decide +kernel
theorem dM_Fi_init_23 : decode cM_Fi_init 23 = .ok (.sipush 885, 3) := by decide +kernel
theorem dM_Fi_init_26 : decode cM_Fi_init 26 = .ok (.newarray .int, 2) := by decide +kernel
theorem dM_Fi_init_28 : decode cM_Fi_init 28 = .ok (.putfield 18, 3) := by decide +kernel
theorem wd_399 : (Jvm.Cond.fieldLink "NoteDocument$Finde\x72" (18 : Nat) "NoteDocument$Finde\x72" "pending" "[I") ∈ BIG := big_t (List.mem_of_getElem? (i := 399) (by decide +kernel)) (by decide +kernel)
theorem dM_Fi_init_31 : decode cM_Fi_init 31 = .ok (.aload_n 0, 1) := by decide +kernel
theorem dM_Fi_init_32 : decode cM_Fi_init 32 = .ok (.aload_n 1, 1) := by decide +kernel
theorem dM_Fi_init_33 : decode cM_Fi_init 33 = .ok (.putfield 21, 3) := by decide +kernel
theorem wd_392 : (Jvm.Cond.fieldLink "NoteDocument$Finde\x72" (21 : Nat) "NoteDocument$Finde\x72" "desk" "LNoteDocument$Desk;") ∈ BIG := big_t (List.mem_of_getElem? (i := 392) (by decide +kernel)) (by decide +kernel)
theorem dM_Fi_init_36 : decode cM_Fi_init 36 = .ok (.aload_n 0, 1) := by decide +kernel
theorem dM_Fi_init_37 : decode cM_Fi_init 37 = .ok (.aload_n 1, 1) := by decide +kernel
theorem dM_Fi_init_38 : decode cM_Fi_init 38 = .ok (.getfield 25, 3) := by decide +kernel
theorem wd_274 : (Jvm.Cond.fieldLink "NoteDocument$Finde\x72" (25 : Nat) "NoteDocument$Desk" "heap" "LNoteDocument$Heap;") ∈ BIG := big_t (List.mem_of_getElem? (i := 274) (by decide +kernel)) (by decide +kernel)
theorem dM_Fi_init_41 : decode cM_Fi_init 41 = .ok (.putfield 31, 3) := by decide +kernel
theorem wd_393 : (Jvm.Cond.fieldLink "NoteDocument$Finde\x72" (31 : Nat) "NoteDocument$Finde\x72" "heap" "LNoteDocument$Heap;") ∈ BIG := big_t (List.mem_of_getElem? (i := 393) (by decide +kernel)) (by decide +kernel)
theorem dM_Fi_init_44 : decode cM_Fi_init 44 = .ok (.aload_n 0, 1) := by decide +kernel
theorem dM_Fi_init_45 : decode cM_Fi_init 45 = .ok (.aload_n 1, 1) := by decide +kernel
theorem dM_Fi_init_46 : decode cM_Fi_init 46 = .ok (.getfield 32, 3) := by decide +kernel
theorem wd_271 : (Jvm.Cond.fieldLink "NoteDocument$Finde\x72" (32 : Nat) "NoteDocument$Desk" "state" "LNoteDocument$State;") ∈ BIG := big_t (List.mem_of_getElem? (i := 271) (by decide +kernel)) (by decide +kernel)
theorem dM_Fi_init_49 : decode cM_Fi_init 49 = .ok (.putfield 36, 3) := by decide +kernel
theorem wd_394 : (Jvm.Cond.fieldLink "NoteDocument$Finde\x72" (36 : Nat) "NoteDocument$Finde\x72" "state" "LNoteDocument$State;") ∈ BIG := big_t (List.mem_of_getElem? (i := 394) (by decide +kernel)) (by decide +kernel)
theorem dM_Fi_init_52 : decode cM_Fi_init 52 = .ok (.aload_n 0, 1) := by decide +kernel
theorem dM_Fi_init_53 : decode cM_Fi_init 53 = .ok (.aload_n 2, 1) := by decide +kernel
theorem dM_Fi_init_54 : decode cM_Fi_init 54 = .ok (.putfield 37, 3) := by decide +kernel
theorem wd_395 : (Jvm.Cond.fieldLink "NoteDocument$Finde\x72" (37 : Nat) "NoteDocument$Finde\x72" "runne\x72" "LNoteDocument$Runner;") ∈ BIG := big_t (List.mem_of_getElem? (i := 395) (by decide +kernel)) (by decide +kernel)
theorem dM_Fi_init_57 : decode cM_Fi_init 57 = .ok (.return_, 1) := by decide +kernel
abbrev cM_Mo_init : ByteArray := prog_6_method_1_code
def yM_Mo_init : MethodName := ⟨"NoteDocument$Move\x72", "<init>", "(LNoteDocument$State;LNoteDocument$Nodes;)V"⟩
theorem dM_Mo_init_0 : decode cM_Mo_init 0 = .ok (.aload_n 0, 1) := by decide +kernel
theorem dM_Mo_init_1 : decode cM_Mo_init 1 = .ok (.invokespecial 3, 3) := by decide +kernel
theorem wd_442 : (Jvm.Cond.methodLink "NoteDocument$Move\x72" (3 : Nat) ({ cls := "java/lang/Object", name := "<init>", desc := "()V" } : Jvm.MethodName)) ∈ BIG := big_t (List.mem_of_getElem? (i := 442) (by decide +kernel)) (by decide +kernel)
theorem dM_Mo_init_4 : decode cM_Mo_init 4 = .ok (.aload_n 0, 1) := by decide +kernel
theorem dM_Mo_init_5 : decode cM_Mo_init 5 = .ok (.bipush 10, 2) := by decide +kernel
theorem dM_Mo_init_7 : decode cM_Mo_init 7 = .ok (.newarray .int, 2) := by decide +kernel
theorem dM_Mo_init_9 : decode cM_Mo_init 9 = .ok (.putfield 9, 3) := by decide +kernel
theorem wd_445 : (Jvm.Cond.fieldLink "NoteDocument$Move\x72" (9 : Nat) "NoteDocument$Move\x72" "goal" "[I") ∈ BIG := big_t (List.mem_of_getElem? (i := 445) (by decide +kernel)) (by decide +kernel)
theorem dM_Mo_init_12 : decode cM_Mo_init 12 = .ok (.aload_n 0, 1) := by decide +kernel
theorem dM_Mo_init_13 : decode cM_Mo_init 13 = .ok (.bipush 10, 2) := by decide +kernel
theorem dM_Mo_init_15 : decode cM_Mo_init 15 = .ok (.newarray .int, 2) := by decide +kernel
theorem dM_Mo_init_17 : decode cM_Mo_init 17 = .ok (.putfield 15, 3) := by decide +kernel
theorem wd_446 : (Jvm.Cond.fieldLink "NoteDocument$Move\x72" (15 : Nat) "NoteDocument$Move\x72" "line" "[I") ∈ BIG := big_t (List.mem_of_getElem? (i := 446) (by decide +kernel)) (by decide +kernel)
theorem dM_Mo_init_20 : decode cM_Mo_init 20 = .ok (.aload_n 0, 1) := by decide +kernel
theorem dM_Mo_init_21 : decode cM_Mo_init 21 = .ok (.bipush 50, 2) := by decide +kernel
theorem dM_Mo_init_23 : decode cM_Mo_init 23 = .ok (.newarray .long, 2) := by decide +kernel
theorem dM_Mo_init_25 : decode cM_Mo_init 25 = .ok (.putfield 18, 3) := by decide +kernel
theorem wd_447 : (Jvm.Cond.fieldLink "NoteDocument$Move\x72" (18 : Nat) "NoteDocument$Move\x72" "before" "[J") ∈ BIG := big_t (List.mem_of_getElem? (i := 447) (by decide +kernel)) (by decide +kernel)
theorem dM_Mo_init_28 : decode cM_Mo_init 28 = .ok (.aload_n 0, 1) := by decide +kernel
theorem dM_Mo_init_29 : decode cM_Mo_init 29 = .ok (.aload_n 1, 1) := by decide +kernel
theorem dM_Mo_init_30 : decode cM_Mo_init 30 = .ok (.putfield 22, 3) := by decide +kernel
theorem wd_443 : (Jvm.Cond.fieldLink "NoteDocument$Move\x72" (22 : Nat) "NoteDocument$Move\x72" "state" "LNoteDocument$State;") ∈ BIG := big_t (List.mem_of_getElem? (i := 443) (by decide +kernel)) (by decide +kernel)
theorem dM_Mo_init_33 : decode cM_Mo_init 33 = .ok (.aload_n 0, 1) := by decide +kernel
theorem dM_Mo_init_34 : decode cM_Mo_init 34 = .ok (.aload_n 2, 1) := by decide +kernel
theorem dM_Mo_init_35 : decode cM_Mo_init 35 = .ok (.putfield 26, 3) := by decide +kernel
theorem wd_444 : (Jvm.Cond.fieldLink "NoteDocument$Move\x72" (26 : Nat) "NoteDocument$Move\x72" "nodes" "LNoteDocument$Nodes;") ∈ BIG := big_t (List.mem_of_getElem? (i := 444) (by decide +kernel)) (by decide +kernel)
theorem dM_Mo_init_38 : decode cM_Mo_init 38 = .ok (.return_, 1) := by decide +kernel
set_option maxHeartbeats 4000000 in
set_option maxRecDepth 100000 in
theorem c_He_init (l : Launch) (dC : Nat → ClassId) (dI : Nat → Nat → Nat) (h0 : Nat) (sz : Nat) : Met l yM_He_init (wm yM_He_init cM_He_init 1 none) ({ frames := 40, cells := 1, slots := 8192, locals := 800 }) (nPc [.ref h0] (dC, dI) [(h0, .inr (4, [.null, .int 0]))] sz) (va_Qv (fun (_ : Unit) => True) (fun (_ : Unit) t => ∃ (a_words : Nat), ∃ (g_words : Nat → Int64), nB (dC, dI) (va_A [(h0, .inr (4, [.null, .int 0]))] sz) [(h0, .inr (4, [.ref a_words, .int 1])), (a_words, .inl (dC 101, 8192, .inr (.inl g_words)))] t) (va_A [(h0, .inr (4, [.null, .int 0]))] sz)) 1 8192 (va_A [(h0, .inr (4, [.null, .int 0]))] sz) := by
  refine Met.ofW (cc := cM_He_init) (maxL := 1) (ret := none) (by decide) rfl ?_
  intro p e s m args below meth c s₁ B hml hv
  obtain ⟨rfl, hsz, hP, hD0, hK, hN⟩ := hv
  have hx := B.exec
  have hb := B.bytes
  have hr := B.returns
  have hbg : ∀ w ∈ BIG, w.before ([.ref h0] : List Value).toArray s = true := fun w h => atoms_spec (ws := (wm yM_He_init cM_He_init 1 none)) B.pre w (List.mem_cons_of_mem _ h)
  have hown : s.vm.findClass "NoteDocument$Heap" = some m.cls := findClass_of_methodNamed B.named
  have hlocks := B.notSynchronized
  have hin : meth.name = "<init>" := (name_of_methodNamed B.named B.method).1
  subst hsz
  have hD := hD0.self (sz := s.heap.size)
  generalize hAe : va_A [(h0, .inr (4, [.null, .int 0]))] s.heap.size = A at hD hN ⊢
  have hA : ∀ q : Nat, s.heap.size ≤ q → A q := fun q h => by rw [← hAe]; exact Or.inr h
  have hS : va_S A s.heap s.heap [] := va_S.rf
  have hP : va_P (dC, dI) classes [(h0, .inr (4, [.null, .int 0]))] s.heap := hP
  have hl := lv_entry ([.ref h0] : List Value) (n := 1) (Nat.le_of_ble_eq_true rfl)
  rw [lg_entry_eq]
  generalize (lg_sl ([.ref h0] : List Value) ++ List.replicate (1 - (lg_sl ([.ref h0] : List Value)).length) Slot.unset).toArray = ls at hl ⊢
  have hl : lv_has ls 1 [(0, .ref h0)] := hl
  refine lv_aload_n hx hb dM_He_init_0 rfl (lv_at hl 0 rfl) ?_
  refine W.objInit hx hb hown (hbg _ wd_250) (hbg _ wd_43) (hbg _ wd_44) rfl (by rw [hml]; exact hl.1) rfl dM_He_init_1 (Nat.le_of_ble_eq_true rfl) (Nat.le_of_ble_eq_true rfl) ?_
  refine W.eq (g2 := F0 m 4 ls []) rfl ?_
  refine lv_aload_n hx hb dM_He_init_4 rfl (lv_at hl 0 rfl) ?_
  refine lv_sipush (v := 8192) hx hb dM_He_init_5 (by decide) ?_
  refine n_newa (atype := .long) (N' := 8192) (a0 := (8192, .inr (.inl (fun _ => 0)))) (ty := .long) (n := 8192) hx hb (hbg _ wd_170) rfl hK.1 hP hD hS hA 1 rfl (fun _ => rfl) (by decide) (by decide) (Nat.le_of_ble_eq_true rfl) (Nat.le_of_ble_eq_true rfl) (Nat.le_of_ble_eq_true rfl) dM_He_init_8 (fun q_1 H hP hD hS => ?_)
  have hP : va_P (dC, dI) classes [(h0, .inr (4, [.null, .int 0])), (q_1, .inl (dC 101, 8192, .inr (.inl (fun _ => 0))))] H := hP
  have hD : va_D A [(h0, .inr (4, [.null, .int 0])), (q_1, .inl (dC 101, 8192, .inr (.inl (fun _ => 0))))] := hD
  refine W.widen (k := 1) (n := 8192) (Nat.le_of_ble_eq_true rfl) (Nat.le_of_ble_eq_true rfl) ?_
  refine va_put (D := (dC, dI)) (ci := 4) (v := .ref q_1) (ty := .array .long) (C := rC_He) (T := fC_He) (N := 2) hx hb hbg iC_He tC_He oC_He nC_He hown hK.1 hP hD hS 0 rfl rfl 0 (by decide) (hbg _ wd_251) (fun _ h9 => h9) rfl (by decide +kernel) rfl rfl (Nat.le_of_ble_eq_true rfl) dM_He_init_10 (fun H locs hP hD hS => ?_)
  have hP : va_P (dC, dI) classes [(h0, .inr (4, [.ref q_1, .int 0])), (q_1, .inl (dC 101, 8192, .inr (.inl (fun _ => 0))))] H := hP
  have hD : va_D A [(h0, .inr (4, [.ref q_1, .int 0])), (q_1, .inl (dC 101, 8192, .inr (.inl (fun _ => 0))))] := hD
  refine lv_aload_n hx hb dM_He_init_13 rfl (lv_at hl 0 rfl) ?_
  refine lv_iconst (v := 1) hx hb dM_He_init_14 (by decide) ?_
  refine va_put (D := (dC, dI)) (ci := 4) (v := .int 1) (ty := .int) (C := rC_He) (T := fC_He) (N := 2) hx hb hbg iC_He tC_He oC_He nC_He hown hK.1 hP hD hS 0 rfl rfl 1 (by decide) (hbg _ wd_256) (fun _ h9 => h9) rfl (by decide +kernel) rfl rfl (Nat.le_of_ble_eq_true rfl) dM_He_init_15 (fun H locs hP hD hS => ?_)
  have hP : va_P (dC, dI) classes [(h0, .inr (4, [.ref q_1, .int 1])), (q_1, .inl (dC 101, 8192, .inr (.inl (fun _ => 0))))] H := hP
  have hD : va_D A [(h0, .inr (4, [.ref q_1, .int 1])), (q_1, .inl (dC 101, 8192, .inr (.inl (fun _ => 0))))] := hD
  have hP9 := hP.pick (wc := [(h0, .inr (4, [.ref q_1, .int 1])), (q_1, .inl (dC 101, 8192, .inr (.inl (fun _ => 0))))]) [0, 1] rfl
  have hD9 := hD.sub (ws' := [(h0, .inr (4, [.ref q_1, .int 1])), (q_1, .inl (dC 101, 8192, .inr (.inl (fun _ => 0))))]) [0, 1] (by decide) rfl
  exact W.vret hx hb hr (fun t ht hW => ⟨⟨(), rfl, trivial, ⟨q_1, (fun _ => 0), (by rw [ht]; exact hP9), hD9⟩⟩, hS.F ht⟩) hS.2.2 dM_He_init_18
set_option maxHeartbeats 4000000 in
set_option maxRecDepth 100000 in
theorem c_De_init (l : Launch) (dC : Nat → ClassId) (dI : Nat → Nat → Nat) (h0 : Nat) (st : Nat) (he : Nat) (sz : Nat) : Met l yM_De_init (wm yM_De_init cM_De_init 3 none) ({ frames := 40, cells := 10, slots := 8991, locals := 800 }) (nPc [.ref h0, .ref st, .ref he] (dC, dI) [(h0, .inr (2, [.null, .null, .null, .int 0, .null, .int 0, .int 0, .null, .null, .null, .null, .null, .int 0, .int 0, .null, .null, .int 0, .int 0, .null]))] sz) (va_Qv (fun (_ : Unit) => True) (fun (_ : Unit) t => ∃ (a_over : Nat), ∃ (a_checked : Nat), ∃ (a_freshChecked : Nat), ∃ (a_freshRecord : Nat), ∃ (a_order : Nat), ∃ (a_low : Nat), ∃ (a_isInCircle : Nat), ∃ (a_reads : Nat), ∃ (a_readTurn : Nat), ∃ (a_recordAhead : Nat), ∃ (g_over : Nat → Int64), ∃ (g_checked : Nat → Int32), ∃ (g_freshChecked : Nat → Int32), ∃ (g_freshRecord : Nat → Int32), ∃ (g_order : Nat → Int32), ∃ (g_low : Nat → Int32), ∃ (g_isInCircle : Nat → Int32), ∃ (g_reads : Nat → Int64), ∃ (g_readTurn : Nat → Int32), ∃ (g_recordAhead : Nat → Int32), nB (dC, dI) (va_A [(h0, .inr (2, [.null, .null, .null, .int 0, .null, .int 0, .int 0, .null, .null, .null, .null, .null, .int 0, .int 0, .null, .null, .int 0, .int 0, .null]))] sz) [(h0, .inr (2, [.ref st, .ref he, .ref a_over, .int 1, .ref a_checked, .int 0, .int 0, .ref a_freshChecked, .ref a_freshRecord, .ref a_order, .ref a_low, .ref a_isInCircle, .int 0, .int (-1), .ref a_reads, .ref a_readTurn, .int 0, .int 0, .ref a_recordAhead])), (a_over, .inl (dC 101, 200, .inr (.inl g_over))), (a_checked, .inl (dC 100, 885, .inl g_checked)), (a_freshChecked, .inl (dC 100, 885, .inl g_freshChecked)), (a_freshRecord, .inl (dC 100, 885, .inl g_freshRecord)), (a_order, .inl (dC 100, 885, .inl g_order)), (a_low, .inl (dC 100, 885, .inl g_low)), (a_isInCircle, .inl (dC 102, 885, .inl g_isInCircle)), (a_reads, .inl (dC 101, 1298, .inr (.inl g_reads))), (a_readTurn, .inl (dC 100, 1298, .inl g_readTurn)), (a_recordAhead, .inl (dC 100, 885, .inl g_recordAhead))] t) (va_A [(h0, .inr (2, [.null, .null, .null, .int 0, .null, .int 0, .int 0, .null, .null, .null, .null, .null, .int 0, .int 0, .null, .null, .int 0, .int 0, .null]))] sz)) 10 8991 (va_A [(h0, .inr (2, [.null, .null, .null, .int 0, .null, .int 0, .int 0, .null, .null, .null, .null, .null, .int 0, .int 0, .null, .null, .int 0, .int 0, .null]))] sz) := by
  refine Met.ofW (cc := cM_De_init) (maxL := 3) (ret := none) (by decide) rfl ?_
  intro p e s m args below meth c s₁ B hml hv
  obtain ⟨rfl, hsz, hP, hD0, hK, hN⟩ := hv
  have hx := B.exec
  have hb := B.bytes
  have hr := B.returns
  have hbg : ∀ w ∈ BIG, w.before ([.ref h0, .ref st, .ref he] : List Value).toArray s = true := fun w h => atoms_spec (ws := (wm yM_De_init cM_De_init 3 none)) B.pre w (List.mem_cons_of_mem _ h)
  have hown : s.vm.findClass "NoteDocument$Desk" = some m.cls := findClass_of_methodNamed B.named
  have hlocks := B.notSynchronized
  have hin : meth.name = "<init>" := (name_of_methodNamed B.named B.method).1
  subst hsz
  have hD := hD0.self (sz := s.heap.size)
  generalize hAe : va_A [(h0, .inr (2, [.null, .null, .null, .int 0, .null, .int 0, .int 0, .null, .null, .null, .null, .null, .int 0, .int 0, .null, .null, .int 0, .int 0, .null]))] s.heap.size = A at hD hN ⊢
  have hA : ∀ q : Nat, s.heap.size ≤ q → A q := fun q h => by rw [← hAe]; exact Or.inr h
  have hS : va_S A s.heap s.heap [] := va_S.rf
  have hP : va_P (dC, dI) classes [(h0, .inr (2, [.null, .null, .null, .int 0, .null, .int 0, .int 0, .null, .null, .null, .null, .null, .int 0, .int 0, .null, .null, .int 0, .int 0, .null]))] s.heap := hP
  have hl := lv_entry ([.ref h0, .ref st, .ref he] : List Value) (n := 3) (Nat.le_of_ble_eq_true rfl)
  rw [lg_entry_eq]
  generalize (lg_sl ([.ref h0, .ref st, .ref he] : List Value) ++ List.replicate (3 - (lg_sl ([.ref h0, .ref st, .ref he] : List Value)).length) Slot.unset).toArray = ls at hl ⊢
  have hl : lv_has ls 3 [(0, .ref h0), (1, .ref st), (2, .ref he)] := hl
  refine lv_aload_n hx hb dM_De_init_0 rfl (lv_at hl 0 rfl) ?_
  refine W.objInit hx hb hown (hbg _ wd_269) (hbg _ wd_43) (hbg _ wd_44) rfl (by rw [hml]; exact hl.1) rfl dM_De_init_1 (Nat.le_of_ble_eq_true rfl) (Nat.le_of_ble_eq_true rfl) ?_
  refine W.eq (g2 := F0 m 4 ls []) rfl ?_
  refine lv_aload_n hx hb dM_De_init_4 rfl (lv_at hl 0 rfl) ?_
  refine lv_sipush (v := 200) hx hb dM_De_init_5 (by decide) ?_
  refine n_newa (atype := .long) (N' := 200) (a0 := (200, .inr (.inl (fun _ => 0)))) (ty := .long) (n := 200) hx hb (hbg _ wd_170) rfl hK.1 hP hD hS hA 1 rfl (fun _ => rfl) (by decide) (by decide) (Nat.le_of_ble_eq_true rfl) (Nat.le_of_ble_eq_true rfl) (Nat.le_of_ble_eq_true rfl) dM_De_init_8 (fun q_1 H hP hD hS => ?_)
  have hP : va_P (dC, dI) classes [(h0, .inr (2, [.null, .null, .null, .int 0, .null, .int 0, .int 0, .null, .null, .null, .null, .null, .int 0, .int 0, .null, .null, .int 0, .int 0, .null])), (q_1, .inl (dC 101, 200, .inr (.inl (fun _ => 0))))] H := hP
  have hD : va_D A [(h0, .inr (2, [.null, .null, .null, .int 0, .null, .int 0, .int 0, .null, .null, .null, .null, .null, .int 0, .int 0, .null, .null, .int 0, .int 0, .null])), (q_1, .inl (dC 101, 200, .inr (.inl (fun _ => 0))))] := hD
  refine W.widen (k := 1) (n := 200) (Nat.le_of_ble_eq_true rfl) (Nat.le_of_ble_eq_true rfl) ?_
  refine va_putF (D := (dC, dI)) (ci := 2) (v := .ref q_1) (ty := .array .long) (C := rC_De) (T := fC_De) (N := 19) hx hb hbg iC_De tC_De oC_De nC_De hown hK.1 hP hD hS 0 rfl rfl 2 (by decide) (hbg _ wd_276) (fun _ h9 => h9) rfl hin rfl (by decide +kernel) rfl rfl (Nat.le_of_ble_eq_true rfl) dM_De_init_10 (fun H locs hP hD hS => ?_)
  have hP : va_P (dC, dI) classes [(h0, .inr (2, [.null, .null, .ref q_1, .int 0, .null, .int 0, .int 0, .null, .null, .null, .null, .null, .int 0, .int 0, .null, .null, .int 0, .int 0, .null])), (q_1, .inl (dC 101, 200, .inr (.inl (fun _ => 0))))] H := hP
  have hD : va_D A [(h0, .inr (2, [.null, .null, .ref q_1, .int 0, .null, .int 0, .int 0, .null, .null, .null, .null, .null, .int 0, .int 0, .null, .null, .int 0, .int 0, .null])), (q_1, .inl (dC 101, 200, .inr (.inl (fun _ => 0))))] := hD
  refine lv_aload_n hx hb dM_De_init_13 rfl (lv_at hl 0 rfl) ?_
  refine lv_iconst (v := 1) hx hb dM_De_init_14 (by decide) ?_
  refine va_put (D := (dC, dI)) (ci := 2) (v := .int 1) (ty := .int) (C := rC_De) (T := fC_De) (N := 19) hx hb hbg iC_De tC_De oC_De nC_De hown hK.1 hP hD hS 0 rfl rfl 3 (by decide) (hbg _ wd_278) (fun _ h9 => h9) rfl (by decide +kernel) rfl rfl (Nat.le_of_ble_eq_true rfl) dM_De_init_15 (fun H locs hP hD hS => ?_)
  have hP : va_P (dC, dI) classes [(h0, .inr (2, [.null, .null, .ref q_1, .int 1, .null, .int 0, .int 0, .null, .null, .null, .null, .null, .int 0, .int 0, .null, .null, .int 0, .int 0, .null])), (q_1, .inl (dC 101, 200, .inr (.inl (fun _ => 0))))] H := hP
  have hD : va_D A [(h0, .inr (2, [.null, .null, .ref q_1, .int 1, .null, .int 0, .int 0, .null, .null, .null, .null, .null, .int 0, .int 0, .null, .null, .int 0, .int 0, .null])), (q_1, .inl (dC 101, 200, .inr (.inl (fun _ => 0))))] := hD
  refine lv_aload_n hx hb dM_De_init_18 rfl (lv_at hl 0 rfl) ?_
  refine lv_sipush (v := 885) hx hb dM_De_init_19 (by decide) ?_
  refine n_newa (atype := .int) (N' := 885) (a0 := (885, .inl (fun _ => 0))) (ty := .int) (n := 885) hx hb (hbg _ wd_169) rfl hK.1 hP hD hS hA 0 rfl (fun _ => rfl) (by decide) (by decide) (Nat.le_of_ble_eq_true rfl) (Nat.le_of_ble_eq_true rfl) (Nat.le_of_ble_eq_true rfl) dM_De_init_22 (fun q_2 H hP hD hS => ?_)
  have hP : va_P (dC, dI) classes [(h0, .inr (2, [.null, .null, .ref q_1, .int 1, .null, .int 0, .int 0, .null, .null, .null, .null, .null, .int 0, .int 0, .null, .null, .int 0, .int 0, .null])), (q_1, .inl (dC 101, 200, .inr (.inl (fun _ => 0)))), (q_2, .inl (dC 100, 885, .inl (fun _ => 0)))] H := hP
  have hD : va_D A [(h0, .inr (2, [.null, .null, .ref q_1, .int 1, .null, .int 0, .int 0, .null, .null, .null, .null, .null, .int 0, .int 0, .null, .null, .int 0, .int 0, .null])), (q_1, .inl (dC 101, 200, .inr (.inl (fun _ => 0)))), (q_2, .inl (dC 100, 885, .inl (fun _ => 0)))] := hD
  refine W.widen (k := 2) (n := 1085) (Nat.le_of_ble_eq_true rfl) (Nat.le_of_ble_eq_true rfl) ?_
  refine va_putF (D := (dC, dI)) (ci := 2) (v := .ref q_2) (ty := .array .int) (C := rC_De) (T := fC_De) (N := 19) hx hb hbg iC_De tC_De oC_De nC_De hown hK.1 hP hD hS 0 rfl rfl 4 (by decide) (hbg _ wd_280) (fun _ h9 => h9) rfl hin rfl (by decide +kernel) rfl rfl (Nat.le_of_ble_eq_true rfl) dM_De_init_24 (fun H locs hP hD hS => ?_)
  have hP : va_P (dC, dI) classes [(h0, .inr (2, [.null, .null, .ref q_1, .int 1, .ref q_2, .int 0, .int 0, .null, .null, .null, .null, .null, .int 0, .int 0, .null, .null, .int 0, .int 0, .null])), (q_1, .inl (dC 101, 200, .inr (.inl (fun _ => 0)))), (q_2, .inl (dC 100, 885, .inl (fun _ => 0)))] H := hP
  have hD : va_D A [(h0, .inr (2, [.null, .null, .ref q_1, .int 1, .ref q_2, .int 0, .int 0, .null, .null, .null, .null, .null, .int 0, .int 0, .null, .null, .int 0, .int 0, .null])), (q_1, .inl (dC 101, 200, .inr (.inl (fun _ => 0)))), (q_2, .inl (dC 100, 885, .inl (fun _ => 0)))] := hD
  refine lv_aload_n hx hb dM_De_init_27 rfl (lv_at hl 0 rfl) ?_
  refine lv_sipush (v := 885) hx hb dM_De_init_28 (by decide) ?_
  refine n_newa (atype := .int) (N' := 885) (a0 := (885, .inl (fun _ => 0))) (ty := .int) (n := 885) hx hb (hbg _ wd_169) rfl hK.1 hP hD hS hA 0 rfl (fun _ => rfl) (by decide) (by decide) (Nat.le_of_ble_eq_true rfl) (Nat.le_of_ble_eq_true rfl) (Nat.le_of_ble_eq_true rfl) dM_De_init_31 (fun q_3 H hP hD hS => ?_)
  have hP : va_P (dC, dI) classes [(h0, .inr (2, [.null, .null, .ref q_1, .int 1, .ref q_2, .int 0, .int 0, .null, .null, .null, .null, .null, .int 0, .int 0, .null, .null, .int 0, .int 0, .null])), (q_1, .inl (dC 101, 200, .inr (.inl (fun _ => 0)))), (q_2, .inl (dC 100, 885, .inl (fun _ => 0))), (q_3, .inl (dC 100, 885, .inl (fun _ => 0)))] H := hP
  have hD : va_D A [(h0, .inr (2, [.null, .null, .ref q_1, .int 1, .ref q_2, .int 0, .int 0, .null, .null, .null, .null, .null, .int 0, .int 0, .null, .null, .int 0, .int 0, .null])), (q_1, .inl (dC 101, 200, .inr (.inl (fun _ => 0)))), (q_2, .inl (dC 100, 885, .inl (fun _ => 0))), (q_3, .inl (dC 100, 885, .inl (fun _ => 0)))] := hD
  refine W.widen (k := 3) (n := 1970) (Nat.le_of_ble_eq_true rfl) (Nat.le_of_ble_eq_true rfl) ?_
  refine va_putF (D := (dC, dI)) (ci := 2) (v := .ref q_3) (ty := .array .int) (C := rC_De) (T := fC_De) (N := 19) hx hb hbg iC_De tC_De oC_De nC_De hown hK.1 hP hD hS 0 rfl rfl 7 (by decide) (hbg _ wd_283) (fun _ h9 => h9) rfl hin rfl (by decide +kernel) rfl rfl (Nat.le_of_ble_eq_true rfl) dM_De_init_33 (fun H locs hP hD hS => ?_)
  have hP : va_P (dC, dI) classes [(h0, .inr (2, [.null, .null, .ref q_1, .int 1, .ref q_2, .int 0, .int 0, .ref q_3, .null, .null, .null, .null, .int 0, .int 0, .null, .null, .int 0, .int 0, .null])), (q_1, .inl (dC 101, 200, .inr (.inl (fun _ => 0)))), (q_2, .inl (dC 100, 885, .inl (fun _ => 0))), (q_3, .inl (dC 100, 885, .inl (fun _ => 0)))] H := hP
  have hD : va_D A [(h0, .inr (2, [.null, .null, .ref q_1, .int 1, .ref q_2, .int 0, .int 0, .ref q_3, .null, .null, .null, .null, .int 0, .int 0, .null, .null, .int 0, .int 0, .null])), (q_1, .inl (dC 101, 200, .inr (.inl (fun _ => 0)))), (q_2, .inl (dC 100, 885, .inl (fun _ => 0))), (q_3, .inl (dC 100, 885, .inl (fun _ => 0)))] := hD
  refine lv_aload_n hx hb dM_De_init_36 rfl (lv_at hl 0 rfl) ?_
  refine lv_sipush (v := 885) hx hb dM_De_init_37 (by decide) ?_
  refine n_newa (atype := .int) (N' := 885) (a0 := (885, .inl (fun _ => 0))) (ty := .int) (n := 885) hx hb (hbg _ wd_169) rfl hK.1 hP hD hS hA 0 rfl (fun _ => rfl) (by decide) (by decide) (Nat.le_of_ble_eq_true rfl) (Nat.le_of_ble_eq_true rfl) (Nat.le_of_ble_eq_true rfl) dM_De_init_40 (fun q_4 H hP hD hS => ?_)
  have hP : va_P (dC, dI) classes [(h0, .inr (2, [.null, .null, .ref q_1, .int 1, .ref q_2, .int 0, .int 0, .ref q_3, .null, .null, .null, .null, .int 0, .int 0, .null, .null, .int 0, .int 0, .null])), (q_1, .inl (dC 101, 200, .inr (.inl (fun _ => 0)))), (q_2, .inl (dC 100, 885, .inl (fun _ => 0))), (q_3, .inl (dC 100, 885, .inl (fun _ => 0))), (q_4, .inl (dC 100, 885, .inl (fun _ => 0)))] H := hP
  have hD : va_D A [(h0, .inr (2, [.null, .null, .ref q_1, .int 1, .ref q_2, .int 0, .int 0, .ref q_3, .null, .null, .null, .null, .int 0, .int 0, .null, .null, .int 0, .int 0, .null])), (q_1, .inl (dC 101, 200, .inr (.inl (fun _ => 0)))), (q_2, .inl (dC 100, 885, .inl (fun _ => 0))), (q_3, .inl (dC 100, 885, .inl (fun _ => 0))), (q_4, .inl (dC 100, 885, .inl (fun _ => 0)))] := hD
  refine W.widen (k := 4) (n := 2855) (Nat.le_of_ble_eq_true rfl) (Nat.le_of_ble_eq_true rfl) ?_
  refine va_putF (D := (dC, dI)) (ci := 2) (v := .ref q_4) (ty := .array .int) (C := rC_De) (T := fC_De) (N := 19) hx hb hbg iC_De tC_De oC_De nC_De hown hK.1 hP hD hS 0 rfl rfl 8 (by decide) (hbg _ wd_284) (fun _ h9 => h9) rfl hin rfl (by decide +kernel) rfl rfl (Nat.le_of_ble_eq_true rfl) dM_De_init_42 (fun H locs hP hD hS => ?_)
  have hP : va_P (dC, dI) classes [(h0, .inr (2, [.null, .null, .ref q_1, .int 1, .ref q_2, .int 0, .int 0, .ref q_3, .ref q_4, .null, .null, .null, .int 0, .int 0, .null, .null, .int 0, .int 0, .null])), (q_1, .inl (dC 101, 200, .inr (.inl (fun _ => 0)))), (q_2, .inl (dC 100, 885, .inl (fun _ => 0))), (q_3, .inl (dC 100, 885, .inl (fun _ => 0))), (q_4, .inl (dC 100, 885, .inl (fun _ => 0)))] H := hP
  have hD : va_D A [(h0, .inr (2, [.null, .null, .ref q_1, .int 1, .ref q_2, .int 0, .int 0, .ref q_3, .ref q_4, .null, .null, .null, .int 0, .int 0, .null, .null, .int 0, .int 0, .null])), (q_1, .inl (dC 101, 200, .inr (.inl (fun _ => 0)))), (q_2, .inl (dC 100, 885, .inl (fun _ => 0))), (q_3, .inl (dC 100, 885, .inl (fun _ => 0))), (q_4, .inl (dC 100, 885, .inl (fun _ => 0)))] := hD
  refine lv_aload_n hx hb dM_De_init_45 rfl (lv_at hl 0 rfl) ?_
  refine lv_sipush (v := 885) hx hb dM_De_init_46 (by decide) ?_
  refine n_newa (atype := .int) (N' := 885) (a0 := (885, .inl (fun _ => 0))) (ty := .int) (n := 885) hx hb (hbg _ wd_169) rfl hK.1 hP hD hS hA 0 rfl (fun _ => rfl) (by decide) (by decide) (Nat.le_of_ble_eq_true rfl) (Nat.le_of_ble_eq_true rfl) (Nat.le_of_ble_eq_true rfl) dM_De_init_49 (fun q_5 H hP hD hS => ?_)
  have hP : va_P (dC, dI) classes [(h0, .inr (2, [.null, .null, .ref q_1, .int 1, .ref q_2, .int 0, .int 0, .ref q_3, .ref q_4, .null, .null, .null, .int 0, .int 0, .null, .null, .int 0, .int 0, .null])), (q_1, .inl (dC 101, 200, .inr (.inl (fun _ => 0)))), (q_2, .inl (dC 100, 885, .inl (fun _ => 0))), (q_3, .inl (dC 100, 885, .inl (fun _ => 0))), (q_4, .inl (dC 100, 885, .inl (fun _ => 0))), (q_5, .inl (dC 100, 885, .inl (fun _ => 0)))] H := hP
  have hD : va_D A [(h0, .inr (2, [.null, .null, .ref q_1, .int 1, .ref q_2, .int 0, .int 0, .ref q_3, .ref q_4, .null, .null, .null, .int 0, .int 0, .null, .null, .int 0, .int 0, .null])), (q_1, .inl (dC 101, 200, .inr (.inl (fun _ => 0)))), (q_2, .inl (dC 100, 885, .inl (fun _ => 0))), (q_3, .inl (dC 100, 885, .inl (fun _ => 0))), (q_4, .inl (dC 100, 885, .inl (fun _ => 0))), (q_5, .inl (dC 100, 885, .inl (fun _ => 0)))] := hD
  refine W.widen (k := 5) (n := 3740) (Nat.le_of_ble_eq_true rfl) (Nat.le_of_ble_eq_true rfl) ?_
  refine va_putF (D := (dC, dI)) (ci := 2) (v := .ref q_5) (ty := .array .int) (C := rC_De) (T := fC_De) (N := 19) hx hb hbg iC_De tC_De oC_De nC_De hown hK.1 hP hD hS 0 rfl rfl 9 (by decide) (hbg _ wd_285) (fun _ h9 => h9) rfl hin rfl (by decide +kernel) rfl rfl (Nat.le_of_ble_eq_true rfl) dM_De_init_51 (fun H locs hP hD hS => ?_)
  have hP : va_P (dC, dI) classes [(h0, .inr (2, [.null, .null, .ref q_1, .int 1, .ref q_2, .int 0, .int 0, .ref q_3, .ref q_4, .ref q_5, .null, .null, .int 0, .int 0, .null, .null, .int 0, .int 0, .null])), (q_1, .inl (dC 101, 200, .inr (.inl (fun _ => 0)))), (q_2, .inl (dC 100, 885, .inl (fun _ => 0))), (q_3, .inl (dC 100, 885, .inl (fun _ => 0))), (q_4, .inl (dC 100, 885, .inl (fun _ => 0))), (q_5, .inl (dC 100, 885, .inl (fun _ => 0)))] H := hP
  have hD : va_D A [(h0, .inr (2, [.null, .null, .ref q_1, .int 1, .ref q_2, .int 0, .int 0, .ref q_3, .ref q_4, .ref q_5, .null, .null, .int 0, .int 0, .null, .null, .int 0, .int 0, .null])), (q_1, .inl (dC 101, 200, .inr (.inl (fun _ => 0)))), (q_2, .inl (dC 100, 885, .inl (fun _ => 0))), (q_3, .inl (dC 100, 885, .inl (fun _ => 0))), (q_4, .inl (dC 100, 885, .inl (fun _ => 0))), (q_5, .inl (dC 100, 885, .inl (fun _ => 0)))] := hD
  refine lv_aload_n hx hb dM_De_init_54 rfl (lv_at hl 0 rfl) ?_
  refine lv_sipush (v := 885) hx hb dM_De_init_55 (by decide) ?_
  refine n_newa (atype := .int) (N' := 885) (a0 := (885, .inl (fun _ => 0))) (ty := .int) (n := 885) hx hb (hbg _ wd_169) rfl hK.1 hP hD hS hA 0 rfl (fun _ => rfl) (by decide) (by decide) (Nat.le_of_ble_eq_true rfl) (Nat.le_of_ble_eq_true rfl) (Nat.le_of_ble_eq_true rfl) dM_De_init_58 (fun q_6 H hP hD hS => ?_)
  have hP : va_P (dC, dI) classes [(h0, .inr (2, [.null, .null, .ref q_1, .int 1, .ref q_2, .int 0, .int 0, .ref q_3, .ref q_4, .ref q_5, .null, .null, .int 0, .int 0, .null, .null, .int 0, .int 0, .null])), (q_1, .inl (dC 101, 200, .inr (.inl (fun _ => 0)))), (q_2, .inl (dC 100, 885, .inl (fun _ => 0))), (q_3, .inl (dC 100, 885, .inl (fun _ => 0))), (q_4, .inl (dC 100, 885, .inl (fun _ => 0))), (q_5, .inl (dC 100, 885, .inl (fun _ => 0))), (q_6, .inl (dC 100, 885, .inl (fun _ => 0)))] H := hP
  have hD : va_D A [(h0, .inr (2, [.null, .null, .ref q_1, .int 1, .ref q_2, .int 0, .int 0, .ref q_3, .ref q_4, .ref q_5, .null, .null, .int 0, .int 0, .null, .null, .int 0, .int 0, .null])), (q_1, .inl (dC 101, 200, .inr (.inl (fun _ => 0)))), (q_2, .inl (dC 100, 885, .inl (fun _ => 0))), (q_3, .inl (dC 100, 885, .inl (fun _ => 0))), (q_4, .inl (dC 100, 885, .inl (fun _ => 0))), (q_5, .inl (dC 100, 885, .inl (fun _ => 0))), (q_6, .inl (dC 100, 885, .inl (fun _ => 0)))] := hD
  refine W.widen (k := 6) (n := 4625) (Nat.le_of_ble_eq_true rfl) (Nat.le_of_ble_eq_true rfl) ?_
  refine va_putF (D := (dC, dI)) (ci := 2) (v := .ref q_6) (ty := .array .int) (C := rC_De) (T := fC_De) (N := 19) hx hb hbg iC_De tC_De oC_De nC_De hown hK.1 hP hD hS 0 rfl rfl 10 (by decide) (hbg _ wd_287) (fun _ h9 => h9) rfl hin rfl (by decide +kernel) rfl rfl (Nat.le_of_ble_eq_true rfl) dM_De_init_60 (fun H locs hP hD hS => ?_)
  have hP : va_P (dC, dI) classes [(h0, .inr (2, [.null, .null, .ref q_1, .int 1, .ref q_2, .int 0, .int 0, .ref q_3, .ref q_4, .ref q_5, .ref q_6, .null, .int 0, .int 0, .null, .null, .int 0, .int 0, .null])), (q_1, .inl (dC 101, 200, .inr (.inl (fun _ => 0)))), (q_2, .inl (dC 100, 885, .inl (fun _ => 0))), (q_3, .inl (dC 100, 885, .inl (fun _ => 0))), (q_4, .inl (dC 100, 885, .inl (fun _ => 0))), (q_5, .inl (dC 100, 885, .inl (fun _ => 0))), (q_6, .inl (dC 100, 885, .inl (fun _ => 0)))] H := hP
  have hD : va_D A [(h0, .inr (2, [.null, .null, .ref q_1, .int 1, .ref q_2, .int 0, .int 0, .ref q_3, .ref q_4, .ref q_5, .ref q_6, .null, .int 0, .int 0, .null, .null, .int 0, .int 0, .null])), (q_1, .inl (dC 101, 200, .inr (.inl (fun _ => 0)))), (q_2, .inl (dC 100, 885, .inl (fun _ => 0))), (q_3, .inl (dC 100, 885, .inl (fun _ => 0))), (q_4, .inl (dC 100, 885, .inl (fun _ => 0))), (q_5, .inl (dC 100, 885, .inl (fun _ => 0))), (q_6, .inl (dC 100, 885, .inl (fun _ => 0)))] := hD
  refine lv_aload_n hx hb dM_De_init_63 rfl (lv_at hl 0 rfl) ?_
  refine lv_sipush (v := 885) hx hb dM_De_init_64 (by decide) ?_
  refine n_newa (atype := .boolean) (N' := 885) (a0 := (885, .inl (fun _ => 0))) (ty := .boolean) (n := 885) hx hb (hbg _ wd_171) rfl hK.1 hP hD hS hA 2 rfl (fun _ => rfl) (by decide) (by decide) (Nat.le_of_ble_eq_true rfl) (Nat.le_of_ble_eq_true rfl) (Nat.le_of_ble_eq_true rfl) dM_De_init_67 (fun q_7 H hP hD hS => ?_)
  have hP : va_P (dC, dI) classes [(h0, .inr (2, [.null, .null, .ref q_1, .int 1, .ref q_2, .int 0, .int 0, .ref q_3, .ref q_4, .ref q_5, .ref q_6, .null, .int 0, .int 0, .null, .null, .int 0, .int 0, .null])), (q_1, .inl (dC 101, 200, .inr (.inl (fun _ => 0)))), (q_2, .inl (dC 100, 885, .inl (fun _ => 0))), (q_3, .inl (dC 100, 885, .inl (fun _ => 0))), (q_4, .inl (dC 100, 885, .inl (fun _ => 0))), (q_5, .inl (dC 100, 885, .inl (fun _ => 0))), (q_6, .inl (dC 100, 885, .inl (fun _ => 0))), (q_7, .inl (dC 102, 885, .inl (fun _ => 0)))] H := hP
  have hD : va_D A [(h0, .inr (2, [.null, .null, .ref q_1, .int 1, .ref q_2, .int 0, .int 0, .ref q_3, .ref q_4, .ref q_5, .ref q_6, .null, .int 0, .int 0, .null, .null, .int 0, .int 0, .null])), (q_1, .inl (dC 101, 200, .inr (.inl (fun _ => 0)))), (q_2, .inl (dC 100, 885, .inl (fun _ => 0))), (q_3, .inl (dC 100, 885, .inl (fun _ => 0))), (q_4, .inl (dC 100, 885, .inl (fun _ => 0))), (q_5, .inl (dC 100, 885, .inl (fun _ => 0))), (q_6, .inl (dC 100, 885, .inl (fun _ => 0))), (q_7, .inl (dC 102, 885, .inl (fun _ => 0)))] := hD
  refine W.widen (k := 7) (n := 5510) (Nat.le_of_ble_eq_true rfl) (Nat.le_of_ble_eq_true rfl) ?_
  refine va_putF (D := (dC, dI)) (ci := 2) (v := .ref q_7) (ty := .array .boolean) (C := rC_De) (T := fC_De) (N := 19) hx hb hbg iC_De tC_De oC_De nC_De hown hK.1 hP hD hS 0 rfl rfl 11 (by decide) (hbg _ wd_289) (fun _ h9 => h9) rfl hin rfl (by decide +kernel) rfl rfl (Nat.le_of_ble_eq_true rfl) dM_De_init_69 (fun H locs hP hD hS => ?_)
  have hP : va_P (dC, dI) classes [(h0, .inr (2, [.null, .null, .ref q_1, .int 1, .ref q_2, .int 0, .int 0, .ref q_3, .ref q_4, .ref q_5, .ref q_6, .ref q_7, .int 0, .int 0, .null, .null, .int 0, .int 0, .null])), (q_1, .inl (dC 101, 200, .inr (.inl (fun _ => 0)))), (q_2, .inl (dC 100, 885, .inl (fun _ => 0))), (q_3, .inl (dC 100, 885, .inl (fun _ => 0))), (q_4, .inl (dC 100, 885, .inl (fun _ => 0))), (q_5, .inl (dC 100, 885, .inl (fun _ => 0))), (q_6, .inl (dC 100, 885, .inl (fun _ => 0))), (q_7, .inl (dC 102, 885, .inl (fun _ => 0)))] H := hP
  have hD : va_D A [(h0, .inr (2, [.null, .null, .ref q_1, .int 1, .ref q_2, .int 0, .int 0, .ref q_3, .ref q_4, .ref q_5, .ref q_6, .ref q_7, .int 0, .int 0, .null, .null, .int 0, .int 0, .null])), (q_1, .inl (dC 101, 200, .inr (.inl (fun _ => 0)))), (q_2, .inl (dC 100, 885, .inl (fun _ => 0))), (q_3, .inl (dC 100, 885, .inl (fun _ => 0))), (q_4, .inl (dC 100, 885, .inl (fun _ => 0))), (q_5, .inl (dC 100, 885, .inl (fun _ => 0))), (q_6, .inl (dC 100, 885, .inl (fun _ => 0))), (q_7, .inl (dC 102, 885, .inl (fun _ => 0)))] := hD
  refine lv_aload_n hx hb dM_De_init_72 rfl (lv_at hl 0 rfl) ?_
  refine lv_iconst (v := (-1)) hx hb dM_De_init_73 (by decide) ?_
  refine va_put (D := (dC, dI)) (ci := 2) (v := .int (-1)) (ty := .int) (C := rC_De) (T := fC_De) (N := 19) hx hb hbg iC_De tC_De oC_De nC_De hown hK.1 hP hD hS 0 rfl rfl 13 (by decide) (hbg _ wd_292) (fun _ h9 => h9) rfl (by decide +kernel) rfl rfl (Nat.le_of_ble_eq_true rfl) dM_De_init_74 (fun H locs hP hD hS => ?_)
  have hP : va_P (dC, dI) classes [(h0, .inr (2, [.null, .null, .ref q_1, .int 1, .ref q_2, .int 0, .int 0, .ref q_3, .ref q_4, .ref q_5, .ref q_6, .ref q_7, .int 0, .int (-1), .null, .null, .int 0, .int 0, .null])), (q_1, .inl (dC 101, 200, .inr (.inl (fun _ => 0)))), (q_2, .inl (dC 100, 885, .inl (fun _ => 0))), (q_3, .inl (dC 100, 885, .inl (fun _ => 0))), (q_4, .inl (dC 100, 885, .inl (fun _ => 0))), (q_5, .inl (dC 100, 885, .inl (fun _ => 0))), (q_6, .inl (dC 100, 885, .inl (fun _ => 0))), (q_7, .inl (dC 102, 885, .inl (fun _ => 0)))] H := hP
  have hD : va_D A [(h0, .inr (2, [.null, .null, .ref q_1, .int 1, .ref q_2, .int 0, .int 0, .ref q_3, .ref q_4, .ref q_5, .ref q_6, .ref q_7, .int 0, .int (-1), .null, .null, .int 0, .int 0, .null])), (q_1, .inl (dC 101, 200, .inr (.inl (fun _ => 0)))), (q_2, .inl (dC 100, 885, .inl (fun _ => 0))), (q_3, .inl (dC 100, 885, .inl (fun _ => 0))), (q_4, .inl (dC 100, 885, .inl (fun _ => 0))), (q_5, .inl (dC 100, 885, .inl (fun _ => 0))), (q_6, .inl (dC 100, 885, .inl (fun _ => 0))), (q_7, .inl (dC 102, 885, .inl (fun _ => 0)))] := hD
  refine lv_aload_n hx hb dM_De_init_77 rfl (lv_at hl 0 rfl) ?_
  refine lv_sipush (v := 1298) hx hb dM_De_init_78 (by decide) ?_
  refine n_newa (atype := .long) (N' := 1298) (a0 := (1298, .inr (.inl (fun _ => 0)))) (ty := .long) (n := 1298) hx hb (hbg _ wd_170) rfl hK.1 hP hD hS hA 1 rfl (fun _ => rfl) (by decide) (by decide) (Nat.le_of_ble_eq_true rfl) (Nat.le_of_ble_eq_true rfl) (Nat.le_of_ble_eq_true rfl) dM_De_init_81 (fun q_8 H hP hD hS => ?_)
  have hP : va_P (dC, dI) classes [(h0, .inr (2, [.null, .null, .ref q_1, .int 1, .ref q_2, .int 0, .int 0, .ref q_3, .ref q_4, .ref q_5, .ref q_6, .ref q_7, .int 0, .int (-1), .null, .null, .int 0, .int 0, .null])), (q_1, .inl (dC 101, 200, .inr (.inl (fun _ => 0)))), (q_2, .inl (dC 100, 885, .inl (fun _ => 0))), (q_3, .inl (dC 100, 885, .inl (fun _ => 0))), (q_4, .inl (dC 100, 885, .inl (fun _ => 0))), (q_5, .inl (dC 100, 885, .inl (fun _ => 0))), (q_6, .inl (dC 100, 885, .inl (fun _ => 0))), (q_7, .inl (dC 102, 885, .inl (fun _ => 0))), (q_8, .inl (dC 101, 1298, .inr (.inl (fun _ => 0))))] H := hP
  have hD : va_D A [(h0, .inr (2, [.null, .null, .ref q_1, .int 1, .ref q_2, .int 0, .int 0, .ref q_3, .ref q_4, .ref q_5, .ref q_6, .ref q_7, .int 0, .int (-1), .null, .null, .int 0, .int 0, .null])), (q_1, .inl (dC 101, 200, .inr (.inl (fun _ => 0)))), (q_2, .inl (dC 100, 885, .inl (fun _ => 0))), (q_3, .inl (dC 100, 885, .inl (fun _ => 0))), (q_4, .inl (dC 100, 885, .inl (fun _ => 0))), (q_5, .inl (dC 100, 885, .inl (fun _ => 0))), (q_6, .inl (dC 100, 885, .inl (fun _ => 0))), (q_7, .inl (dC 102, 885, .inl (fun _ => 0))), (q_8, .inl (dC 101, 1298, .inr (.inl (fun _ => 0))))] := hD
  refine W.widen (k := 8) (n := 6808) (Nat.le_of_ble_eq_true rfl) (Nat.le_of_ble_eq_true rfl) ?_
  refine va_putF (D := (dC, dI)) (ci := 2) (v := .ref q_8) (ty := .array .long) (C := rC_De) (T := fC_De) (N := 19) hx hb hbg iC_De tC_De oC_De nC_De hown hK.1 hP hD hS 0 rfl rfl 14 (by decide) (hbg _ wd_295) (fun _ h9 => h9) rfl hin rfl (by decide +kernel) rfl rfl (Nat.le_of_ble_eq_true rfl) dM_De_init_83 (fun H locs hP hD hS => ?_)
  have hP : va_P (dC, dI) classes [(h0, .inr (2, [.null, .null, .ref q_1, .int 1, .ref q_2, .int 0, .int 0, .ref q_3, .ref q_4, .ref q_5, .ref q_6, .ref q_7, .int 0, .int (-1), .ref q_8, .null, .int 0, .int 0, .null])), (q_1, .inl (dC 101, 200, .inr (.inl (fun _ => 0)))), (q_2, .inl (dC 100, 885, .inl (fun _ => 0))), (q_3, .inl (dC 100, 885, .inl (fun _ => 0))), (q_4, .inl (dC 100, 885, .inl (fun _ => 0))), (q_5, .inl (dC 100, 885, .inl (fun _ => 0))), (q_6, .inl (dC 100, 885, .inl (fun _ => 0))), (q_7, .inl (dC 102, 885, .inl (fun _ => 0))), (q_8, .inl (dC 101, 1298, .inr (.inl (fun _ => 0))))] H := hP
  have hD : va_D A [(h0, .inr (2, [.null, .null, .ref q_1, .int 1, .ref q_2, .int 0, .int 0, .ref q_3, .ref q_4, .ref q_5, .ref q_6, .ref q_7, .int 0, .int (-1), .ref q_8, .null, .int 0, .int 0, .null])), (q_1, .inl (dC 101, 200, .inr (.inl (fun _ => 0)))), (q_2, .inl (dC 100, 885, .inl (fun _ => 0))), (q_3, .inl (dC 100, 885, .inl (fun _ => 0))), (q_4, .inl (dC 100, 885, .inl (fun _ => 0))), (q_5, .inl (dC 100, 885, .inl (fun _ => 0))), (q_6, .inl (dC 100, 885, .inl (fun _ => 0))), (q_7, .inl (dC 102, 885, .inl (fun _ => 0))), (q_8, .inl (dC 101, 1298, .inr (.inl (fun _ => 0))))] := hD
  refine lv_aload_n hx hb dM_De_init_86 rfl (lv_at hl 0 rfl) ?_
  refine lv_sipush (v := 1298) hx hb dM_De_init_87 (by decide) ?_
  refine n_newa (atype := .int) (N' := 1298) (a0 := (1298, .inl (fun _ => 0))) (ty := .int) (n := 1298) hx hb (hbg _ wd_169) rfl hK.1 hP hD hS hA 0 rfl (fun _ => rfl) (by decide) (by decide) (Nat.le_of_ble_eq_true rfl) (Nat.le_of_ble_eq_true rfl) (Nat.le_of_ble_eq_true rfl) dM_De_init_90 (fun q_9 H hP hD hS => ?_)
  have hP : va_P (dC, dI) classes [(h0, .inr (2, [.null, .null, .ref q_1, .int 1, .ref q_2, .int 0, .int 0, .ref q_3, .ref q_4, .ref q_5, .ref q_6, .ref q_7, .int 0, .int (-1), .ref q_8, .null, .int 0, .int 0, .null])), (q_1, .inl (dC 101, 200, .inr (.inl (fun _ => 0)))), (q_2, .inl (dC 100, 885, .inl (fun _ => 0))), (q_3, .inl (dC 100, 885, .inl (fun _ => 0))), (q_4, .inl (dC 100, 885, .inl (fun _ => 0))), (q_5, .inl (dC 100, 885, .inl (fun _ => 0))), (q_6, .inl (dC 100, 885, .inl (fun _ => 0))), (q_7, .inl (dC 102, 885, .inl (fun _ => 0))), (q_8, .inl (dC 101, 1298, .inr (.inl (fun _ => 0)))), (q_9, .inl (dC 100, 1298, .inl (fun _ => 0)))] H := hP
  have hD : va_D A [(h0, .inr (2, [.null, .null, .ref q_1, .int 1, .ref q_2, .int 0, .int 0, .ref q_3, .ref q_4, .ref q_5, .ref q_6, .ref q_7, .int 0, .int (-1), .ref q_8, .null, .int 0, .int 0, .null])), (q_1, .inl (dC 101, 200, .inr (.inl (fun _ => 0)))), (q_2, .inl (dC 100, 885, .inl (fun _ => 0))), (q_3, .inl (dC 100, 885, .inl (fun _ => 0))), (q_4, .inl (dC 100, 885, .inl (fun _ => 0))), (q_5, .inl (dC 100, 885, .inl (fun _ => 0))), (q_6, .inl (dC 100, 885, .inl (fun _ => 0))), (q_7, .inl (dC 102, 885, .inl (fun _ => 0))), (q_8, .inl (dC 101, 1298, .inr (.inl (fun _ => 0)))), (q_9, .inl (dC 100, 1298, .inl (fun _ => 0)))] := hD
  refine W.widen (k := 9) (n := 8106) (Nat.le_of_ble_eq_true rfl) (Nat.le_of_ble_eq_true rfl) ?_
  refine va_putF (D := (dC, dI)) (ci := 2) (v := .ref q_9) (ty := .array .int) (C := rC_De) (T := fC_De) (N := 19) hx hb hbg iC_De tC_De oC_De nC_De hown hK.1 hP hD hS 0 rfl rfl 15 (by decide) (hbg _ wd_296) (fun _ h9 => h9) rfl hin rfl (by decide +kernel) rfl rfl (Nat.le_of_ble_eq_true rfl) dM_De_init_92 (fun H locs hP hD hS => ?_)
  have hP : va_P (dC, dI) classes [(h0, .inr (2, [.null, .null, .ref q_1, .int 1, .ref q_2, .int 0, .int 0, .ref q_3, .ref q_4, .ref q_5, .ref q_6, .ref q_7, .int 0, .int (-1), .ref q_8, .ref q_9, .int 0, .int 0, .null])), (q_1, .inl (dC 101, 200, .inr (.inl (fun _ => 0)))), (q_2, .inl (dC 100, 885, .inl (fun _ => 0))), (q_3, .inl (dC 100, 885, .inl (fun _ => 0))), (q_4, .inl (dC 100, 885, .inl (fun _ => 0))), (q_5, .inl (dC 100, 885, .inl (fun _ => 0))), (q_6, .inl (dC 100, 885, .inl (fun _ => 0))), (q_7, .inl (dC 102, 885, .inl (fun _ => 0))), (q_8, .inl (dC 101, 1298, .inr (.inl (fun _ => 0)))), (q_9, .inl (dC 100, 1298, .inl (fun _ => 0)))] H := hP
  have hD : va_D A [(h0, .inr (2, [.null, .null, .ref q_1, .int 1, .ref q_2, .int 0, .int 0, .ref q_3, .ref q_4, .ref q_5, .ref q_6, .ref q_7, .int 0, .int (-1), .ref q_8, .ref q_9, .int 0, .int 0, .null])), (q_1, .inl (dC 101, 200, .inr (.inl (fun _ => 0)))), (q_2, .inl (dC 100, 885, .inl (fun _ => 0))), (q_3, .inl (dC 100, 885, .inl (fun _ => 0))), (q_4, .inl (dC 100, 885, .inl (fun _ => 0))), (q_5, .inl (dC 100, 885, .inl (fun _ => 0))), (q_6, .inl (dC 100, 885, .inl (fun _ => 0))), (q_7, .inl (dC 102, 885, .inl (fun _ => 0))), (q_8, .inl (dC 101, 1298, .inr (.inl (fun _ => 0)))), (q_9, .inl (dC 100, 1298, .inl (fun _ => 0)))] := hD
  refine lv_aload_n hx hb dM_De_init_95 rfl (lv_at hl 0 rfl) ?_
  refine lv_sipush (v := 885) hx hb dM_De_init_96 (by decide) ?_
  refine n_newa (atype := .int) (N' := 885) (a0 := (885, .inl (fun _ => 0))) (ty := .int) (n := 885) hx hb (hbg _ wd_169) rfl hK.1 hP hD hS hA 0 rfl (fun _ => rfl) (by decide) (by decide) (Nat.le_of_ble_eq_true rfl) (Nat.le_of_ble_eq_true rfl) (Nat.le_of_ble_eq_true rfl) dM_De_init_99 (fun q_10 H hP hD hS => ?_)
  have hP : va_P (dC, dI) classes [(h0, .inr (2, [.null, .null, .ref q_1, .int 1, .ref q_2, .int 0, .int 0, .ref q_3, .ref q_4, .ref q_5, .ref q_6, .ref q_7, .int 0, .int (-1), .ref q_8, .ref q_9, .int 0, .int 0, .null])), (q_1, .inl (dC 101, 200, .inr (.inl (fun _ => 0)))), (q_2, .inl (dC 100, 885, .inl (fun _ => 0))), (q_3, .inl (dC 100, 885, .inl (fun _ => 0))), (q_4, .inl (dC 100, 885, .inl (fun _ => 0))), (q_5, .inl (dC 100, 885, .inl (fun _ => 0))), (q_6, .inl (dC 100, 885, .inl (fun _ => 0))), (q_7, .inl (dC 102, 885, .inl (fun _ => 0))), (q_8, .inl (dC 101, 1298, .inr (.inl (fun _ => 0)))), (q_9, .inl (dC 100, 1298, .inl (fun _ => 0))), (q_10, .inl (dC 100, 885, .inl (fun _ => 0)))] H := hP
  have hD : va_D A [(h0, .inr (2, [.null, .null, .ref q_1, .int 1, .ref q_2, .int 0, .int 0, .ref q_3, .ref q_4, .ref q_5, .ref q_6, .ref q_7, .int 0, .int (-1), .ref q_8, .ref q_9, .int 0, .int 0, .null])), (q_1, .inl (dC 101, 200, .inr (.inl (fun _ => 0)))), (q_2, .inl (dC 100, 885, .inl (fun _ => 0))), (q_3, .inl (dC 100, 885, .inl (fun _ => 0))), (q_4, .inl (dC 100, 885, .inl (fun _ => 0))), (q_5, .inl (dC 100, 885, .inl (fun _ => 0))), (q_6, .inl (dC 100, 885, .inl (fun _ => 0))), (q_7, .inl (dC 102, 885, .inl (fun _ => 0))), (q_8, .inl (dC 101, 1298, .inr (.inl (fun _ => 0)))), (q_9, .inl (dC 100, 1298, .inl (fun _ => 0))), (q_10, .inl (dC 100, 885, .inl (fun _ => 0)))] := hD
  refine W.widen (k := 10) (n := 8991) (Nat.le_of_ble_eq_true rfl) (Nat.le_of_ble_eq_true rfl) ?_
  refine va_putF (D := (dC, dI)) (ci := 2) (v := .ref q_10) (ty := .array .int) (C := rC_De) (T := fC_De) (N := 19) hx hb hbg iC_De tC_De oC_De nC_De hown hK.1 hP hD hS 0 rfl rfl 18 (by decide) (hbg _ wd_299) (fun _ h9 => h9) rfl hin rfl (by decide +kernel) rfl rfl (Nat.le_of_ble_eq_true rfl) dM_De_init_101 (fun H locs hP hD hS => ?_)
  have hP : va_P (dC, dI) classes [(h0, .inr (2, [.null, .null, .ref q_1, .int 1, .ref q_2, .int 0, .int 0, .ref q_3, .ref q_4, .ref q_5, .ref q_6, .ref q_7, .int 0, .int (-1), .ref q_8, .ref q_9, .int 0, .int 0, .ref q_10])), (q_1, .inl (dC 101, 200, .inr (.inl (fun _ => 0)))), (q_2, .inl (dC 100, 885, .inl (fun _ => 0))), (q_3, .inl (dC 100, 885, .inl (fun _ => 0))), (q_4, .inl (dC 100, 885, .inl (fun _ => 0))), (q_5, .inl (dC 100, 885, .inl (fun _ => 0))), (q_6, .inl (dC 100, 885, .inl (fun _ => 0))), (q_7, .inl (dC 102, 885, .inl (fun _ => 0))), (q_8, .inl (dC 101, 1298, .inr (.inl (fun _ => 0)))), (q_9, .inl (dC 100, 1298, .inl (fun _ => 0))), (q_10, .inl (dC 100, 885, .inl (fun _ => 0)))] H := hP
  have hD : va_D A [(h0, .inr (2, [.null, .null, .ref q_1, .int 1, .ref q_2, .int 0, .int 0, .ref q_3, .ref q_4, .ref q_5, .ref q_6, .ref q_7, .int 0, .int (-1), .ref q_8, .ref q_9, .int 0, .int 0, .ref q_10])), (q_1, .inl (dC 101, 200, .inr (.inl (fun _ => 0)))), (q_2, .inl (dC 100, 885, .inl (fun _ => 0))), (q_3, .inl (dC 100, 885, .inl (fun _ => 0))), (q_4, .inl (dC 100, 885, .inl (fun _ => 0))), (q_5, .inl (dC 100, 885, .inl (fun _ => 0))), (q_6, .inl (dC 100, 885, .inl (fun _ => 0))), (q_7, .inl (dC 102, 885, .inl (fun _ => 0))), (q_8, .inl (dC 101, 1298, .inr (.inl (fun _ => 0)))), (q_9, .inl (dC 100, 1298, .inl (fun _ => 0))), (q_10, .inl (dC 100, 885, .inl (fun _ => 0)))] := hD
  refine lv_aload_n hx hb dM_De_init_104 rfl (lv_at hl 0 rfl) ?_
  refine lv_aload_n hx hb dM_De_init_105 rfl (lv_at hl 1 rfl) ?_
  refine va_putF (D := (dC, dI)) (ci := 2) (v := .ref st) (ty := .object "NoteDocument$State") (C := rC_De) (T := fC_De) (N := 19) hx hb hbg iC_De tC_De oC_De nC_De hown hK.1 hP hD hS 0 rfl rfl 0 (by decide) (hbg _ wd_272) (fun _ h9 => h9) rfl hin rfl (by decide +kernel) rfl rfl (Nat.le_of_ble_eq_true rfl) dM_De_init_106 (fun H locs hP hD hS => ?_)
  have hP : va_P (dC, dI) classes [(h0, .inr (2, [.ref st, .null, .ref q_1, .int 1, .ref q_2, .int 0, .int 0, .ref q_3, .ref q_4, .ref q_5, .ref q_6, .ref q_7, .int 0, .int (-1), .ref q_8, .ref q_9, .int 0, .int 0, .ref q_10])), (q_1, .inl (dC 101, 200, .inr (.inl (fun _ => 0)))), (q_2, .inl (dC 100, 885, .inl (fun _ => 0))), (q_3, .inl (dC 100, 885, .inl (fun _ => 0))), (q_4, .inl (dC 100, 885, .inl (fun _ => 0))), (q_5, .inl (dC 100, 885, .inl (fun _ => 0))), (q_6, .inl (dC 100, 885, .inl (fun _ => 0))), (q_7, .inl (dC 102, 885, .inl (fun _ => 0))), (q_8, .inl (dC 101, 1298, .inr (.inl (fun _ => 0)))), (q_9, .inl (dC 100, 1298, .inl (fun _ => 0))), (q_10, .inl (dC 100, 885, .inl (fun _ => 0)))] H := hP
  have hD : va_D A [(h0, .inr (2, [.ref st, .null, .ref q_1, .int 1, .ref q_2, .int 0, .int 0, .ref q_3, .ref q_4, .ref q_5, .ref q_6, .ref q_7, .int 0, .int (-1), .ref q_8, .ref q_9, .int 0, .int 0, .ref q_10])), (q_1, .inl (dC 101, 200, .inr (.inl (fun _ => 0)))), (q_2, .inl (dC 100, 885, .inl (fun _ => 0))), (q_3, .inl (dC 100, 885, .inl (fun _ => 0))), (q_4, .inl (dC 100, 885, .inl (fun _ => 0))), (q_5, .inl (dC 100, 885, .inl (fun _ => 0))), (q_6, .inl (dC 100, 885, .inl (fun _ => 0))), (q_7, .inl (dC 102, 885, .inl (fun _ => 0))), (q_8, .inl (dC 101, 1298, .inr (.inl (fun _ => 0)))), (q_9, .inl (dC 100, 1298, .inl (fun _ => 0))), (q_10, .inl (dC 100, 885, .inl (fun _ => 0)))] := hD
  refine lv_aload_n hx hb dM_De_init_109 rfl (lv_at hl 0 rfl) ?_
  refine lv_aload_n hx hb dM_De_init_110 rfl (lv_at hl 2 rfl) ?_
  refine va_putF (D := (dC, dI)) (ci := 2) (v := .ref he) (ty := .object "NoteDocument$Heap") (C := rC_De) (T := fC_De) (N := 19) hx hb hbg iC_De tC_De oC_De nC_De hown hK.1 hP hD hS 0 rfl rfl 1 (by decide) (hbg _ wd_275) (fun _ h9 => h9) rfl hin rfl (by decide +kernel) rfl rfl (Nat.le_of_ble_eq_true rfl) dM_De_init_111 (fun H locs hP hD hS => ?_)
  have hP : va_P (dC, dI) classes [(h0, .inr (2, [.ref st, .ref he, .ref q_1, .int 1, .ref q_2, .int 0, .int 0, .ref q_3, .ref q_4, .ref q_5, .ref q_6, .ref q_7, .int 0, .int (-1), .ref q_8, .ref q_9, .int 0, .int 0, .ref q_10])), (q_1, .inl (dC 101, 200, .inr (.inl (fun _ => 0)))), (q_2, .inl (dC 100, 885, .inl (fun _ => 0))), (q_3, .inl (dC 100, 885, .inl (fun _ => 0))), (q_4, .inl (dC 100, 885, .inl (fun _ => 0))), (q_5, .inl (dC 100, 885, .inl (fun _ => 0))), (q_6, .inl (dC 100, 885, .inl (fun _ => 0))), (q_7, .inl (dC 102, 885, .inl (fun _ => 0))), (q_8, .inl (dC 101, 1298, .inr (.inl (fun _ => 0)))), (q_9, .inl (dC 100, 1298, .inl (fun _ => 0))), (q_10, .inl (dC 100, 885, .inl (fun _ => 0)))] H := hP
  have hD : va_D A [(h0, .inr (2, [.ref st, .ref he, .ref q_1, .int 1, .ref q_2, .int 0, .int 0, .ref q_3, .ref q_4, .ref q_5, .ref q_6, .ref q_7, .int 0, .int (-1), .ref q_8, .ref q_9, .int 0, .int 0, .ref q_10])), (q_1, .inl (dC 101, 200, .inr (.inl (fun _ => 0)))), (q_2, .inl (dC 100, 885, .inl (fun _ => 0))), (q_3, .inl (dC 100, 885, .inl (fun _ => 0))), (q_4, .inl (dC 100, 885, .inl (fun _ => 0))), (q_5, .inl (dC 100, 885, .inl (fun _ => 0))), (q_6, .inl (dC 100, 885, .inl (fun _ => 0))), (q_7, .inl (dC 102, 885, .inl (fun _ => 0))), (q_8, .inl (dC 101, 1298, .inr (.inl (fun _ => 0)))), (q_9, .inl (dC 100, 1298, .inl (fun _ => 0))), (q_10, .inl (dC 100, 885, .inl (fun _ => 0)))] := hD
  have hP9 := hP.pick (wc := [(h0, .inr (2, [.ref st, .ref he, .ref q_1, .int 1, .ref q_2, .int 0, .int 0, .ref q_3, .ref q_4, .ref q_5, .ref q_6, .ref q_7, .int 0, .int (-1), .ref q_8, .ref q_9, .int 0, .int 0, .ref q_10])), (q_1, .inl (dC 101, 200, .inr (.inl (fun _ => 0)))), (q_2, .inl (dC 100, 885, .inl (fun _ => 0))), (q_3, .inl (dC 100, 885, .inl (fun _ => 0))), (q_4, .inl (dC 100, 885, .inl (fun _ => 0))), (q_5, .inl (dC 100, 885, .inl (fun _ => 0))), (q_6, .inl (dC 100, 885, .inl (fun _ => 0))), (q_7, .inl (dC 102, 885, .inl (fun _ => 0))), (q_8, .inl (dC 101, 1298, .inr (.inl (fun _ => 0)))), (q_9, .inl (dC 100, 1298, .inl (fun _ => 0))), (q_10, .inl (dC 100, 885, .inl (fun _ => 0)))]) [0, 1, 2, 3, 4, 5, 6, 7, 8, 9, 10] rfl
  have hD9 := hD.sub (ws' := [(h0, .inr (2, [.ref st, .ref he, .ref q_1, .int 1, .ref q_2, .int 0, .int 0, .ref q_3, .ref q_4, .ref q_5, .ref q_6, .ref q_7, .int 0, .int (-1), .ref q_8, .ref q_9, .int 0, .int 0, .ref q_10])), (q_1, .inl (dC 101, 200, .inr (.inl (fun _ => 0)))), (q_2, .inl (dC 100, 885, .inl (fun _ => 0))), (q_3, .inl (dC 100, 885, .inl (fun _ => 0))), (q_4, .inl (dC 100, 885, .inl (fun _ => 0))), (q_5, .inl (dC 100, 885, .inl (fun _ => 0))), (q_6, .inl (dC 100, 885, .inl (fun _ => 0))), (q_7, .inl (dC 102, 885, .inl (fun _ => 0))), (q_8, .inl (dC 101, 1298, .inr (.inl (fun _ => 0)))), (q_9, .inl (dC 100, 1298, .inl (fun _ => 0))), (q_10, .inl (dC 100, 885, .inl (fun _ => 0)))]) [0, 1, 2, 3, 4, 5, 6, 7, 8, 9, 10] (by decide) rfl
  exact W.vret hx hb hr (fun t ht hW => ⟨⟨(), rfl, trivial, ⟨q_1, q_2, q_3, q_4, q_5, q_6, q_7, q_8, q_9, q_10, (fun _ => 0), (fun _ => 0), (fun _ => 0), (fun _ => 0), (fun _ => 0), (fun _ => 0), (fun _ => 0), (fun _ => 0), (fun _ => 0), (fun _ => 0), (by rw [ht]; exact hP9), hD9⟩⟩, hS.F ht⟩) hS.2.2 dM_De_init_114
set_option maxHeartbeats 4000000 in
set_option maxRecDepth 100000 in
theorem c_Te_init (l : Launch) (dC : Nat → ClassId) (dI : Nat → Nat → Nat) (h0 : Nat) (he : Nat) (sz : Nat) : Met l yM_Te_init (wm yM_Te_init cM_Te_init 2 none) ({ frames := 40, cells := 0, slots := 0, locals := 800 }) (nPc [.ref h0, .ref he] (dC, dI) [(h0, .inr (9, [.null, .int 0, .int 0]))] sz) (va_Qv (fun (_ : Unit) => True) (fun (_ : Unit) t => nB (dC, dI) (va_A [(h0, .inr (9, [.null, .int 0, .int 0]))] sz) [(h0, .inr (9, [.ref he, .int 0, .int 0]))] t) (va_A [(h0, .inr (9, [.null, .int 0, .int 0]))] sz)) 0 0 (va_A [(h0, .inr (9, [.null, .int 0, .int 0]))] sz) := by
  refine Met.ofW (cc := cM_Te_init) (maxL := 2) (ret := none) (by decide) rfl ?_
  intro p e s m args below meth c s₁ B hml hv
  obtain ⟨rfl, hsz, hP, hD0, hK, hN⟩ := hv
  have hx := B.exec
  have hb := B.bytes
  have hr := B.returns
  have hbg : ∀ w ∈ BIG, w.before ([.ref h0, .ref he] : List Value).toArray s = true := fun w h => atoms_spec (ws := (wm yM_Te_init cM_Te_init 2 none)) B.pre w (List.mem_cons_of_mem _ h)
  have hown : s.vm.findClass "NoteDocument$Text" = some m.cls := findClass_of_methodNamed B.named
  have hlocks := B.notSynchronized
  have hin : meth.name = "<init>" := (name_of_methodNamed B.named B.method).1
  subst hsz
  have hD := hD0.self (sz := s.heap.size)
  generalize hAe : va_A [(h0, .inr (9, [.null, .int 0, .int 0]))] s.heap.size = A at hD hN ⊢
  have hA : ∀ q : Nat, s.heap.size ≤ q → A q := fun q h => by rw [← hAe]; exact Or.inr h
  have hS : va_S A s.heap s.heap [] := va_S.rf
  have hP : va_P (dC, dI) classes [(h0, .inr (9, [.null, .int 0, .int 0]))] s.heap := hP
  have hl := lv_entry ([.ref h0, .ref he] : List Value) (n := 2) (Nat.le_of_ble_eq_true rfl)
  rw [lg_entry_eq]
  generalize (lg_sl ([.ref h0, .ref he] : List Value) ++ List.replicate (2 - (lg_sl ([.ref h0, .ref he] : List Value)).length) Slot.unset).toArray = ls at hl ⊢
  have hl : lv_has ls 2 [(0, .ref h0), (1, .ref he)] := hl
  refine lv_aload_n hx hb dM_Te_init_0 rfl (lv_at hl 0 rfl) ?_
  refine W.objInit hx hb hown (hbg _ wd_352) (hbg _ wd_43) (hbg _ wd_44) rfl (by rw [hml]; exact hl.1) rfl dM_Te_init_1 (Nat.le_of_ble_eq_true rfl) (Nat.le_of_ble_eq_true rfl) ?_
  refine W.eq (g2 := F0 m 4 ls []) rfl ?_
  refine lv_aload_n hx hb dM_Te_init_4 rfl (lv_at hl 0 rfl) ?_
  refine lv_aload_n hx hb dM_Te_init_5 rfl (lv_at hl 1 rfl) ?_
  refine va_putF (D := (dC, dI)) (ci := 9) (v := .ref he) (ty := .object "NoteDocument$Heap") (C := rC_Te) (T := fC_Te) (N := 3) hx hb hbg iC_Te tC_Te oC_Te nC_Te hown hK.1 hP hD hS 0 rfl rfl 0 (by decide) (hbg _ wd_353) (fun _ h9 => h9) rfl hin rfl (by decide +kernel) rfl rfl (Nat.le_of_ble_eq_true rfl) dM_Te_init_6 (fun H locs hP hD hS => ?_)
  have hP : va_P (dC, dI) classes [(h0, .inr (9, [.ref he, .int 0, .int 0]))] H := hP
  have hD : va_D A [(h0, .inr (9, [.ref he, .int 0, .int 0]))] := hD
  have hP9 := hP.pick (wc := [(h0, .inr (9, [.ref he, .int 0, .int 0]))]) [0] rfl
  have hD9 := hD.sub (ws' := [(h0, .inr (9, [.ref he, .int 0, .int 0]))]) [0] (by decide) rfl
  exact W.vret hx hb hr (fun t ht hW => ⟨⟨(), rfl, trivial, ⟨(by rw [ht]; exact hP9), hD9⟩⟩, hS.F ht⟩) hS.2.2 dM_Te_init_9
set_option maxHeartbeats 4000000 in
set_option maxRecDepth 100000 in
theorem c_Ru_init (l : Launch) (dC : Nat → ClassId) (dI : Nat → Nat → Nat) (h0 : Nat) (de : Nat) (no : Nat) (ch : Nat) (st : Nat) (he : Nat) (x2 : Value) (x3 : Value) (x4 : Value) (x5 : Value) (x6 : Value) (x7 : Value) (x8 : Value) (x9 : Value) (x10 : Value) (x11 : Value) (x12 : Value) (x13 : Value) (x14 : Value) (x15 : Value) (x16 : Value) (x17 : Value) (x18 : Value) (sz : Nat) : Met l yM_Ru_init (wm yM_Ru_init cM_Ru_init 4 none) ({ frames := 60, cells := 1, slots := 3, locals := 1200 }) (nPc [.ref h0, .ref de, .ref no, .ref ch] (dC, dI) [(h0, .inr (7, [.null, .null, .null, .null, .null, .null, .int 0, .int 0])), (de, .inr (2, [.ref st, .ref he, x2, x3, x4, x5, x6, x7, x8, x9, x10, x11, x12, x13, x14, x15, x16, x17, x18]))] sz) (va_Qv (fun (_ : Unit) => True) (fun (_ : Unit) t => nB (dC, dI) (va_A [(h0, .inr (7, [.null, .null, .null, .null, .null, .null, .int 0, .int 0])), (de, .inr (2, [.ref st, .ref he, x2, x3, x4, x5, x6, x7, x8, x9, x10, x11, x12, x13, x14, x15, x16, x17, x18]))] sz) [(de, .inr (2, [.ref st, .ref he, x2, x3, x4, x5, x6, x7, x8, x9, x10, x11, x12, x13, x14, x15, x16, x17, x18]))] t) (va_A [(h0, .inr (7, [.null, .null, .null, .null, .null, .null, .int 0, .int 0])), (de, .inr (2, [.ref st, .ref he, x2, x3, x4, x5, x6, x7, x8, x9, x10, x11, x12, x13, x14, x15, x16, x17, x18]))] sz)) 1 3 (va_A [(h0, .inr (7, [.null, .null, .null, .null, .null, .null, .int 0, .int 0])), (de, .inr (2, [.ref st, .ref he, x2, x3, x4, x5, x6, x7, x8, x9, x10, x11, x12, x13, x14, x15, x16, x17, x18]))] sz) := by
  refine Met.ofW (cc := cM_Ru_init) (maxL := 4) (ret := none) (by decide) rfl ?_
  intro p e s m args below meth c s₁ B hml hv
  obtain ⟨rfl, hsz, hP, hD0, hK, hN⟩ := hv
  have hx := B.exec
  have hb := B.bytes
  have hr := B.returns
  have hbg : ∀ w ∈ BIG, w.before ([.ref h0, .ref de, .ref no, .ref ch] : List Value).toArray s = true := fun w h => atoms_spec (ws := (wm yM_Ru_init cM_Ru_init 4 none)) B.pre w (List.mem_cons_of_mem _ h)
  have hown : s.vm.findClass "NoteDocument$Runne\x72" = some m.cls := findClass_of_methodNamed B.named
  have hlocks := B.notSynchronized
  have hin : meth.name = "<init>" := (name_of_methodNamed B.named B.method).1
  subst hsz
  have hD := hD0.self (sz := s.heap.size)
  generalize hAe : va_A [(h0, .inr (7, [.null, .null, .null, .null, .null, .null, .int 0, .int 0])), (de, .inr (2, [.ref st, .ref he, x2, x3, x4, x5, x6, x7, x8, x9, x10, x11, x12, x13, x14, x15, x16, x17, x18]))] s.heap.size = A at hD hN ⊢
  have hA : ∀ q : Nat, s.heap.size ≤ q → A q := fun q h => by rw [← hAe]; exact Or.inr h
  have hS : va_S A s.heap s.heap [] := va_S.rf
  have hP : va_P (dC, dI) classes [(h0, .inr (7, [.null, .null, .null, .null, .null, .null, .int 0, .int 0])), (de, .inr (2, [.ref st, .ref he, x2, x3, x4, x5, x6, x7, x8, x9, x10, x11, x12, x13, x14, x15, x16, x17, x18]))] s.heap := hP
  have hl := lv_entry ([.ref h0, .ref de, .ref no, .ref ch] : List Value) (n := 4) (Nat.le_of_ble_eq_true rfl)
  rw [lg_entry_eq]
  generalize (lg_sl ([.ref h0, .ref de, .ref no, .ref ch] : List Value) ++ List.replicate (4 - (lg_sl ([.ref h0, .ref de, .ref no, .ref ch] : List Value)).length) Slot.unset).toArray = ls at hl ⊢
  have hl : lv_has ls 4 [(0, .ref h0), (1, .ref de), (2, .ref no), (3, .ref ch)] := hl
  refine lv_aload_n hx hb dM_Ru_init_0 rfl (lv_at hl 0 rfl) ?_
  refine W.objInit hx hb hown (hbg _ wd_346) (hbg _ wd_43) (hbg _ wd_44) rfl (by rw [hml]; exact hl.1) rfl dM_Ru_init_1 (Nat.le_of_ble_eq_true rfl) (Nat.le_of_ble_eq_true rfl) ?_
  refine W.eq (g2 := F0 m 4 ls []) rfl ?_
  refine lv_aload_n hx hb dM_Ru_init_4 rfl (lv_at hl 0 rfl) ?_
  refine lv_iconst (v := (-1)) hx hb dM_Ru_init_5 (by decide) ?_
  refine va_put (D := (dC, dI)) (ci := 7) (v := .int (-1)) (ty := .int) (C := rC_Ru) (T := fC_Ru) (N := 8) hx hb hbg iC_Ru tC_Ru oC_Ru nC_Ru hown hK.1 hP hD hS 0 rfl rfl 6 (by decide) (hbg _ wd_369) (fun _ h9 => h9) rfl (by decide +kernel) rfl rfl (Nat.le_of_ble_eq_true rfl) dM_Ru_init_6 (fun H locs hP hD hS => ?_)
  have hP : va_P (dC, dI) classes [(h0, .inr (7, [.null, .null, .null, .null, .null, .null, .int (-1), .int 0])), (de, .inr (2, [.ref st, .ref he, x2, x3, x4, x5, x6, x7, x8, x9, x10, x11, x12, x13, x14, x15, x16, x17, x18]))] H := hP
  have hD : va_D A [(h0, .inr (7, [.null, .null, .null, .null, .null, .null, .int (-1), .int 0])), (de, .inr (2, [.ref st, .ref he, x2, x3, x4, x5, x6, x7, x8, x9, x10, x11, x12, x13, x14, x15, x16, x17, x18]))] := hD
  refine lv_aload_n hx hb dM_Ru_init_9 rfl (lv_at hl 0 rfl) ?_
  refine lv_iconst (v := (-1)) hx hb dM_Ru_init_10 (by decide) ?_
  refine va_put (D := (dC, dI)) (ci := 7) (v := .int (-1)) (ty := .int) (C := rC_Ru) (T := fC_Ru) (N := 8) hx hb hbg iC_Ru tC_Ru oC_Ru nC_Ru hown hK.1 hP hD hS 0 rfl rfl 7 (by decide) (hbg _ wd_370) (fun _ h9 => h9) rfl (by decide +kernel) rfl rfl (Nat.le_of_ble_eq_true rfl) dM_Ru_init_11 (fun H locs hP hD hS => ?_)
  have hP : va_P (dC, dI) classes [(h0, .inr (7, [.null, .null, .null, .null, .null, .null, .int (-1), .int (-1)])), (de, .inr (2, [.ref st, .ref he, x2, x3, x4, x5, x6, x7, x8, x9, x10, x11, x12, x13, x14, x15, x16, x17, x18]))] H := hP
  have hD : va_D A [(h0, .inr (7, [.null, .null, .null, .null, .null, .null, .int (-1), .int (-1)])), (de, .inr (2, [.ref st, .ref he, x2, x3, x4, x5, x6, x7, x8, x9, x10, x11, x12, x13, x14, x15, x16, x17, x18]))] := hD
  refine lv_aload_n hx hb dM_Ru_init_14 rfl (lv_at hl 0 rfl) ?_
  refine lv_aload_n hx hb dM_Ru_init_15 rfl (lv_at hl 1 rfl) ?_
  refine va_putF (D := (dC, dI)) (ci := 7) (v := .ref de) (ty := .object "NoteDocument$Desk") (C := rC_Ru) (T := fC_Ru) (N := 8) hx hb hbg iC_Ru tC_Ru oC_Ru nC_Ru hown hK.1 hP hD hS 0 rfl rfl 0 (by decide) (hbg _ wd_363) (fun _ h9 => h9) rfl hin rfl (by decide +kernel) rfl rfl (Nat.le_of_ble_eq_true rfl) dM_Ru_init_16 (fun H locs hP hD hS => ?_)
  have hP : va_P (dC, dI) classes [(h0, .inr (7, [.ref de, .null, .null, .null, .null, .null, .int (-1), .int (-1)])), (de, .inr (2, [.ref st, .ref he, x2, x3, x4, x5, x6, x7, x8, x9, x10, x11, x12, x13, x14, x15, x16, x17, x18]))] H := hP
  have hD : va_D A [(h0, .inr (7, [.ref de, .null, .null, .null, .null, .null, .int (-1), .int (-1)])), (de, .inr (2, [.ref st, .ref he, x2, x3, x4, x5, x6, x7, x8, x9, x10, x11, x12, x13, x14, x15, x16, x17, x18]))] := hD
  refine lv_aload_n hx hb dM_Ru_init_19 rfl (lv_at hl 0 rfl) ?_
  refine lv_aload_n hx hb dM_Ru_init_20 rfl (lv_at hl 1 rfl) ?_
  refine va_get (D := (dC, dI)) (ci := 2) (v := .ref st) (C := rC_De) (T := fC_De) (N := 19) hx hb hbg iC_De hown hK.1 hP 1 rfl rfl 0 (by decide) (hbg _ wd_270) (fun _ h9 => h9) rfl dM_Ru_init_21 ?_
  refine va_putF (D := (dC, dI)) (ci := 7) (v := .ref st) (ty := .object "NoteDocument$State") (C := rC_Ru) (T := fC_Ru) (N := 8) hx hb hbg iC_Ru tC_Ru oC_Ru nC_Ru hown hK.1 hP hD hS 0 rfl rfl 1 (by decide) (hbg _ wd_364) (fun _ h9 => h9) rfl hin rfl (by decide +kernel) rfl rfl (Nat.le_of_ble_eq_true rfl) dM_Ru_init_24 (fun H locs hP hD hS => ?_)
  have hP : va_P (dC, dI) classes [(h0, .inr (7, [.ref de, .ref st, .null, .null, .null, .null, .int (-1), .int (-1)])), (de, .inr (2, [.ref st, .ref he, x2, x3, x4, x5, x6, x7, x8, x9, x10, x11, x12, x13, x14, x15, x16, x17, x18]))] H := hP
  have hD : va_D A [(h0, .inr (7, [.ref de, .ref st, .null, .null, .null, .null, .int (-1), .int (-1)])), (de, .inr (2, [.ref st, .ref he, x2, x3, x4, x5, x6, x7, x8, x9, x10, x11, x12, x13, x14, x15, x16, x17, x18]))] := hD
  refine lv_aload_n hx hb dM_Ru_init_27 rfl (lv_at hl 0 rfl) ?_
  refine lv_aload_n hx hb dM_Ru_init_28 rfl (lv_at hl 1 rfl) ?_
  refine va_get (D := (dC, dI)) (ci := 2) (v := .ref he) (C := rC_De) (T := fC_De) (N := 19) hx hb hbg iC_De hown hK.1 hP 1 rfl rfl 1 (by decide) (hbg _ wd_273) (fun _ h9 => h9) rfl dM_Ru_init_29 ?_
  refine va_putF (D := (dC, dI)) (ci := 7) (v := .ref he) (ty := .object "NoteDocument$Heap") (C := rC_Ru) (T := fC_Ru) (N := 8) hx hb hbg iC_Ru tC_Ru oC_Ru nC_Ru hown hK.1 hP hD hS 0 rfl rfl 2 (by decide) (hbg _ wd_365) (fun _ h9 => h9) rfl hin rfl (by decide +kernel) rfl rfl (Nat.le_of_ble_eq_true rfl) dM_Ru_init_32 (fun H locs hP hD hS => ?_)
  have hP : va_P (dC, dI) classes [(h0, .inr (7, [.ref de, .ref st, .ref he, .null, .null, .null, .int (-1), .int (-1)])), (de, .inr (2, [.ref st, .ref he, x2, x3, x4, x5, x6, x7, x8, x9, x10, x11, x12, x13, x14, x15, x16, x17, x18]))] H := hP
  have hD : va_D A [(h0, .inr (7, [.ref de, .ref st, .ref he, .null, .null, .null, .int (-1), .int (-1)])), (de, .inr (2, [.ref st, .ref he, x2, x3, x4, x5, x6, x7, x8, x9, x10, x11, x12, x13, x14, x15, x16, x17, x18]))] := hD
  refine lv_aload_n hx hb dM_Ru_init_35 rfl (lv_at hl 0 rfl) ?_
  refine lv_aload_n hx hb dM_Ru_init_36 rfl (lv_at hl 2 rfl) ?_
  refine va_putF (D := (dC, dI)) (ci := 7) (v := .ref no) (ty := .object "NoteDocument$Nodes") (C := rC_Ru) (T := fC_Ru) (N := 8) hx hb hbg iC_Ru tC_Ru oC_Ru nC_Ru hown hK.1 hP hD hS 0 rfl rfl 3 (by decide) (hbg _ wd_366) (fun _ h9 => h9) rfl hin rfl (by decide +kernel) rfl rfl (Nat.le_of_ble_eq_true rfl) dM_Ru_init_37 (fun H locs hP hD hS => ?_)
  have hP : va_P (dC, dI) classes [(h0, .inr (7, [.ref de, .ref st, .ref he, .ref no, .null, .null, .int (-1), .int (-1)])), (de, .inr (2, [.ref st, .ref he, x2, x3, x4, x5, x6, x7, x8, x9, x10, x11, x12, x13, x14, x15, x16, x17, x18]))] H := hP
  have hD : va_D A [(h0, .inr (7, [.ref de, .ref st, .ref he, .ref no, .null, .null, .int (-1), .int (-1)])), (de, .inr (2, [.ref st, .ref he, x2, x3, x4, x5, x6, x7, x8, x9, x10, x11, x12, x13, x14, x15, x16, x17, x18]))] := hD
  refine lv_aload_n hx hb dM_Ru_init_40 rfl (lv_at hl 0 rfl) ?_
  refine lv_aload_n hx hb dM_Ru_init_41 rfl (lv_at hl 3 rfl) ?_
  refine va_putF (D := (dC, dI)) (ci := 7) (v := .ref ch) (ty := .object "NoteDocument$Chains") (C := rC_Ru) (T := fC_Ru) (N := 8) hx hb hbg iC_Ru tC_Ru oC_Ru nC_Ru hown hK.1 hP hD hS 0 rfl rfl 4 (by decide) (hbg _ wd_367) (fun _ h9 => h9) rfl hin rfl (by decide +kernel) rfl rfl (Nat.le_of_ble_eq_true rfl) dM_Ru_init_42 (fun H locs hP hD hS => ?_)
  have hP : va_P (dC, dI) classes [(h0, .inr (7, [.ref de, .ref st, .ref he, .ref no, .ref ch, .null, .int (-1), .int (-1)])), (de, .inr (2, [.ref st, .ref he, x2, x3, x4, x5, x6, x7, x8, x9, x10, x11, x12, x13, x14, x15, x16, x17, x18]))] H := hP
  have hD : va_D A [(h0, .inr (7, [.ref de, .ref st, .ref he, .ref no, .ref ch, .null, .int (-1), .int (-1)])), (de, .inr (2, [.ref st, .ref he, x2, x3, x4, x5, x6, x7, x8, x9, x10, x11, x12, x13, x14, x15, x16, x17, x18]))] := hD
  refine lv_aload_n hx hb dM_Ru_init_45 rfl (lv_at hl 0 rfl) ?_
  refine va_new (ci := 9) (fs := [.null, .int 0, .int 0]) (C := rC_Te) (T := fC_Te) (N := 3) hx hb hbg iC_Te tC_Te oC_Te hown (hbg _ wd_347) (hbg _ wd_348) (hbg _ wd_10) hK.1 hP hD hS hA rfl (n_dflt_Te) (Nat.le_of_ble_eq_true rfl) (Nat.le_of_ble_eq_true rfl) dM_Ru_init_46 (fun q_1 H hP hD hS => ?_)
  have hP : va_P (dC, dI) classes [(h0, .inr (7, [.ref de, .ref st, .ref he, .ref no, .ref ch, .null, .int (-1), .int (-1)])), (de, .inr (2, [.ref st, .ref he, x2, x3, x4, x5, x6, x7, x8, x9, x10, x11, x12, x13, x14, x15, x16, x17, x18])), (q_1, .inr (9, [.null, .int 0, .int 0]))] H := hP
  have hD : va_D A [(h0, .inr (7, [.ref de, .ref st, .ref he, .ref no, .ref ch, .null, .int (-1), .int (-1)])), (de, .inr (2, [.ref st, .ref he, x2, x3, x4, x5, x6, x7, x8, x9, x10, x11, x12, x13, x14, x15, x16, x17, x18])), (q_1, .inr (9, [.null, .int 0, .int 0]))] := hD
  refine W.widen (k := 1) (n := 3) (Nat.le_of_ble_eq_true rfl) (Nat.le_of_ble_eq_true rfl) ?_
  refine lv_dup hx hb dM_Ru_init_49 rfl ?_
  refine lv_aload_n hx hb dM_Ru_init_50 rfl (lv_at hl 1 rfl) ?_
  refine va_get (D := (dC, dI)) (ci := 2) (v := .ref he) (C := rC_De) (T := fC_De) (N := 19) hx hb hbg iC_De hown hK.1 hP 1 rfl rfl 1 (by decide) (hbg _ wd_273) (fun _ h9 => h9) rfl dM_Ru_init_51 ?_
  have hFc := va_free (wc := [(q_1, .inr (9, [.null, .int 0, .int 0]))]) hD hS hA [2] rfl
  refine va_callv (va_runI (As := [.ref he]) (rest := [.ref q_1, .ref h0]) ⟨hx, hb, hml, hown, hbg⟩ (c_Te_init l dC dI q_1 he _ ) (cwI 1 hbg (gd_wm (fun _ h => h) wd_351) rfl rfl rfl (hbg _ wd_10) (hbg _ wd_349) (hbg _ wd_350) rfl (by decide +kernel) ⟨Nat.le_of_ble_eq_true rfl, Nat.le_of_ble_eq_true rfl⟩) (nPreS [2] hP hD hK hN hS hA (by decide) rfl) rfl rfl hl.1 rfl (lv_room (Nat.le_of_ble_eq_true rfl)) dM_Ru_init_54 ⟨Nat.le_of_ble_eq_true rfl, Nat.le_of_ble_eq_true rfl⟩) hS (fun q _ h => hFc q h) hFc (fun u t H1 locs ht hvm hw hB hz1 hk1 hS => ?_)
  obtain ⟨hP1, hD1⟩ := hB
  rw [ht] at hP1
  obtain ⟨hP, hD⟩ := va_join (wr := [(h0, .inr (7, [.ref de, .ref st, .ref he, .ref no, .ref ch, .null, .int (-1), .int (-1)])), (de, .inr (2, [.ref st, .ref he, x2, x3, x4, x5, x6, x7, x8, x9, x10, x11, x12, x13, x14, x15, x16, x17, x18]))]) (w1 := [(q_1, .inr (9, [.ref he, .int 0, .int 0]))]) hP hD [2] [0, 1] rfl rfl (by decide) (by decide) hk1 hFc hP1 hD1
  generalize H1 = H at hP hS ⊢
  have hP : va_P (dC, dI) classes [(h0, .inr (7, [.ref de, .ref st, .ref he, .ref no, .ref ch, .null, .int (-1), .int (-1)])), (de, .inr (2, [.ref st, .ref he, x2, x3, x4, x5, x6, x7, x8, x9, x10, x11, x12, x13, x14, x15, x16, x17, x18])), (q_1, .inr (9, [.ref he, .int 0, .int 0]))] H := hP
  have hD : va_D A [(h0, .inr (7, [.ref de, .ref st, .ref he, .ref no, .ref ch, .null, .int (-1), .int (-1)])), (de, .inr (2, [.ref st, .ref he, x2, x3, x4, x5, x6, x7, x8, x9, x10, x11, x12, x13, x14, x15, x16, x17, x18])), (q_1, .inr (9, [.ref he, .int 0, .int 0]))] := hD
  refine W.widen (k := 1) (n := 3) (Nat.le_of_ble_eq_true rfl) (Nat.le_of_ble_eq_true rfl) ?_
  refine va_putF (D := (dC, dI)) (ci := 7) (v := .ref q_1) (ty := .object "NoteDocument$Text") (C := rC_Ru) (T := fC_Ru) (N := 8) hx hb hbg iC_Ru tC_Ru oC_Ru nC_Ru hown hK.1 hP hD hS 0 rfl rfl 5 (by decide) (hbg _ wd_368) (fun _ h9 => h9) rfl hin rfl (by decide +kernel) rfl rfl (Nat.le_of_ble_eq_true rfl) dM_Ru_init_57 (fun H locs hP hD hS => ?_)
  have hP : va_P (dC, dI) classes [(h0, .inr (7, [.ref de, .ref st, .ref he, .ref no, .ref ch, .ref q_1, .int (-1), .int (-1)])), (de, .inr (2, [.ref st, .ref he, x2, x3, x4, x5, x6, x7, x8, x9, x10, x11, x12, x13, x14, x15, x16, x17, x18])), (q_1, .inr (9, [.ref he, .int 0, .int 0]))] H := hP
  have hD : va_D A [(h0, .inr (7, [.ref de, .ref st, .ref he, .ref no, .ref ch, .ref q_1, .int (-1), .int (-1)])), (de, .inr (2, [.ref st, .ref he, x2, x3, x4, x5, x6, x7, x8, x9, x10, x11, x12, x13, x14, x15, x16, x17, x18])), (q_1, .inr (9, [.ref he, .int 0, .int 0]))] := hD
  have hP9 := hP.pick (wc := [(de, .inr (2, [.ref st, .ref he, x2, x3, x4, x5, x6, x7, x8, x9, x10, x11, x12, x13, x14, x15, x16, x17, x18]))]) [1] rfl
  have hD9 := hD.sub (ws' := [(de, .inr (2, [.ref st, .ref he, x2, x3, x4, x5, x6, x7, x8, x9, x10, x11, x12, x13, x14, x15, x16, x17, x18]))]) [1] (by decide) rfl
  exact W.vret hx hb hr (fun t ht hW => ⟨⟨(), rfl, trivial, ⟨(by rw [ht]; exact hP9), hD9⟩⟩, hS.F ht⟩) hS.2.2 dM_Ru_init_60
set_option maxHeartbeats 4000000 in
set_option maxRecDepth 100000 in
theorem c_Fi_init (l : Launch) (dC : Nat → ClassId) (dI : Nat → Nat → Nat) (h0 : Nat) (de : Nat) (ru : Nat) (st : Nat) (he : Nat) (x2 : Value) (x3 : Value) (x4 : Value) (x5 : Value) (x6 : Value) (x7 : Value) (x8 : Value) (x9 : Value) (x10 : Value) (x11 : Value) (x12 : Value) (x13 : Value) (x14 : Value) (x15 : Value) (x16 : Value) (x17 : Value) (x18 : Value) (sz : Nat) : Met l yM_Fi_init (wm yM_Fi_init cM_Fi_init 3 none) ({ frames := 60, cells := 3, slots := 2655, locals := 1200 }) (nPc [.ref h0, .ref de, .ref ru] (dC, dI) [(h0, .inr (3, [.null, .null, .null, .null, .null, .null, .int 0, .null, .int 0, .int 0, .int 0, .int 0, .int 0, .int 0])), (de, .inr (2, [.ref st, .ref he, x2, x3, x4, x5, x6, x7, x8, x9, x10, x11, x12, x13, x14, x15, x16, x17, x18]))] sz) (va_Qv (fun (_ : Unit) => True) (fun (_ : Unit) t => ∃ (a_stack : Nat), ∃ (a_at : Nat), ∃ (a_pending : Nat), nB (dC, dI) (va_A [(h0, .inr (3, [.null, .null, .null, .null, .null, .null, .int 0, .null, .int 0, .int 0, .int 0, .int 0, .int 0, .int 0])), (de, .inr (2, [.ref st, .ref he, x2, x3, x4, x5, x6, x7, x8, x9, x10, x11, x12, x13, x14, x15, x16, x17, x18]))] sz) [(h0, .inr (3, [.ref de, .ref he, .ref st, .ref ru, .ref a_stack, .ref a_at, .int 0, .ref a_pending, .int 0, .int 0, .int 0, .int 0, .int 0, .int 0])), (de, .inr (2, [.ref st, .ref he, x2, x3, x4, x5, x6, x7, x8, x9, x10, x11, x12, x13, x14, x15, x16, x17, x18]))] t) (va_A [(h0, .inr (3, [.null, .null, .null, .null, .null, .null, .int 0, .null, .int 0, .int 0, .int 0, .int 0, .int 0, .int 0])), (de, .inr (2, [.ref st, .ref he, x2, x3, x4, x5, x6, x7, x8, x9, x10, x11, x12, x13, x14, x15, x16, x17, x18]))] sz)) 3 2655 (va_A [(h0, .inr (3, [.null, .null, .null, .null, .null, .null, .int 0, .null, .int 0, .int 0, .int 0, .int 0, .int 0, .int 0])), (de, .inr (2, [.ref st, .ref he, x2, x3, x4, x5, x6, x7, x8, x9, x10, x11, x12, x13, x14, x15, x16, x17, x18]))] sz) := by
  refine Met.ofW (cc := cM_Fi_init) (maxL := 3) (ret := none) (by decide) rfl ?_
  intro p e s m args below meth c s₁ B hml hv
  obtain ⟨rfl, hsz, hP, hD0, hK, hN⟩ := hv
  have hx := B.exec
  have hb := B.bytes
  have hr := B.returns
  have hbg : ∀ w ∈ BIG, w.before ([.ref h0, .ref de, .ref ru] : List Value).toArray s = true := fun w h => atoms_spec (ws := (wm yM_Fi_init cM_Fi_init 3 none)) B.pre w (List.mem_cons_of_mem _ h)
  have hown : s.vm.findClass "NoteDocument$Finde\x72" = some m.cls := findClass_of_methodNamed B.named
  have hlocks := B.notSynchronized
  have hin : meth.name = "<init>" := (name_of_methodNamed B.named B.method).1
  subst hsz
  have hD := hD0.self (sz := s.heap.size)
  generalize hAe : va_A [(h0, .inr (3, [.null, .null, .null, .null, .null, .null, .int 0, .null, .int 0, .int 0, .int 0, .int 0, .int 0, .int 0])), (de, .inr (2, [.ref st, .ref he, x2, x3, x4, x5, x6, x7, x8, x9, x10, x11, x12, x13, x14, x15, x16, x17, x18]))] s.heap.size = A at hD hN ⊢
  have hA : ∀ q : Nat, s.heap.size ≤ q → A q := fun q h => by rw [← hAe]; exact Or.inr h
  have hS : va_S A s.heap s.heap [] := va_S.rf
  have hP : va_P (dC, dI) classes [(h0, .inr (3, [.null, .null, .null, .null, .null, .null, .int 0, .null, .int 0, .int 0, .int 0, .int 0, .int 0, .int 0])), (de, .inr (2, [.ref st, .ref he, x2, x3, x4, x5, x6, x7, x8, x9, x10, x11, x12, x13, x14, x15, x16, x17, x18]))] s.heap := hP
  have hl := lv_entry ([.ref h0, .ref de, .ref ru] : List Value) (n := 3) (Nat.le_of_ble_eq_true rfl)
  rw [lg_entry_eq]
  generalize (lg_sl ([.ref h0, .ref de, .ref ru] : List Value) ++ List.replicate (3 - (lg_sl ([.ref h0, .ref de, .ref ru] : List Value)).length) Slot.unset).toArray = ls at hl ⊢
  have hl : lv_has ls 3 [(0, .ref h0), (1, .ref de), (2, .ref ru)] := hl
  refine lv_aload_n hx hb dM_Fi_init_0 rfl (lv_at hl 0 rfl) ?_
  refine W.objInit hx hb hown (hbg _ wd_391) (hbg _ wd_43) (hbg _ wd_44) rfl (by rw [hml]; exact hl.1) rfl dM_Fi_init_1 (Nat.le_of_ble_eq_true rfl) (Nat.le_of_ble_eq_true rfl) ?_
  refine W.eq (g2 := F0 m 4 ls []) rfl ?_
  refine lv_aload_n hx hb dM_Fi_init_4 rfl (lv_at hl 0 rfl) ?_
  refine lv_sipush (v := 885) hx hb dM_Fi_init_5 (by decide) ?_
  refine n_newa (atype := .int) (N' := 885) (a0 := (885, .inl (fun _ => 0))) (ty := .int) (n := 885) hx hb (hbg _ wd_169) rfl hK.1 hP hD hS hA 0 rfl (fun _ => rfl) (by decide) (by decide) (Nat.le_of_ble_eq_true rfl) (Nat.le_of_ble_eq_true rfl) (Nat.le_of_ble_eq_true rfl) dM_Fi_init_8 (fun q_1 H hP hD hS => ?_)
  have hP : va_P (dC, dI) classes [(h0, .inr (3, [.null, .null, .null, .null, .null, .null, .int 0, .null, .int 0, .int 0, .int 0, .int 0, .int 0, .int 0])), (de, .inr (2, [.ref st, .ref he, x2, x3, x4, x5, x6, x7, x8, x9, x10, x11, x12, x13, x14, x15, x16, x17, x18])), (q_1, .inl (dC 100, 885, .inl (fun _ => 0)))] H := hP
  have hD : va_D A [(h0, .inr (3, [.null, .null, .null, .null, .null, .null, .int 0, .null, .int 0, .int 0, .int 0, .int 0, .int 0, .int 0])), (de, .inr (2, [.ref st, .ref he, x2, x3, x4, x5, x6, x7, x8, x9, x10, x11, x12, x13, x14, x15, x16, x17, x18])), (q_1, .inl (dC 100, 885, .inl (fun _ => 0)))] := hD
  refine W.widen (k := 1) (n := 885) (Nat.le_of_ble_eq_true rfl) (Nat.le_of_ble_eq_true rfl) ?_
  refine va_putF (D := (dC, dI)) (ci := 3) (v := .ref q_1) (ty := .array .int) (C := rC_Fi) (T := fC_Fi) (N := 14) hx hb hbg iC_Fi tC_Fi oC_Fi nC_Fi hown hK.1 hP hD hS 0 rfl rfl 4 (by decide) (hbg _ wd_396) (fun _ h9 => h9) rfl hin rfl (by decide +kernel) rfl rfl (Nat.le_of_ble_eq_true rfl) dM_Fi_init_10 (fun H locs hP hD hS => ?_)
  have hP : va_P (dC, dI) classes [(h0, .inr (3, [.null, .null, .null, .null, .ref q_1, .null, .int 0, .null, .int 0, .int 0, .int 0, .int 0, .int 0, .int 0])), (de, .inr (2, [.ref st, .ref he, x2, x3, x4, x5, x6, x7, x8, x9, x10, x11, x12, x13, x14, x15, x16, x17, x18])), (q_1, .inl (dC 100, 885, .inl (fun _ => 0)))] H := hP
  have hD : va_D A [(h0, .inr (3, [.null, .null, .null, .null, .ref q_1, .null, .int 0, .null, .int 0, .int 0, .int 0, .int 0, .int 0, .int 0])), (de, .inr (2, [.ref st, .ref he, x2, x3, x4, x5, x6, x7, x8, x9, x10, x11, x12, x13, x14, x15, x16, x17, x18])), (q_1, .inl (dC 100, 885, .inl (fun _ => 0)))] := hD
  refine lv_aload_n hx hb dM_Fi_init_13 rfl (lv_at hl 0 rfl) ?_
  refine lv_sipush (v := 885) hx hb dM_Fi_init_14 (by decide) ?_
  refine n_newa (atype := .int) (N' := 885) (a0 := (885, .inl (fun _ => 0))) (ty := .int) (n := 885) hx hb (hbg _ wd_169) rfl hK.1 hP hD hS hA 0 rfl (fun _ => rfl) (by decide) (by decide) (Nat.le_of_ble_eq_true rfl) (Nat.le_of_ble_eq_true rfl) (Nat.le_of_ble_eq_true rfl) dM_Fi_init_17 (fun q_2 H hP hD hS => ?_)
  have hP : va_P (dC, dI) classes [(h0, .inr (3, [.null, .null, .null, .null, .ref q_1, .null, .int 0, .null, .int 0, .int 0, .int 0, .int 0, .int 0, .int 0])), (de, .inr (2, [.ref st, .ref he, x2, x3, x4, x5, x6, x7, x8, x9, x10, x11, x12, x13, x14, x15, x16, x17, x18])), (q_1, .inl (dC 100, 885, .inl (fun _ => 0))), (q_2, .inl (dC 100, 885, .inl (fun _ => 0)))] H := hP
  have hD : va_D A [(h0, .inr (3, [.null, .null, .null, .null, .ref q_1, .null, .int 0, .null, .int 0, .int 0, .int 0, .int 0, .int 0, .int 0])), (de, .inr (2, [.ref st, .ref he, x2, x3, x4, x5, x6, x7, x8, x9, x10, x11, x12, x13, x14, x15, x16, x17, x18])), (q_1, .inl (dC 100, 885, .inl (fun _ => 0))), (q_2, .inl (dC 100, 885, .inl (fun _ => 0)))] := hD
  refine W.widen (k := 2) (n := 1770) (Nat.le_of_ble_eq_true rfl) (Nat.le_of_ble_eq_true rfl) ?_
  refine va_putF (D := (dC, dI)) (ci := 3) (v := .ref q_2) (ty := .array .int) (C := rC_Fi) (T := fC_Fi) (N := 14) hx hb hbg iC_Fi tC_Fi oC_Fi nC_Fi hown hK.1 hP hD hS 0 rfl rfl 5 (by decide) (hbg _ wd_397) (fun _ h9 => h9) rfl hin rfl (by decide +kernel) rfl rfl (Nat.le_of_ble_eq_true rfl) dM_Fi_init_19 (fun H locs hP hD hS => ?_)
  have hP : va_P (dC, dI) classes [(h0, .inr (3, [.null, .null, .null, .null, .ref q_1, .ref q_2, .int 0, .null, .int 0, .int 0, .int 0, .int 0, .int 0, .int 0])), (de, .inr (2, [.ref st, .ref he, x2, x3, x4, x5, x6, x7, x8, x9, x10, x11, x12, x13, x14, x15, x16, x17, x18])), (q_1, .inl (dC 100, 885, .inl (fun _ => 0))), (q_2, .inl (dC 100, 885, .inl (fun _ => 0)))] H := hP
  have hD : va_D A [(h0, .inr (3, [.null, .null, .null, .null, .ref q_1, .ref q_2, .int 0, .null, .int 0, .int 0, .int 0, .int 0, .int 0, .int 0])), (de, .inr (2, [.ref st, .ref he, x2, x3, x4, x5, x6, x7, x8, x9, x10, x11, x12, x13, x14, x15, x16, x17, x18])), (q_1, .inl (dC 100, 885, .inl (fun _ => 0))), (q_2, .inl (dC 100, 885, .inl (fun _ => 0)))] := hD
  refine lv_aload_n hx hb dM_Fi_init_22 rfl (lv_at hl 0 rfl) ?_
  refine lv_sipush (v := 885) hx hb dM_Fi_init_23 (by decide) ?_
  refine n_newa (atype := .int) (N' := 885) (a0 := (885, .inl (fun _ => 0))) (ty := .int) (n := 885) hx hb (hbg _ wd_169) rfl hK.1 hP hD hS hA 0 rfl (fun _ => rfl) (by decide) (by decide) (Nat.le_of_ble_eq_true rfl) (Nat.le_of_ble_eq_true rfl) (Nat.le_of_ble_eq_true rfl) dM_Fi_init_26 (fun q_3 H hP hD hS => ?_)
  have hP : va_P (dC, dI) classes [(h0, .inr (3, [.null, .null, .null, .null, .ref q_1, .ref q_2, .int 0, .null, .int 0, .int 0, .int 0, .int 0, .int 0, .int 0])), (de, .inr (2, [.ref st, .ref he, x2, x3, x4, x5, x6, x7, x8, x9, x10, x11, x12, x13, x14, x15, x16, x17, x18])), (q_1, .inl (dC 100, 885, .inl (fun _ => 0))), (q_2, .inl (dC 100, 885, .inl (fun _ => 0))), (q_3, .inl (dC 100, 885, .inl (fun _ => 0)))] H := hP
  have hD : va_D A [(h0, .inr (3, [.null, .null, .null, .null, .ref q_1, .ref q_2, .int 0, .null, .int 0, .int 0, .int 0, .int 0, .int 0, .int 0])), (de, .inr (2, [.ref st, .ref he, x2, x3, x4, x5, x6, x7, x8, x9, x10, x11, x12, x13, x14, x15, x16, x17, x18])), (q_1, .inl (dC 100, 885, .inl (fun _ => 0))), (q_2, .inl (dC 100, 885, .inl (fun _ => 0))), (q_3, .inl (dC 100, 885, .inl (fun _ => 0)))] := hD
  refine W.widen (k := 3) (n := 2655) (Nat.le_of_ble_eq_true rfl) (Nat.le_of_ble_eq_true rfl) ?_
  refine va_putF (D := (dC, dI)) (ci := 3) (v := .ref q_3) (ty := .array .int) (C := rC_Fi) (T := fC_Fi) (N := 14) hx hb hbg iC_Fi tC_Fi oC_Fi nC_Fi hown hK.1 hP hD hS 0 rfl rfl 7 (by decide) (hbg _ wd_399) (fun _ h9 => h9) rfl hin rfl (by decide +kernel) rfl rfl (Nat.le_of_ble_eq_true rfl) dM_Fi_init_28 (fun H locs hP hD hS => ?_)
  have hP : va_P (dC, dI) classes [(h0, .inr (3, [.null, .null, .null, .null, .ref q_1, .ref q_2, .int 0, .ref q_3, .int 0, .int 0, .int 0, .int 0, .int 0, .int 0])), (de, .inr (2, [.ref st, .ref he, x2, x3, x4, x5, x6, x7, x8, x9, x10, x11, x12, x13, x14, x15, x16, x17, x18])), (q_1, .inl (dC 100, 885, .inl (fun _ => 0))), (q_2, .inl (dC 100, 885, .inl (fun _ => 0))), (q_3, .inl (dC 100, 885, .inl (fun _ => 0)))] H := hP
  have hD : va_D A [(h0, .inr (3, [.null, .null, .null, .null, .ref q_1, .ref q_2, .int 0, .ref q_3, .int 0, .int 0, .int 0, .int 0, .int 0, .int 0])), (de, .inr (2, [.ref st, .ref he, x2, x3, x4, x5, x6, x7, x8, x9, x10, x11, x12, x13, x14, x15, x16, x17, x18])), (q_1, .inl (dC 100, 885, .inl (fun _ => 0))), (q_2, .inl (dC 100, 885, .inl (fun _ => 0))), (q_3, .inl (dC 100, 885, .inl (fun _ => 0)))] := hD
  refine lv_aload_n hx hb dM_Fi_init_31 rfl (lv_at hl 0 rfl) ?_
  refine lv_aload_n hx hb dM_Fi_init_32 rfl (lv_at hl 1 rfl) ?_
  refine va_putF (D := (dC, dI)) (ci := 3) (v := .ref de) (ty := .object "NoteDocument$Desk") (C := rC_Fi) (T := fC_Fi) (N := 14) hx hb hbg iC_Fi tC_Fi oC_Fi nC_Fi hown hK.1 hP hD hS 0 rfl rfl 0 (by decide) (hbg _ wd_392) (fun _ h9 => h9) rfl hin rfl (by decide +kernel) rfl rfl (Nat.le_of_ble_eq_true rfl) dM_Fi_init_33 (fun H locs hP hD hS => ?_)
  have hP : va_P (dC, dI) classes [(h0, .inr (3, [.ref de, .null, .null, .null, .ref q_1, .ref q_2, .int 0, .ref q_3, .int 0, .int 0, .int 0, .int 0, .int 0, .int 0])), (de, .inr (2, [.ref st, .ref he, x2, x3, x4, x5, x6, x7, x8, x9, x10, x11, x12, x13, x14, x15, x16, x17, x18])), (q_1, .inl (dC 100, 885, .inl (fun _ => 0))), (q_2, .inl (dC 100, 885, .inl (fun _ => 0))), (q_3, .inl (dC 100, 885, .inl (fun _ => 0)))] H := hP
  have hD : va_D A [(h0, .inr (3, [.ref de, .null, .null, .null, .ref q_1, .ref q_2, .int 0, .ref q_3, .int 0, .int 0, .int 0, .int 0, .int 0, .int 0])), (de, .inr (2, [.ref st, .ref he, x2, x3, x4, x5, x6, x7, x8, x9, x10, x11, x12, x13, x14, x15, x16, x17, x18])), (q_1, .inl (dC 100, 885, .inl (fun _ => 0))), (q_2, .inl (dC 100, 885, .inl (fun _ => 0))), (q_3, .inl (dC 100, 885, .inl (fun _ => 0)))] := hD
  refine lv_aload_n hx hb dM_Fi_init_36 rfl (lv_at hl 0 rfl) ?_
  refine lv_aload_n hx hb dM_Fi_init_37 rfl (lv_at hl 1 rfl) ?_
  refine va_get (D := (dC, dI)) (ci := 2) (v := .ref he) (C := rC_De) (T := fC_De) (N := 19) hx hb hbg iC_De hown hK.1 hP 1 rfl rfl 1 (by decide) (hbg _ wd_274) (fun _ h9 => h9) rfl dM_Fi_init_38 ?_
  refine va_putF (D := (dC, dI)) (ci := 3) (v := .ref he) (ty := .object "NoteDocument$Heap") (C := rC_Fi) (T := fC_Fi) (N := 14) hx hb hbg iC_Fi tC_Fi oC_Fi nC_Fi hown hK.1 hP hD hS 0 rfl rfl 1 (by decide) (hbg _ wd_393) (fun _ h9 => h9) rfl hin rfl (by decide +kernel) rfl rfl (Nat.le_of_ble_eq_true rfl) dM_Fi_init_41 (fun H locs hP hD hS => ?_)
  have hP : va_P (dC, dI) classes [(h0, .inr (3, [.ref de, .ref he, .null, .null, .ref q_1, .ref q_2, .int 0, .ref q_3, .int 0, .int 0, .int 0, .int 0, .int 0, .int 0])), (de, .inr (2, [.ref st, .ref he, x2, x3, x4, x5, x6, x7, x8, x9, x10, x11, x12, x13, x14, x15, x16, x17, x18])), (q_1, .inl (dC 100, 885, .inl (fun _ => 0))), (q_2, .inl (dC 100, 885, .inl (fun _ => 0))), (q_3, .inl (dC 100, 885, .inl (fun _ => 0)))] H := hP
  have hD : va_D A [(h0, .inr (3, [.ref de, .ref he, .null, .null, .ref q_1, .ref q_2, .int 0, .ref q_3, .int 0, .int 0, .int 0, .int 0, .int 0, .int 0])), (de, .inr (2, [.ref st, .ref he, x2, x3, x4, x5, x6, x7, x8, x9, x10, x11, x12, x13, x14, x15, x16, x17, x18])), (q_1, .inl (dC 100, 885, .inl (fun _ => 0))), (q_2, .inl (dC 100, 885, .inl (fun _ => 0))), (q_3, .inl (dC 100, 885, .inl (fun _ => 0)))] := hD
  refine lv_aload_n hx hb dM_Fi_init_44 rfl (lv_at hl 0 rfl) ?_
  refine lv_aload_n hx hb dM_Fi_init_45 rfl (lv_at hl 1 rfl) ?_
  refine va_get (D := (dC, dI)) (ci := 2) (v := .ref st) (C := rC_De) (T := fC_De) (N := 19) hx hb hbg iC_De hown hK.1 hP 1 rfl rfl 0 (by decide) (hbg _ wd_271) (fun _ h9 => h9) rfl dM_Fi_init_46 ?_
  refine va_putF (D := (dC, dI)) (ci := 3) (v := .ref st) (ty := .object "NoteDocument$State") (C := rC_Fi) (T := fC_Fi) (N := 14) hx hb hbg iC_Fi tC_Fi oC_Fi nC_Fi hown hK.1 hP hD hS 0 rfl rfl 2 (by decide) (hbg _ wd_394) (fun _ h9 => h9) rfl hin rfl (by decide +kernel) rfl rfl (Nat.le_of_ble_eq_true rfl) dM_Fi_init_49 (fun H locs hP hD hS => ?_)
  have hP : va_P (dC, dI) classes [(h0, .inr (3, [.ref de, .ref he, .ref st, .null, .ref q_1, .ref q_2, .int 0, .ref q_3, .int 0, .int 0, .int 0, .int 0, .int 0, .int 0])), (de, .inr (2, [.ref st, .ref he, x2, x3, x4, x5, x6, x7, x8, x9, x10, x11, x12, x13, x14, x15, x16, x17, x18])), (q_1, .inl (dC 100, 885, .inl (fun _ => 0))), (q_2, .inl (dC 100, 885, .inl (fun _ => 0))), (q_3, .inl (dC 100, 885, .inl (fun _ => 0)))] H := hP
  have hD : va_D A [(h0, .inr (3, [.ref de, .ref he, .ref st, .null, .ref q_1, .ref q_2, .int 0, .ref q_3, .int 0, .int 0, .int 0, .int 0, .int 0, .int 0])), (de, .inr (2, [.ref st, .ref he, x2, x3, x4, x5, x6, x7, x8, x9, x10, x11, x12, x13, x14, x15, x16, x17, x18])), (q_1, .inl (dC 100, 885, .inl (fun _ => 0))), (q_2, .inl (dC 100, 885, .inl (fun _ => 0))), (q_3, .inl (dC 100, 885, .inl (fun _ => 0)))] := hD
  refine lv_aload_n hx hb dM_Fi_init_52 rfl (lv_at hl 0 rfl) ?_
  refine lv_aload_n hx hb dM_Fi_init_53 rfl (lv_at hl 2 rfl) ?_
  refine va_putF (D := (dC, dI)) (ci := 3) (v := .ref ru) (ty := .object "NoteDocument$Runne\x72") (C := rC_Fi) (T := fC_Fi) (N := 14) hx hb hbg iC_Fi tC_Fi oC_Fi nC_Fi hown hK.1 hP hD hS 0 rfl rfl 3 (by decide) (hbg _ wd_395) (fun _ h9 => h9) rfl hin rfl (by decide +kernel) rfl rfl (Nat.le_of_ble_eq_true rfl) dM_Fi_init_54 (fun H locs hP hD hS => ?_)
  have hP : va_P (dC, dI) classes [(h0, .inr (3, [.ref de, .ref he, .ref st, .ref ru, .ref q_1, .ref q_2, .int 0, .ref q_3, .int 0, .int 0, .int 0, .int 0, .int 0, .int 0])), (de, .inr (2, [.ref st, .ref he, x2, x3, x4, x5, x6, x7, x8, x9, x10, x11, x12, x13, x14, x15, x16, x17, x18])), (q_1, .inl (dC 100, 885, .inl (fun _ => 0))), (q_2, .inl (dC 100, 885, .inl (fun _ => 0))), (q_3, .inl (dC 100, 885, .inl (fun _ => 0)))] H := hP
  have hD : va_D A [(h0, .inr (3, [.ref de, .ref he, .ref st, .ref ru, .ref q_1, .ref q_2, .int 0, .ref q_3, .int 0, .int 0, .int 0, .int 0, .int 0, .int 0])), (de, .inr (2, [.ref st, .ref he, x2, x3, x4, x5, x6, x7, x8, x9, x10, x11, x12, x13, x14, x15, x16, x17, x18])), (q_1, .inl (dC 100, 885, .inl (fun _ => 0))), (q_2, .inl (dC 100, 885, .inl (fun _ => 0))), (q_3, .inl (dC 100, 885, .inl (fun _ => 0)))] := hD
  have hP9 := hP.pick (wc := [(h0, .inr (3, [.ref de, .ref he, .ref st, .ref ru, .ref q_1, .ref q_2, .int 0, .ref q_3, .int 0, .int 0, .int 0, .int 0, .int 0, .int 0])), (de, .inr (2, [.ref st, .ref he, x2, x3, x4, x5, x6, x7, x8, x9, x10, x11, x12, x13, x14, x15, x16, x17, x18]))]) [0, 1] rfl
  have hD9 := hD.sub (ws' := [(h0, .inr (3, [.ref de, .ref he, .ref st, .ref ru, .ref q_1, .ref q_2, .int 0, .ref q_3, .int 0, .int 0, .int 0, .int 0, .int 0, .int 0])), (de, .inr (2, [.ref st, .ref he, x2, x3, x4, x5, x6, x7, x8, x9, x10, x11, x12, x13, x14, x15, x16, x17, x18]))]) [0, 1] (by decide) rfl
  exact W.vret hx hb hr (fun t ht hW => ⟨⟨(), rfl, trivial, ⟨q_1, q_2, q_3, (by rw [ht]; exact hP9), hD9⟩⟩, hS.F ht⟩) hS.2.2 dM_Fi_init_57
set_option maxHeartbeats 4000000 in
set_option maxRecDepth 100000 in
theorem c_Mo_init (l : Launch) (dC : Nat → ClassId) (dI : Nat → Nat → Nat) (h0 : Nat) (st : Nat) (no : Nat) (sz : Nat) : Met l yM_Mo_init (wm yM_Mo_init cM_Mo_init 3 none) ({ frames := 60, cells := 3, slots := 70, locals := 1200 }) (nPc [.ref h0, .ref st, .ref no] (dC, dI) [(h0, .inr (5, [.null, .null, .null, .null, .null]))] sz) (va_Qv (fun (_ : Unit) => True) (fun (_ : Unit) t => True) (va_A [(h0, .inr (5, [.null, .null, .null, .null, .null]))] sz)) 3 70 (va_A [(h0, .inr (5, [.null, .null, .null, .null, .null]))] sz) := by
  refine Met.ofW (cc := cM_Mo_init) (maxL := 3) (ret := none) (by decide) rfl ?_
  intro p e s m args below meth c s₁ B hml hv
  obtain ⟨rfl, hsz, hP, hD0, hK, hN⟩ := hv
  have hx := B.exec
  have hb := B.bytes
  have hr := B.returns
  have hbg : ∀ w ∈ BIG, w.before ([.ref h0, .ref st, .ref no] : List Value).toArray s = true := fun w h => atoms_spec (ws := (wm yM_Mo_init cM_Mo_init 3 none)) B.pre w (List.mem_cons_of_mem _ h)
  have hown : s.vm.findClass "NoteDocument$Move\x72" = some m.cls := findClass_of_methodNamed B.named
  have hlocks := B.notSynchronized
  have hin : meth.name = "<init>" := (name_of_methodNamed B.named B.method).1
  subst hsz
  have hD := hD0.self (sz := s.heap.size)
  generalize hAe : va_A [(h0, .inr (5, [.null, .null, .null, .null, .null]))] s.heap.size = A at hD hN ⊢
  have hA : ∀ q : Nat, s.heap.size ≤ q → A q := fun q h => by rw [← hAe]; exact Or.inr h
  have hS : va_S A s.heap s.heap [] := va_S.rf
  have hP : va_P (dC, dI) classes [(h0, .inr (5, [.null, .null, .null, .null, .null]))] s.heap := hP
  have hl := lv_entry ([.ref h0, .ref st, .ref no] : List Value) (n := 3) (Nat.le_of_ble_eq_true rfl)
  rw [lg_entry_eq]
  generalize (lg_sl ([.ref h0, .ref st, .ref no] : List Value) ++ List.replicate (3 - (lg_sl ([.ref h0, .ref st, .ref no] : List Value)).length) Slot.unset).toArray = ls at hl ⊢
  have hl : lv_has ls 3 [(0, .ref h0), (1, .ref st), (2, .ref no)] := hl
  refine lv_aload_n hx hb dM_Mo_init_0 rfl (lv_at hl 0 rfl) ?_
  refine W.objInit hx hb hown (hbg _ wd_442) (hbg _ wd_43) (hbg _ wd_44) rfl (by rw [hml]; exact hl.1) rfl dM_Mo_init_1 (Nat.le_of_ble_eq_true rfl) (Nat.le_of_ble_eq_true rfl) ?_
  refine W.eq (g2 := F0 m 4 ls []) rfl ?_
  refine lv_aload_n hx hb dM_Mo_init_4 rfl (lv_at hl 0 rfl) ?_
  refine lv_bipush (v := 10) hx hb dM_Mo_init_5 (by decide) ?_
  refine n_newa (atype := .int) (N' := 10) (a0 := (10, .inl (fun _ => 0))) (ty := .int) (n := 10) hx hb (hbg _ wd_169) rfl hK.1 hP hD hS hA 0 rfl (fun _ => rfl) (by decide) (by decide) (Nat.le_of_ble_eq_true rfl) (Nat.le_of_ble_eq_true rfl) (Nat.le_of_ble_eq_true rfl) dM_Mo_init_7 (fun q_1 H hP hD hS => ?_)
  have hP : va_P (dC, dI) classes [(h0, .inr (5, [.null, .null, .null, .null, .null])), (q_1, .inl (dC 100, 10, .inl (fun _ => 0)))] H := hP
  have hD : va_D A [(h0, .inr (5, [.null, .null, .null, .null, .null])), (q_1, .inl (dC 100, 10, .inl (fun _ => 0)))] := hD
  refine W.widen (k := 1) (n := 10) (Nat.le_of_ble_eq_true rfl) (Nat.le_of_ble_eq_true rfl) ?_
  refine va_putF (D := (dC, dI)) (ci := 5) (v := .ref q_1) (ty := .array .int) (C := rC_Mo) (T := fC_Mo) (N := 5) hx hb hbg iC_Mo tC_Mo oC_Mo nC_Mo hown hK.1 hP hD hS 0 rfl rfl 2 (by decide) (hbg _ wd_445) (fun _ h9 => h9) rfl hin rfl (by decide +kernel) rfl rfl (Nat.le_of_ble_eq_true rfl) dM_Mo_init_9 (fun H locs hP hD hS => ?_)
  have hP : va_P (dC, dI) classes [(h0, .inr (5, [.null, .null, .ref q_1, .null, .null])), (q_1, .inl (dC 100, 10, .inl (fun _ => 0)))] H := hP
  have hD : va_D A [(h0, .inr (5, [.null, .null, .ref q_1, .null, .null])), (q_1, .inl (dC 100, 10, .inl (fun _ => 0)))] := hD
  refine lv_aload_n hx hb dM_Mo_init_12 rfl (lv_at hl 0 rfl) ?_
  refine lv_bipush (v := 10) hx hb dM_Mo_init_13 (by decide) ?_
  refine n_newa (atype := .int) (N' := 10) (a0 := (10, .inl (fun _ => 0))) (ty := .int) (n := 10) hx hb (hbg _ wd_169) rfl hK.1 hP hD hS hA 0 rfl (fun _ => rfl) (by decide) (by decide) (Nat.le_of_ble_eq_true rfl) (Nat.le_of_ble_eq_true rfl) (Nat.le_of_ble_eq_true rfl) dM_Mo_init_15 (fun q_2 H hP hD hS => ?_)
  have hP : va_P (dC, dI) classes [(h0, .inr (5, [.null, .null, .ref q_1, .null, .null])), (q_1, .inl (dC 100, 10, .inl (fun _ => 0))), (q_2, .inl (dC 100, 10, .inl (fun _ => 0)))] H := hP
  have hD : va_D A [(h0, .inr (5, [.null, .null, .ref q_1, .null, .null])), (q_1, .inl (dC 100, 10, .inl (fun _ => 0))), (q_2, .inl (dC 100, 10, .inl (fun _ => 0)))] := hD
  refine W.widen (k := 2) (n := 20) (Nat.le_of_ble_eq_true rfl) (Nat.le_of_ble_eq_true rfl) ?_
  refine va_putF (D := (dC, dI)) (ci := 5) (v := .ref q_2) (ty := .array .int) (C := rC_Mo) (T := fC_Mo) (N := 5) hx hb hbg iC_Mo tC_Mo oC_Mo nC_Mo hown hK.1 hP hD hS 0 rfl rfl 3 (by decide) (hbg _ wd_446) (fun _ h9 => h9) rfl hin rfl (by decide +kernel) rfl rfl (Nat.le_of_ble_eq_true rfl) dM_Mo_init_17 (fun H locs hP hD hS => ?_)
  have hP : va_P (dC, dI) classes [(h0, .inr (5, [.null, .null, .ref q_1, .ref q_2, .null])), (q_1, .inl (dC 100, 10, .inl (fun _ => 0))), (q_2, .inl (dC 100, 10, .inl (fun _ => 0)))] H := hP
  have hD : va_D A [(h0, .inr (5, [.null, .null, .ref q_1, .ref q_2, .null])), (q_1, .inl (dC 100, 10, .inl (fun _ => 0))), (q_2, .inl (dC 100, 10, .inl (fun _ => 0)))] := hD
  refine lv_aload_n hx hb dM_Mo_init_20 rfl (lv_at hl 0 rfl) ?_
  refine lv_bipush (v := 50) hx hb dM_Mo_init_21 (by decide) ?_
  refine n_newa (atype := .long) (N' := 50) (a0 := (50, .inr (.inl (fun _ => 0)))) (ty := .long) (n := 50) hx hb (hbg _ wd_170) rfl hK.1 hP hD hS hA 1 rfl (fun _ => rfl) (by decide) (by decide) (Nat.le_of_ble_eq_true rfl) (Nat.le_of_ble_eq_true rfl) (Nat.le_of_ble_eq_true rfl) dM_Mo_init_23 (fun q_3 H hP hD hS => ?_)
  have hP : va_P (dC, dI) classes [(h0, .inr (5, [.null, .null, .ref q_1, .ref q_2, .null])), (q_1, .inl (dC 100, 10, .inl (fun _ => 0))), (q_2, .inl (dC 100, 10, .inl (fun _ => 0))), (q_3, .inl (dC 101, 50, .inr (.inl (fun _ => 0))))] H := hP
  have hD : va_D A [(h0, .inr (5, [.null, .null, .ref q_1, .ref q_2, .null])), (q_1, .inl (dC 100, 10, .inl (fun _ => 0))), (q_2, .inl (dC 100, 10, .inl (fun _ => 0))), (q_3, .inl (dC 101, 50, .inr (.inl (fun _ => 0))))] := hD
  refine W.widen (k := 3) (n := 70) (Nat.le_of_ble_eq_true rfl) (Nat.le_of_ble_eq_true rfl) ?_
  refine va_putF (D := (dC, dI)) (ci := 5) (v := .ref q_3) (ty := .array .long) (C := rC_Mo) (T := fC_Mo) (N := 5) hx hb hbg iC_Mo tC_Mo oC_Mo nC_Mo hown hK.1 hP hD hS 0 rfl rfl 4 (by decide) (hbg _ wd_447) (fun _ h9 => h9) rfl hin rfl (by decide +kernel) rfl rfl (Nat.le_of_ble_eq_true rfl) dM_Mo_init_25 (fun H locs hP hD hS => ?_)
  have hP : va_P (dC, dI) classes [(h0, .inr (5, [.null, .null, .ref q_1, .ref q_2, .ref q_3])), (q_1, .inl (dC 100, 10, .inl (fun _ => 0))), (q_2, .inl (dC 100, 10, .inl (fun _ => 0))), (q_3, .inl (dC 101, 50, .inr (.inl (fun _ => 0))))] H := hP
  have hD : va_D A [(h0, .inr (5, [.null, .null, .ref q_1, .ref q_2, .ref q_3])), (q_1, .inl (dC 100, 10, .inl (fun _ => 0))), (q_2, .inl (dC 100, 10, .inl (fun _ => 0))), (q_3, .inl (dC 101, 50, .inr (.inl (fun _ => 0))))] := hD
  refine lv_aload_n hx hb dM_Mo_init_28 rfl (lv_at hl 0 rfl) ?_
  refine lv_aload_n hx hb dM_Mo_init_29 rfl (lv_at hl 1 rfl) ?_
  refine va_putF (D := (dC, dI)) (ci := 5) (v := .ref st) (ty := .object "NoteDocument$State") (C := rC_Mo) (T := fC_Mo) (N := 5) hx hb hbg iC_Mo tC_Mo oC_Mo nC_Mo hown hK.1 hP hD hS 0 rfl rfl 0 (by decide) (hbg _ wd_443) (fun _ h9 => h9) rfl hin rfl (by decide +kernel) rfl rfl (Nat.le_of_ble_eq_true rfl) dM_Mo_init_30 (fun H locs hP hD hS => ?_)
  have hP : va_P (dC, dI) classes [(h0, .inr (5, [.ref st, .null, .ref q_1, .ref q_2, .ref q_3])), (q_1, .inl (dC 100, 10, .inl (fun _ => 0))), (q_2, .inl (dC 100, 10, .inl (fun _ => 0))), (q_3, .inl (dC 101, 50, .inr (.inl (fun _ => 0))))] H := hP
  have hD : va_D A [(h0, .inr (5, [.ref st, .null, .ref q_1, .ref q_2, .ref q_3])), (q_1, .inl (dC 100, 10, .inl (fun _ => 0))), (q_2, .inl (dC 100, 10, .inl (fun _ => 0))), (q_3, .inl (dC 101, 50, .inr (.inl (fun _ => 0))))] := hD
  refine lv_aload_n hx hb dM_Mo_init_33 rfl (lv_at hl 0 rfl) ?_
  refine lv_aload_n hx hb dM_Mo_init_34 rfl (lv_at hl 2 rfl) ?_
  refine va_putF (D := (dC, dI)) (ci := 5) (v := .ref no) (ty := .object "NoteDocument$Nodes") (C := rC_Mo) (T := fC_Mo) (N := 5) hx hb hbg iC_Mo tC_Mo oC_Mo nC_Mo hown hK.1 hP hD hS 0 rfl rfl 1 (by decide) (hbg _ wd_444) (fun _ h9 => h9) rfl hin rfl (by decide +kernel) rfl rfl (Nat.le_of_ble_eq_true rfl) dM_Mo_init_35 (fun H locs hP hD hS => ?_)
  have hP : va_P (dC, dI) classes [(h0, .inr (5, [.ref st, .ref no, .ref q_1, .ref q_2, .ref q_3])), (q_1, .inl (dC 100, 10, .inl (fun _ => 0))), (q_2, .inl (dC 100, 10, .inl (fun _ => 0))), (q_3, .inl (dC 101, 50, .inr (.inl (fun _ => 0))))] H := hP
  have hD : va_D A [(h0, .inr (5, [.ref st, .ref no, .ref q_1, .ref q_2, .ref q_3])), (q_1, .inl (dC 100, 10, .inl (fun _ => 0))), (q_2, .inl (dC 100, 10, .inl (fun _ => 0))), (q_3, .inl (dC 101, 50, .inr (.inl (fun _ => 0))))] := hD
  exact W.vret hx hb hr (fun t ht hW => ⟨⟨(), rfl, trivial, trivial⟩, hS.F ht⟩) hS.2.2 dM_Mo_init_38
